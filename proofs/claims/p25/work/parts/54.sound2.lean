def gLem (sc : List Nat) (Q : Nat → zM → Prop) (W : List (Nat × Nat × Nat)) (BF : Nat) (m0 : zM) (ρ0 : Nat → Nat) (c : eCt) (k : Nat) : Prop :=
  ∀ P ∈ c.2.2, ∀ (ρ : Nat → Nat) (frs : gCf) (i pc : Nat) (cl cst : List Nat) (m : zM) (Bc : Nat), gAg 10000 ρ0 ρ → gS sc Bc ρ P frs i pc cl cst m → gM Bc m → gW W m0 m → gRg c.2.1 (ρ c.2.1.1) → Bc + k ≤ BF → gFin sc Q frs i pc cl cst m
/-- the check of n steps holds what it says -/
def gChk (sc : List Nat) (cf : eCf) (Q : Nat → zM → Prop) (BF : Nat) (m0 : zM) (ρ0 : Nat → Nat) (n : Nat) : Prop :=
  ∀ (skip : Bool) (hy : List eCt) (s : eS) (c : Nat), eChk cf n skip hy s = some c → ∀ (ρ : Nat → Nat) (frs : gCf) (i pc : Nat) (cl cst : List Nat) (m : zM) (Bc X : Nat), gAg 10000 ρ0 ρ → gS sc Bc ρ s frs i pc cl cst m → gM Bc m → gW cf.2.2.1 m0 m → gHy sc Q cf.2.2.1 BF m0 hy ρ s.2.2.2.2.2.2 X → Bc + c + X ≤ BF → gFin sc Q frs i pc cl cst m
def gRem (ms : Nat × Nat × Nat × Nat) (x : Nat) : Nat := if ms.2.1 = 1 then ms.2.2.2 - zs x else zs x - ms.2.2.1
section FE
variable {sc : List Nat} {cf : eCf} {Q : Nat → zM → Prop} {BF : Nat} {m0 : zM} {ρ0 : Nat → Nat}
theorem eWfC_at {c : eCt} {P : eS} (h : eWfC c = true) (hP : P ∈ c.2.2) : eWf c.1 P = true ∧ c.2.1.1 < P.2.2.2.2.2.2 ∧ c.1 ≤ c.2.1.1 ∧ 10000 ≤ c.1 ∧ c.1 ≤ P.2.2.2.2.2.2 := by
  simp only [eWfC, Bool.and_eq_true, nl_le] at h
  have h2 := List.all_eq_true.mp h.1 P hP
  simp only [Bool.and_eq_true, nl_lt] at h2
  have h3 := h2.1
  simp only [eWf, Bool.and_eq_true, nl_le] at h3
  exact ⟨h2.1, h2.2, h.2, h3.1.1.1, h3.1.1.2⟩
theorem eFitsC_ok {Bc : Nat} {c : eCt} {ρ : Nat → Nat} {s : eS} {frs : gCf} {i pc : Nat} {cl cst : List Nat} {m : zM} (hD : eDat = true) (hw : eWfC c = true) (h : eFitsC c s = true) (hS : gS sc Bc ρ s frs i pc cl cst m) : ∃ P ∈ c.2.2, ∃ ρ2, gAg c.1 ρ ρ2 ∧ gS sc Bc ρ2 P frs i pc cl cst m ∧ (ρ2 c.2.1.1 < 4294967296 ∧ c.2.1.2.2.1 ≤ zs (ρ2 c.2.1.1) ∧ zs (ρ2 c.2.1.1) ≤ c.2.1.2.2.2) := by
  obtain ⟨P, hP, hb⟩ := List.any_eq_true.mp h
  obtain ⟨w1, w2, w3, w4, w5⟩ := eWfC_at hw hP
  simp only [Bool.and_eq_true] at hb
  obtain ⟨b1, b2⟩ := hb
  obtain ⟨ρ2, e1, e2, e3⟩ := eMatch_ok hD w1 b1 hS
  split at b2
  · rename_i e he
    obtain ⟨x1, ⟨x2, x3⟩, -⟩ := gA_i0 (eSub_ok b2 (e3 _ _ w3 he).1)
    exact ⟨P, hP, ρ2, e1, e2, x1, x2, x3⟩
  · cases b2
theorem eLoop_ok {n b X nxe : Nat} {hy : List eCt} {c : eCt} {ρe : Nat → Nat} (ih : gChk sc cf Q BF m0 ρ0 n) (hw : eWfC c = true) (hd : c.2.1.2.1 = 1 ∨ c.2.1.2.1 = 2) (hok : eHyOk hy c = true) (hb : eMaxM (eChk cf n true (c :: hy)) c.2.2 = some b) (h0 : gAg 10000 ρ0 ρe) (hh : gHy sc Q cf.2.2.1 BF m0 hy ρe nxe X) : ∀ (M : Nat) (P : eS), P ∈ c.2.2 → ∀ (ρ : Nat → Nat) (frs : gCf) (i pc : Nat) (cl cst : List Nat) (m : zM) (Bc : Nat), gAg c.1 ρe ρ → gS sc Bc ρ P frs i pc cl cst m → gM Bc m → gW cf.2.2.1 m0 m → gRg c.2.1 (ρ c.2.1.1) → gRem c.2.1 (ρ c.2.1.1) ≤ M → Bc + (M + 1) * b + X ≤ BF → gFin sc Q frs i pc cl cst m := by
  intro M
  induction M with
  | zero =>
    intro P hP ρ frs i pc cl cst m Bc g1 g2 g3 g4 g5 g6 g7
    obtain ⟨w1, w2, w3, w4, w5⟩ := eWfC_at hw hP
    obtain ⟨b2, e1, e2⟩ := eMaxM_ok hb hP
    refine ih true (c :: hy) P b2 e1 ρ frs i pc cl cst m Bc X (fun x hx => (g1 x (by omega)).trans (h0 x hx)) g2 g3 g4 (fun d hdm => ?_) (by omega)
    rcases List.mem_cons.mp hdm with rfl | hdm
    · refine ⟨hw, ⟨w5, w2⟩, g5, fun P' hP' ρ' frs' i' pc' cl' cst' m' Bc' a1 a2 a3 a4 a5 a6 => ?_⟩
      exfalso
      rcases a5 with a5 | ⟨a5, a7⟩
      · omega
      · rcases a5 with a5 | ⟨a8, a9, a10⟩
        · omega
        · unfold gRem at g6
          rcases a7 with ⟨a7, a11⟩ | ⟨a7, a11⟩
          · rw [if_pos a7] at g6
            omega
          · rw [if_neg a7] at g6
            omega
    · have q := List.all_eq_true.mp hok d hdm
      simp only [Bool.and_eq_true, nl_lt] at q
      have hh2 : gHy sc Q cf.2.2.1 BF m0 hy ρe c.1 X := fun d2 hd2 => by
        have q2 := List.all_eq_true.mp hok d2 hd2
        simp only [Bool.and_eq_true, nl_lt] at q2
        obtain ⟨u1, -, u2⟩ := hh d2 hd2
        exact ⟨u1, ⟨Nat.le_of_lt q2.1, q2.2⟩, u2⟩
      exact gHy_ext hh2 g1 w5 (Nat.le_refl _) d hdm
  | succ M IH =>
    intro P hP ρ frs i pc cl cst m Bc g1 g2 g3 g4 g5 g6 g7
    obtain ⟨w1, w2, w3, w4, w5⟩ := eWfC_at hw hP
    obtain ⟨b2, e1, e2⟩ := eMaxM_ok hb hP
    have em : (M + 1 + 1) * b = (M + 1) * b + b := Nat.succ_mul _ _
    refine ih true (c :: hy) P b2 e1 ρ frs i pc cl cst m Bc ((M + 1) * b + X) (fun x hx => (g1 x (by omega)).trans (h0 x hx)) g2 g3 g4 (fun d hdm => ?_) (by omega)
    rcases List.mem_cons.mp hdm with rfl | hdm
    · refine ⟨hw, ⟨w5, w2⟩, g5, fun P' hP' ρ' frs' i' pc' cl' cst' m' Bc' a1 a2 a3 a4 a5 a6 => ?_⟩
      rcases a5 with a5 | ⟨a5, a7⟩
      · omega
      · refine IH P' hP' ρ' frs' i' pc' cl' cst' m' Bc' (fun x hx => (a1 x hx).trans (g1 x hx)) a2 a3 a4 a5 ?_ (by omega)
        rcases a5 with a5 | ⟨a8, a9, a10⟩
        · omega
        · unfold gRem at g6 ⊢
          rcases a7 with ⟨a7, a11⟩ | ⟨a7, a11⟩
          · rw [if_pos a7] at g6 ⊢
            omega
          · rw [if_neg a7] at g6 ⊢
            omega
    · have hh2 : gHy sc Q cf.2.2.1 BF m0 hy ρe c.1 X := fun d2 hd2 => by
        have q2 := List.all_eq_true.mp hok d2 hd2
        simp only [Bool.and_eq_true, nl_lt] at q2
        obtain ⟨u1, -, u2⟩ := hh d2 hd2
        exact ⟨u1, ⟨Nat.le_of_lt q2.1, q2.2⟩, u2⟩
      exact gHy_ext hh2 g1 w5 (Nat.le_add_left _ _) d hdm
end FE
