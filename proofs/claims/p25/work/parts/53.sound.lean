/-! ===== THE CHECK IS SOUND ===== -/
def eWfC (c : eCt) : Bool := c.2.2.all (fun P => eWf c.1 P && Nat.blt c.2.1.1 P.2.2.2.2.2.2) && Nat.ble c.1 c.2.1.1
/-- within the measure's bounds -/
def gRg (ms : Nat × Nat × Nat × Nat) (x : Nat) : Prop := ms.2.1 = 0 ∨ (x < 4294967296 ∧ ms.2.2.1 ≤ zs x ∧ zs x ≤ ms.2.2.2)
/-- the measure has gone on -/
def gMs (ms : Nat × Nat × Nat × Nat) (V x : Nat) : Prop := ms.2.1 = 0 ∨ (gRg ms x ∧ ((ms.2.1 = 1 ∧ zs V < zs x) ∨ (ms.2.1 ≠ 1 ∧ zs x < zs V)))
def gHyp (sc : List Nat) (Q : Nat → zM → Prop) (W : List (Nat × Nat × Nat)) (BF : Nat) (m0 : zM) (c : eCt) (ρh : Nat → Nat) (X : Nat) : Prop :=
  ∀ P ∈ c.2.2, ∀ (ρ : Nat → Nat) (frs : gCf) (i pc : Nat) (cl cst : List Nat) (m : zM) (Bc : Nat), gAg c.1 ρh ρ → gS sc Bc ρ P frs i pc cl cst m → gM Bc m → gW W m0 m → gMs c.2.1 (ρh c.2.1.1) (ρ c.2.1.1) → Bc + X ≤ BF → gFin sc Q frs i pc cl cst m
def gHy (sc : List Nat) (Q : Nat → zM → Prop) (W : List (Nat × Nat × Nat)) (BF : Nat) (m0 : zM) (hy : List eCt) (ρ : Nat → Nat) (nx X : Nat) : Prop :=
  ∀ d ∈ hy, eWfC d = true ∧ (d.1 ≤ nx ∧ d.2.1.1 < nx) ∧ gRg d.2.1 (ρ d.2.1.1) ∧ gHyp sc Q W BF m0 d ρ X
section FD
variable {sc : List Nat} {Q : Nat → zM → Prop} {W : List (Nat × Nat × Nat)} {BF : Nat} {m0 : zM}
theorem gHy_ext {hy : List eCt} {ρ ρ2 : Nat → Nat} {nx nx2 X X2 : Nat} (h : gHy sc Q W BF m0 hy ρ nx X) (ha : gAg nx ρ ρ2) (hn : nx ≤ nx2) (hX : X ≤ X2) : gHy sc Q W BF m0 hy ρ2 nx2 X2 := fun d hd => by
  obtain ⟨h0, ⟨h1, h2⟩, h3, h4⟩ := h d hd
  refine ⟨h0, ⟨by omega, by omega⟩, by rw [ha _ h2]; exact h3, fun P hP ρ' frs i pc cl cst m Bc g1 g2 g3 g4 g5 g6 => h4 P hP ρ' frs i pc cl cst m Bc (fun x hx => (g1 x hx).trans (ha x (by omega))) g2 g3 g4 ?_ (by omega)⟩
  rw [ha _ h2] at g5
  exact g5
theorem zs_two (c : Nat) : (c < 2147483648 ∧ zs c = c + 2147483648) ∨ (2147483648 ≤ c ∧ zs c = c - 2147483648) := by
  by_cases q : c < 2147483648
  · exact Or.inl ⟨q, zs_lo q⟩
  · exact Or.inr ⟨by omega, zs_hi q⟩
theorem ms_up {V x off lo hi : Nat} (hV : V < 4294967296) (hx : x = (V + off) % 4294967296) (h1 : lo ≤ zs V) (h2 : zs V ≤ hi) (h3 : lo ≤ zs x) (h4 : zs x ≤ hi) (h5 : 0 < off) (h6 : hi - lo + off < 4294967296) : zs V < zs x := by
  have e : x = V + off ∨ x = V + off - 4294967296 ∧ 4294967296 ≤ V + off := by omega
  rcases zs_two V with ⟨a1, a2⟩ | ⟨a1, a2⟩ <;> rcases zs_two x with ⟨b1, b2⟩ | ⟨b1, b2⟩ <;> rw [a2] at h1 h2 ⊢ <;> rw [b2] at h3 h4 ⊢ <;> clear a2 b2 hx <;> omega
theorem ms_dn {V x off lo hi : Nat} (hV : V < 4294967296) (hx : x = (V + off) % 4294967296) (h1 : lo ≤ zs V) (h2 : zs V ≤ hi) (h3 : lo ≤ zs x) (h4 : zs x ≤ hi) (h5 : 0 < off) (h7 : off < 4294967296) (h6 : hi - lo + (4294967296 - off) < 4294967296) : zs x < zs V := by
  have e : x = V + off ∨ x = V + off - 4294967296 ∧ 4294967296 ≤ V + off := by omega
  rcases zs_two V with ⟨a1, a2⟩ | ⟨a1, a2⟩ <;> rcases zs_two x with ⟨b1, b2⟩ | ⟨b1, b2⟩ <;> rw [a2] at h1 h2 ⊢ <;> rw [b2] at h3 h4 ⊢ <;> clear a2 b2 hx <;> omega
/-- a state that comes back to a row that waits -/
theorem eBack_ok {Bc X : Nat} {hy : List eCt} {d : eCt} {ρ : Nat → Nat} {s : eS} {frs : gCf} {i pc : Nat} {cl cst : List Nat} {m : zM} (hD : eDat = true) (hd : d ∈ hy) (hh : gHy sc Q W BF m0 hy ρ s.2.2.2.2.2.2 X) (h : eBack d s = true) (hS : gS sc Bc ρ s frs i pc cl cst m) (hM : gM Bc m) (hW : gW W m0 m) (hB : Bc + X ≤ BF) : gFin sc Q frs i pc cl cst m := by
  obtain ⟨h0, ⟨h1, h2⟩, h3, h4⟩ := hh d hd
  simp only [eWfC, Bool.and_eq_true, nl_le] at h0
  obtain ⟨w1, w2⟩ := h0
  obtain ⟨P, hP, hb⟩ := List.any_eq_true.mp h
  have wP := List.all_eq_true.mp w1 P hP
  simp only [Bool.and_eq_true, nl_lt] at wP hb
  obtain ⟨b1, b2⟩ := hb
  obtain ⟨ρ2, e1, e2, e3⟩ := eMatch_ok hD wP.1 b1 hS
  split at b2
  · rename_i e he
    have g := e3 _ _ w2 he
    refine h4 P hP ρ2 frs i pc cl cst m Bc e1 e2 hM hW ?_ hB
    rcases h3 with h3 | ⟨v1, v2, v3⟩
    · exact Or.inl h3
    simp only [eMeasE, Bool.or_eq_true, Bool.and_eq_true, nb_eq] at b2
    rcases b2 with b2 | ⟨⟨b2, b3⟩, b4⟩
    · exact Or.inl b2
    obtain ⟨x1, ⟨x2, x3⟩, -⟩ := gA_i0 (eSub_ok b3 g.1)
    by_cases q0 : eId e = 0
    · exfalso
      have := wP.2
      simp only [eWf, Bool.and_eq_true, nl_le] at wP
      omega
    have gv := gV_int (g.2.1.resolve_left q0) x1
    rw [b2] at gv
    refine Or.inr ⟨Or.inr ⟨x1, x2, x3⟩, ?_⟩
    rcases cs_eq b4 with ⟨q, b4⟩ | ⟨q, b4⟩
    · simp only [Bool.and_eq_true, nl_lt] at b4
      exact Or.inl ⟨q, ms_up v1 gv v2 v3 x2 x3 b4.1 b4.2⟩
    · simp only [Bool.and_eq_true, nl_lt] at b4
      exact Or.inr ⟨q, ms_dn v1 gv v2 v3 x2 x3 b4.2.1 (by omega) b4.2.2⟩
  · cases b2
end FD
