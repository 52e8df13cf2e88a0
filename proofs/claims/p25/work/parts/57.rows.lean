/-! ===== small rows for the checks ===== -/
set_option maxRecDepth 100000 in
theorem eDat_t : eDat = true := by decide +kernel
theorem gCu_of {cu : List eCt} (h : cu.all (fun c => eWfC c && (Nat.beq c.2.1.2.1 1 || Nat.beq c.2.1.2.1 2)) = true) : ∀ c ∈ cu, eWfC c = true ∧ (c.2.1.2.1 = 1 ∨ c.2.1.2.1 = 2) := by
  intro c hc
  have := List.all_eq_true.mp h c hc
  simp only [Bool.and_eq_true, Bool.or_eq_true, nb_eq] at this
  exact this
theorem gSu_cons {sc : List Nat} {q : eSm} {su : List eSm} (h1 : gSum sc q) (h2 : eWf 10000 q.2.1 = true) (h : ∀ q ∈ su, gSum sc q ∧ eWf 10000 q.2.1 = true) : ∀ q2 ∈ q :: su, gSum sc q2 ∧ eWf 10000 q2.2.1 = true := by
  intro q2 h3
  rcases List.mem_cons.mp h3 with rfl | h3
  · exact ⟨h1, h2⟩
  · exact h q2 h3
/-- rows of places that are proved already -/
def gLs (sc : List Nat) (E : List (eE × List eF)) (W : List (Nat × Nat × Nat)) (L : List (eCt × Nat)) : Prop := ∀ (BF : Nat) (m0 : zM) (ρ0 : Nat → Nat), BF ≤ 1073741824 → ∀ q ∈ L, eWfC q.1 = true ∧ gLem sc (gQ sc E W BF m0 ρ0) W BF m0 ρ0 q.1 q.2
theorem gLs_cons {sc : List Nat} {E : List (eE × List eF)} {W : List (Nat × Nat × Nat)} {c : eCt} {k : Nat} {L : List (eCt × Nat)} (hw : eWfC c = true) (h1 : ∀ (BF : Nat) (m0 : zM) (ρ0 : Nat → Nat), BF ≤ 1073741824 → gLem sc (gQ sc E W BF m0 ρ0) W BF m0 ρ0 c k) (h2 : gLs sc E W L) : gLs sc E W ((c, k) :: L) := by
  intro BF m0 ρ0 hB q hq
  rcases List.mem_cons.mp hq with rfl | hq
  · exact ⟨hw, h1 BF m0 ρ0 hB⟩
  · exact h2 BF m0 ρ0 hB q hq
theorem eLem_of {sc : List Nat} {E : List (eE × List eF)} {W : List (Nat × Nat × Nat)} {su : List eSm} {inl : List Nat × List (Nat × Nat)} {sp : List eSp} {n k : Nat} {c : eCt} (hD : eDat = true) (hsu : ∀ q ∈ su, gSum sc q ∧ eWf 10000 q.2.1 = true) (h : eMaxM (eChk (su, inl, W, E, [], sp, []) n true []) c.2.2 = some k) : ∀ (BF : Nat) (m0 : zM) (ρ0 : Nat → Nat), BF ≤ 1073741824 → gLem sc (gQ sc E W BF m0 ρ0) W BF m0 ρ0 c k := by
  intro BF m0 ρ0 hB P hP ρ frs i pc cl cst m Bc g0 g1 g2 g3 _ g5
  obtain ⟨b2, e1, e2⟩ := eMaxM_ok h hP
  have hc := eChk_ok (sc := sc) (cf := (su, inl, W, E, [], sp, [])) (BF := BF) (m0 := m0) (ρ0 := ρ0) hD hB hsu (fun c hc => by cases hc) (fun q hq => by cases hq) n
  exact hc true [] P b2 e1 ρ frs i pc cl cst m Bc 0 g0 g1 g2 g3 (fun d hd => by cases hd) (by omega)
/-- a check from any place -/
theorem eGo_of {sc : List Nat} {S : eS} {E : List (eE × List eF)} {W : List (Nat × Nat × Nat)} {su : List eSm} {inl : List Nat × List (Nat × Nat)} {cu : List eCt} {sp : List eSp} {L : List (eCt × Nat)} {fuel k BF : Nat} (hD : eDat = true) (hsu : ∀ q ∈ su, gSum sc q ∧ eWf 10000 q.2.1 = true) (hcu : ∀ c ∈ cu, eWfC c = true ∧ (c.2.1.2.1 = 1 ∨ c.2.1.2.1 = 2)) (hL : gLs sc E W L) (h : eChk (su, inl, W, E, cu, sp, L) fuel false [] S = some k) {Bc : Nat} (hk : Bc + k ≤ BF) (hB : BF ≤ 1073741824) {ρ : Nat → Nat} {i pc : Nat} {cl cst : List Nat} {m : zM} (g1 : gS sc Bc ρ S [] i pc cl cst m) (g2 : gM Bc m) : gFin sc (gQ sc E W BF m ρ) [] i pc cl cst m := by
  have hc := eChk_ok (sc := sc) (cf := (su, inl, W, E, cu, sp, L)) (BF := BF) (m0 := m) (ρ0 := ρ) hD hB hsu hcu (hL BF m ρ hB) fuel
  exact hc false [] S k h ρ [] _ _ cl cst m Bc 0 gAg_rf g1 g2 gW_rf (fun d hd => by cases hd) (by omega)
