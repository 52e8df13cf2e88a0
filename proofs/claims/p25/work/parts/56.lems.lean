section FG
variable {sc : List Nat} {cf : eCf} {BF : Nat} {m0 : zM} {ρ0 : Nat → Nat}
theorem eLems_ok (hD : eDat = true) (hBF : BF ≤ 1073741824) (hsu : ∀ q ∈ cf.1, gSum sc q ∧ eWf 10000 q.2.1 = true) (hcu : ∀ c ∈ cf.2.2.2.2.1, eWfC c = true ∧ (c.2.1.2.1 = 1 ∨ c.2.1.2.1 = 2)) (hle : ∀ q ∈ cf.2.2.2.2.2.2, eWfC q.1 = true ∧ gLem sc (gQ sc cf.2.2.2.1 cf.2.2.1 BF m0 ρ0) cf.2.2.1 BF m0 ρ0 q.1 q.2) {fuel : Nat} : ∀ {cs : List eCt} {L : List (eCt × Nat)}, eLems cf fuel cs = some L → (∀ c ∈ cs, eWfC c = true ∧ (c.2.1.2.1 = 1 ∨ c.2.1.2.1 = 2)) → ∀ q ∈ L, eWfC q.1 = true ∧ gLem sc (gQ sc cf.2.2.2.1 cf.2.2.1 BF m0 ρ0) cf.2.2.1 BF m0 ρ0 q.1 q.2
  | [], L, h, _ => by
    cases h
    exact hle
  | c :: t, L, h, hc => by
    simp only [eLems] at h
    split at h
    · rename_i L2 h2
      have IH := eLems_ok hD hBF hsu hcu hle h2 (fun c hm => hc c (List.mem_cons_of_mem _ hm))
      split at h
      · rename_i b hb
        cases h
        obtain ⟨u1, u2⟩ := hc c List.mem_cons_self
        intro q hq
        rcases List.mem_cons.mp hq with rfl | hq
        · refine ⟨u1, fun P hP ρ frs i pc cl cst m Bc g0 g1 g2 g3 g4 g5 => ?_⟩
          have g4 : gRg c.2.1 (ρ c.2.1.1) := g4
          have ih := eChk_ok (sc := sc) (cf := (cf.1, cf.2.1, cf.2.2.1, cf.2.2.2.1, cf.2.2.2.2.1, cf.2.2.2.2.2.1, L2)) (m0 := m0) (ρ0 := ρ0) hD hBF hsu hcu IH fuel
          refine eLoop_ok (X := 0) (nxe := 0) (hy := []) ih u1 u2 rfl hb g0 (fun d hd => by cases hd) (c.2.1.2.2.2 - c.2.1.2.2.1) P hP ρ frs i pc cl cst m Bc gAg_rf g1 g2 g3 g4 ?_ g5
          rcases g4 with g4 | ⟨a1, a2, a3⟩
          · omega
          · unfold gRem
            split <;> omega
        · exact IH q hq
      · cases h
    · cases h
/-- a method's row holds when its check comes out -/
theorem gSum_of {q : eSm} {su : List eSm} {inl : List Nat × List (Nat × Nat)} {cu : List eCt} {sp : List eSp} {L : List (eCt × Nat)} {fuel k : Nat} {lems : List eCt} (hD : eDat = true) (hsu : ∀ q ∈ su, gSum sc q ∧ eWf 10000 q.2.1 = true) (hcu : ∀ c ∈ cu, eWfC c = true ∧ (c.2.1.2.1 = 1 ∨ c.2.1.2.1 = 2)) (hlm : ∀ c ∈ lems, eWfC c = true ∧ (c.2.1.2.1 = 1 ∨ c.2.1.2.1 = 2)) (hl : eLems (su, inl, q.2.2.2.1, q.2.2.1, cu, sp, []) fuel lems = some L) (h : eChk (su, inl, q.2.2.2.1, q.2.2.1, cu, sp, L) fuel false [] q.2.1 = some k) (hk : k ≤ q.2.2.2.2) : gSum sc q := by
  intro ρ cl m Bc g1 g2 g3
  have hle := eLems_ok (sc := sc) (cf := (su, inl, q.2.2.2.1, q.2.2.1, cu, sp, [])) (BF := Bc + q.2.2.2.2) (m0 := m) (ρ0 := ρ) hD g3 hsu hcu (fun q hq => by cases hq) hl hlm
  have hc := eChk_ok (sc := sc) (cf := (su, inl, q.2.2.2.1, q.2.2.1, cu, sp, L)) (BF := Bc + q.2.2.2.2) (m0 := m) (ρ0 := ρ) hD g3 hsu hcu hle fuel
  exact hc false [] q.2.1 k h ρ [] _ _ cl [] m Bc 0 gAg_rf g1 g2 gW_rf (fun d hd => by cases hd) (by omega)
end FG
