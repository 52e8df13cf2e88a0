/-! ===== sums, products, comparisons ===== -/
section EQ
variable {sc : List Nat} {W : List (Nat × Nat × Nat)} {Bc : Nat} {ρ : Nat → Nat} {nx : Nat} {fr : List eFr} {frs : gCf} {i w pc k : Nat} {ls st : List eE} {cl cst : List Nat} {fs : List eF} {m : zM} {L : List eS}
theorem gV_0 {id off c : Nat} (h : gV ρ id off c) (hc : c < 4294967296) (ho : off = 0) : ρ id = c := by
  rcases h with ⟨-, h1, h2⟩ | ⟨h1, -⟩
  · subst ho
    rw [Nat.add_zero, Nat.mod_eq_of_lt h1] at h2
    exact h2.symm
  · omega
theorem eNm_ok {e : eE} {c : Nat} (hn : 0 < nx) (h : eHasNm e = true) (h0 : e.1 = 0) (g : gE Bc ρ nx e c) : gNv ρ (eNm e) = c ∧ eNm e / 4294967296 < nx := by
  obtain ⟨t, lo, hi, st, id, off⟩ := e
  have h0 : t = 0 := h0
  subst h0
  obtain ⟨g1, g2, g3⟩ := g
  obtain ⟨a1, ⟨a2, a3⟩, -⟩ := gA_i0 g1
  simp only [eHasNm, Bool.or_eq_true, Bool.and_eq_true, nb_eq, nl_lt] at h
  simp only [eNm]
  cases q : (Nat.beq 0 0 && Nat.beq lo hi)
  · rw [cond_false]
    have hq : ¬ (0 = 0 ∧ lo = hi) := by
      intro z
      rw [show (Nat.beq 0 0 && Nat.beq lo hi) = true by rw [nb_eq.mpr z.2]; rfl] at q
      cases q
    obtain ⟨h1, h2⟩ := h.resolve_left (fun z => hq ⟨rfl, z.2⟩)
    have gv := g2.resolve_left (by show id ≠ 0; omega)
    have hc := gV_int gv a1
    have hc : c = (ρ id + off) % 4294967296 := hc
    have e1 : (id * 4294967296 + off) / 4294967296 = id := by omega
    have e2 : (id * 4294967296 + off) % 4294967296 = off := by omega
    refine ⟨?_, by rw [e1]; exact g3⟩
    unfold gNv
    rw [if_neg (by omega), e1, e2, hc]
  · rw [cond_true]
    simp only [Bool.and_eq_true, nb_eq] at q
    have e : lo = zs c := by omega
    subst e
    have hz := zs_lt a1
    refine ⟨?_, by rw [Nat.div_eq_of_lt hz]; exact hn⟩
    unfold gNv
    rw [if_pos hz, zs_inv a1]
/-- the memo of sums and products -/
theorem ep_memo {op a b r : Nat} {x y n : eE} {st2 : List eE} {ct : List Nat} (hD : eDat = true) (hop : (op = 7 ∧ r = (a + b) % 4294967296) ∨ (op = 9 ∧ r = (a * b) % 4294967296)) (hI : gIn sc Bc ρ fr frs ls st cl cst fs nx m) (h0 : x.1 = 0 ∧ y.1 = 0) (gx : gE Bc ρ nx x a) (gy : gE Bc ρ nx y b) (gn : gA Bc n r) (hn0 : eId n = 0) (gt : gL Bc ρ nx st2 ct) (hz : zOne sc i w pc cl cst m = some (.inl (pc + 1, cl, r :: ct, m))) (h : eMemo fr i pc ls fs nx op x y n st2 = some (k, L)) : gStp sc W Bc ρ nx frs i w pc cl cst m k L := by
  have hnx := hI.2.2.1.1
  unfold eMemo at h
  rcases cs_ite h with ⟨h1, h⟩ | ⟨-, h⟩
  · rw [Bool.and_eq_true, Bool.and_eq_true] at h1
    obtain ⟨e1, e2⟩ := eNm_ok (by omega) h1.1.1 h0.1 gx
    obtain ⟨e3, e4⟩ := eNm_ok (by omega) h1.1.2 h0.2 gy
    split at h
    · rename_i e he
      cases h
      obtain ⟨r2, hin⟩ := eFind_in he
      have gf := hI.2.1 _ hin
      have ge : gE Bc ρ nx e r := by
        rcases hop with ⟨rfl, rfl⟩ | ⟨rfl, rfl⟩
        · have := (gF_7.mp gf).2.2
          rw [e1, e3] at this
          exact this
        · have := (gF_9.mp gf).2.2
          rw [e1, e3] at this
          exact this
      exact ⟨_, _, _, _, hz, gOut_s hI hI.1.2.1 (gL_c ge gt)⟩
    · cases h
      have ge : gE Bc (gUp ρ nx r) (nx + 1) (eWith n nx 0) r := ⟨gA_with gn, Or.inr gV_new, Nat.lt_succ_self nx⟩
      refine ⟨_, _, _, _, hz, gOut_n hD hI gUp_ag (Nat.le_succ _) (gL_ext gUp_ag (Nat.le_succ _) (Nat.le_refl _) hI.1.2.1) (gL_c ge (gL_ext gUp_ag (Nat.le_succ _) (Nat.le_refl _) gt)) (fun f hf => ?_)⟩
      rcases List.mem_cons.mp hf with rfl | hf
      · rcases hop with ⟨rfl, rfl⟩ | ⟨rfl, rfl⟩
        · refine gF_7.mpr ⟨rfl, ⟨by omega, by omega⟩, ?_⟩
          rw [gNv_ext gUp_ag e2, gNv_ext gUp_ag e4, e1, e3]
          exact ge
        · refine gF_9.mpr ⟨rfl, ⟨by omega, by omega⟩, ?_⟩
          rw [gNv_ext gUp_ag e2, gNv_ext gUp_ag e4, e1, e3]
          exact ge
      · exact gF_ext gUp_ag (Nat.le_succ _) (Nat.le_refl _) (hI.2.1 f hf)
  · cases h
    exact ⟨_, _, _, _, hz, gOut_s hI hI.1.2.1 (gL_c ⟨gn, Or.inl hn0, by rw [hn0]; omega⟩ gt)⟩
theorem eNorm_id {lo hi s : Nat} : eId (eNorm lo hi s) = 0 := rfl
theorem eAdd_id {x y : eE} : eId (eAdd x y) = 0 := by
  obtain ⟨t, lx, hx2, sx, ix, ox⟩ := x
  obtain ⟨u, ly, hy2, sy, iy, oy⟩ := y
  simp only [eAdd]
  cases (Nat.ble 2147483648 (lx + ly) && Nat.blt (hx2 + hy2) 6442450944) <;> rfl
theorem eDif_id {x y : eE} : eId (eDif x y) = 0 := by
  obtain ⟨t, lx, hx2, sx, ix, ox⟩ := x
  obtain ⟨u, ly, hy2, sy, iy, oy⟩ := y
  simp only [eDif]
  cases (Nat.ble hy2 (lx + 2147483648) && Nat.blt (hx2 + 2147483648 - ly) 4294967296) <;> rfl
theorem eMul_id {x y : eE} : eId (eMul x y) = 0 := by
  obtain ⟨t, lx, hx2, sx, ix, ox⟩ := x
  obtain ⟨u, ly, hy2, sy, iy, oy⟩ := y
  simp only [eMul]
  cases ((Nat.ble 2147483648 lx && Nat.ble 2147483648 ly) && Nat.blt ((hx2 - 2147483648) * (hy2 - 2147483648)) 2147483648) <;> rfl
theorem eSin_t {e : eE} (h : eSin e = true) : e.1 = 0 := by
  obtain ⟨t, lo, hi, st, id, off⟩ := e
  simp only [eSin, Bool.and_eq_true, nb_eq] at h
  exact h.1
theorem gE_cnt {e : eE} {c : Nat} (h : eInt e = true) (g : gE Bc ρ nx e c) : gE Bc ρ nx (eCnt e) c := by
  refine ⟨(eCnt_ok h g.1).1, ?_, ?_⟩
  · rw [eCnt_name.1, eCnt_name.2]
    exact g.2.1
  · rw [eCnt_name.1]
    exact g.2.2
theorem ep_add (hD : eDat = true) (hop : zop w = 7) (hI : gIn sc Bc ρ fr frs ls st cl cst fs nx m) (h : eoAdd fr i pc ls st fs nx = some (k, L)) : gStp sc W Bc ρ nx frs i w pc cl cst m k L := by
  have hnx := hI.2.2.1.1
  unfold eoAdd at h
  split at h
  · rename_i y x st2
    obtain ⟨h1, h⟩ := cs_and h
    rw [Bool.and_eq_true] at h1
    obtain ⟨b, ct0, hct0, gy, gt0⟩ := gL_cons hI.1.2.2
    obtain ⟨a, ct, hct, gx, gt⟩ := gL_cons gt0
    subst hct
    subst hct0
    clear gt0
    have ga := gA_int h1.1 gx.1
    have gb := gA_int h1.2 gy.1
    have hz : zOne sc i w pc cl (b :: a :: ct) m = some (.inl (pc + 1, cl, (a + b) % 4294967296 :: ct, m)) := by simp only [zOne, hop, ↓reduceIte, Nat.reduceEqDiff, zNx, if_pos (And.intro ga.1 gb.1)]
    rcases cs_ite h with ⟨h2, h⟩ | ⟨-, h⟩
    · simp only [Bool.and_eq_true, nb_eq, nl_le, nl_lt] at h2
      obtain ⟨⟨q1, q2⟩, q3, q4⟩ := h2
      cases h
      obtain ⟨z1, z2⟩ := eSin_ok q2 gy.1
      obtain ⟨t, lx, hx2, dx, ix, ox⟩ := x
      have q1 : t = 5 := q1
      subst q1
      rcases gx.1 with ⟨g, -⟩ | ⟨g, -⟩ | ⟨g, -⟩ | g | ⟨-, a1, ⟨a2, a3⟩, a4⟩
      · cases g
      · cases g
      · cases g
      · cases g
      · have a2 : lx ≤ zs a := a2
        have a3 : zs a ≤ hx2 := a3
        have a4 : a ≤ Bc + dx := a4
        have q4 : hx2 + eLo y < 6442450944 := q4
        have eb := zs_of z2 (by omega)
        have hs := zs_add a1 z2 (by omega) (by omega)
        refine ⟨_, _, _, _, hz, gOut_s hI hI.1.2.1 (gL_c ⟨Or.inr (Or.inr (Or.inr (Or.inr ⟨rfl, Nat.mod_lt _ (by decide), ⟨?_, ?_⟩, ?_⟩))), Or.inl rfl, by show 0 < nx; omega⟩ gt)⟩
        · show lx + eLo y - 2147483648 ≤ zs ((a + b) % 4294967296)
          rw [hs]
          omega
        · show zs ((a + b) % 4294967296) ≤ hx2 + eLo y - 2147483648
          rw [hs]
          omega
        · show (a + b) % 4294967296 ≤ Bc + (dx + (eLo y - 2147483648))
          have := Nat.mod_le (a + b) 4294967296
          omega
    rcases cs_ite h with ⟨h2, h⟩ | ⟨-, h⟩
    · simp only [Bool.and_eq_true, nl_lt] at h2
      obtain ⟨q1, q2⟩ := h2
      cases h
      obtain ⟨z1, z2⟩ := eSin_ok q1 gy.1
      have e : zs (eLo y) = b := by rw [← z1, zs_inv z2]
      have gs := eAdd_ok (eInt_cnt h1.1) (eSin_t q1) (eCnt_ok h1.1 gx.1).1 gy.1
      refine ⟨_, _, _, _, hz, gOut_s hI hI.1.2.1 (gL_c ⟨gA_with gs, Or.inr ?_, gx.2.2⟩ gt)⟩
      show gV ρ (eId x) ((eOff x + zs (eLo y)) % 4294967296) _
      rw [e]
      exact gV_add (gx.2.1.resolve_left (by omega)) ga.1
    rcases cs_ite h with ⟨h2, h⟩ | ⟨-, h⟩
    · simp only [Bool.and_eq_true, nl_lt] at h2
      obtain ⟨q1, q2⟩ := h2
      cases h
      obtain ⟨z1, z2⟩ := eSin_ok q1 gx.1
      have e : zs (eLo x) = a := by rw [← z1, zs_inv z2]
      have gs := eAdd_ok (eSin_t q1) (eInt_cnt h1.2) gx.1 (eCnt_ok h1.2 gy.1).1
      refine ⟨_, _, _, _, hz, gOut_s hI hI.1.2.1 (gL_c ⟨gA_with gs, Or.inr ?_, gy.2.2⟩ gt)⟩
      show gV ρ (eId y) ((eOff y + zs (eLo x)) % 4294967296) _
      rw [e, Nat.add_comm a b]
      exact gV_add (gy.2.1.resolve_left (by omega)) gb.1
    · exact ep_memo hD (Or.inl ⟨rfl, rfl⟩) hI ⟨eInt_cnt h1.1, eInt_cnt h1.2⟩ (gE_cnt h1.1 gx) (gE_cnt h1.2 gy) (eAdd_ok (eInt_cnt h1.1) (eInt_cnt h1.2) (eCnt_ok h1.1 gx.1).1 (eCnt_ok h1.2 gy.1).1) eAdd_id gt hz h
  · cases h
theorem ep_mul (hD : eDat = true) (hop : zop w = 9) (hI : gIn sc Bc ρ fr frs ls st cl cst fs nx m) (h : eoMul fr i pc ls st fs nx = some (k, L)) : gStp sc W Bc ρ nx frs i w pc cl cst m k L := by
  unfold eoMul at h
  split at h
  · rename_i y x st2
    obtain ⟨h1, h⟩ := cs_and h
    rw [Bool.and_eq_true] at h1
    obtain ⟨b, ct0, hct0, gy, gt0⟩ := gL_cons hI.1.2.2
    obtain ⟨a, ct, hct, gx, gt⟩ := gL_cons gt0
    subst hct
    subst hct0
    clear gt0
    have ga := gA_int h1.1 gx.1
    have gb := gA_int h1.2 gy.1
    have hz : zOne sc i w pc cl (b :: a :: ct) m = some (.inl (pc + 1, cl, (a * b) % 4294967296 :: ct, m)) := by simp only [zOne, hop, ↓reduceIte, Nat.reduceEqDiff, zNx, if_pos (And.intro ga.1 gb.1)]
    exact ep_memo hD (Or.inr ⟨rfl, rfl⟩) hI ⟨eInt_cnt h1.1, eInt_cnt h1.2⟩ (gE_cnt h1.1 gx) (gE_cnt h1.2 gy) (eMul_ok (eInt_cnt h1.1) (eInt_cnt h1.2) (eCnt_ok h1.1 gx.1).1 (eCnt_ok h1.2 gy.1).1) eMul_id gt hz h
  · cases h
theorem ep_sub (hop : zop w = 8) (hI : gIn sc Bc ρ fr frs ls st cl cst fs nx m) (h : eoSub fr i pc ls st fs nx = some (k, L)) : gStp sc W Bc ρ nx frs i w pc cl cst m k L := by
  have hnx := hI.2.2.1.1
  unfold eoSub at h
  split at h
  · rename_i y x st2
    obtain ⟨h1, h⟩ := cs_and h
    rw [Bool.and_eq_true] at h1
    obtain ⟨b, ct0, hct0, gy, gt0⟩ := gL_cons hI.1.2.2
    obtain ⟨a, ct, hct, gx, gt⟩ := gL_cons gt0
    subst hct
    subst hct0
    clear gt0
    have ga := gA_int h1.1 gx.1
    have gb := gA_int h1.2 gy.1
    have hz : zOne sc i w pc cl (b :: a :: ct) m = some (.inl (pc + 1, cl, (a + 4294967296 - b) % 4294967296 :: ct, m)) := by simp only [zOne, hop, ↓reduceIte, Nat.reduceEqDiff, zNx, if_pos (And.intro ga.1 gb.1)]
    rcases cs_ite h with ⟨h2, h⟩ | ⟨-, h⟩
    · simp only [Bool.and_eq_true, nl_lt] at h2
      obtain ⟨q1, q2⟩ := h2
      cases h
      obtain ⟨z1, z2⟩ := eSin_ok q1 gy.1
      have e : zs (eLo y) = b := by rw [← z1, zs_inv z2]
      have gs := eDif_ok (eInt_cnt h1.1) (eSin_t q1) (eCnt_ok h1.1 gx.1).1 gy.1
      refine ⟨_, _, _, _, hz, gOut_s hI hI.1.2.1 (gL_c ⟨gA_with gs, Or.inr ?_, gx.2.2⟩ gt)⟩
      show gV ρ (eId x) ((eOff x + (4294967296 - zs (eLo y))) % 4294967296) _
      rw [e, show a + 4294967296 - b = a + (4294967296 - b) by omega]
      exact gV_add (gx.2.1.resolve_left (by omega)) ga.1
    · cases h
      exact ⟨_, _, _, _, hz, gOut_s hI hI.1.2.1 (gL_c ⟨eDif_ok (eInt_cnt h1.1) (eInt_cnt h1.2) (eCnt_ok h1.1 gx.1).1 (eCnt_ok h1.2 gy.1).1, Or.inl eDif_id, by rw [eDif_id]; omega⟩ gt)⟩
  · cases h
end EQ
