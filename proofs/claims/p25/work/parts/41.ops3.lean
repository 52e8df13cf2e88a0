/-! ===== the rest of the instructions without memory ===== -/
section ER
variable {sc : List Nat} {W : List (Nat × Nat × Nat)} {Bc : Nat} {ρ : Nat → Nat} {nx : Nat} {fr : List eFr} {frs : gCf} {i w pc k : Nat} {ls st : List eE} {cl cst : List Nat} {fs : List eF} {m : zM} {L : List eS}
theorem gE_plain {e : eE} {c : Nat} (hn : 0 < nx) (h : gA Bc e c) (h0 : eId e = 0) : gE Bc ρ nx e c := ⟨h, Or.inl h0, by rw [h0]; exact hn⟩
theorem eLo_cnt {e : eE} {c : Nat} (h : eInt e = true) (g : gA Bc e c) : c < 4294967296 ∧ eLo e ≤ zs c ∧ zs c ≤ eHi e := gA_int h g
theorem ep_div (hop : zop w = 10) (hI : gIn sc Bc ρ fr frs ls st cl cst fs nx m) (h : eoDiv fr i pc ls st fs nx false = some (k, L)) : gStp sc W Bc ρ nx frs i w pc cl cst m k L := by
  have hnx := hI.2.2.1.1
  unfold eoDiv at h
  split at h
  · rename_i y x st2
    obtain ⟨h1, h⟩ := cs_and h
    simp only [Bool.and_eq_true, nl_le, nl_lt] at h1
    obtain ⟨⟨h1, h2⟩, h3, h4⟩ := h1
    obtain ⟨b, ct0, hct0, gy, gt0⟩ := gL_cons hI.1.2.2
    obtain ⟨a, ct, hct, gx, gt⟩ := gL_cons gt0
    subst hct
    subst hct0
    clear gt0
    cases h
    obtain ⟨a1, a2, a3⟩ := eLo_cnt h1 gx.1
    obtain ⟨z1, z2⟩ := eSin_ok h2 gy.1
    have ea := zs_of a1 (by omega)
    have eb := zs_of z2 (by omega)
    have hb : eLo y - 2147483648 = b := by omega
    have hbl : b < 2147483648 := (zs_pos z2).mp (by omega)
    have hal : a < 2147483648 := (zs_pos a1).mp (by omega)
    have hz : zOne sc i w pc cl (b :: a :: ct) m = some (.inl (pc + 1, cl, a / b :: ct, m)) := by simp only [zOne, hop, ↓reduceIte, Nat.reduceEqDiff, zNx, if_pos (show a < 2147483648 ∧ 0 < b ∧ b < 2147483648 by omega)]
    have hd : a / b < 2147483648 := Nat.lt_of_le_of_lt (Nat.div_le_self a b) hal
    refine ⟨_, _, _, _, hz, gOut_s hI hI.1.2.1 (gL_c (gE_plain (by omega) (eNorm_ok (by omega) ?_ ?_ (Nat.one_dvd _)) eNorm_id) gt)⟩
    · rw [zs_lo hd, hb]
      exact Nat.add_le_add_right (Nat.div_le_div_right (by omega)) _
    · rw [zs_lo hd, hb]
      exact Nat.add_le_add_right (Nat.div_le_div_right (by omega)) _
  · cases h
theorem ep_rem (hop : zop w = 11) (hI : gIn sc Bc ρ fr frs ls st cl cst fs nx m) (h : eoDiv fr i pc ls st fs nx true = some (k, L)) : gStp sc W Bc ρ nx frs i w pc cl cst m k L := by
  have hnx := hI.2.2.1.1
  unfold eoDiv at h
  split at h
  · rename_i y x st2
    obtain ⟨h1, h⟩ := cs_and h
    simp only [Bool.and_eq_true, nl_le, nl_lt] at h1
    obtain ⟨⟨h1, h2⟩, h3, h4⟩ := h1
    obtain ⟨b, ct0, hct0, gy, gt0⟩ := gL_cons hI.1.2.2
    obtain ⟨a, ct, hct, gx, gt⟩ := gL_cons gt0
    subst hct
    subst hct0
    clear gt0
    cases h
    obtain ⟨a1, a2, a3⟩ := eLo_cnt h1 gx.1
    obtain ⟨z1, z2⟩ := eSin_ok h2 gy.1
    have ea := zs_of a1 (by omega)
    have eb := zs_of z2 (by omega)
    have hb : eLo y - 2147483648 = b := by omega
    have hbl : b < 2147483648 := (zs_pos z2).mp (by omega)
    have hal : a < 2147483648 := (zs_pos a1).mp (by omega)
    have hz : zOne sc i w pc cl (b :: a :: ct) m = some (.inl (pc + 1, cl, a % b :: ct, m)) := by simp only [zOne, hop, ↓reduceIte, Nat.reduceEqDiff, zNx, if_pos (show a < 2147483648 ∧ 0 < b ∧ b < 2147483648 by omega)]
    have hd : a % b < b := Nat.mod_lt _ (by omega)
    have hd2 : a % b ≤ a := Nat.mod_le a b
    rw [cond_true] at *
    cases q : Nat.blt (eHi x - 2147483648) (eLo y - 2147483648)
    · rw [cond_false]
      refine ⟨_, _, _, _, hz, gOut_s hI hI.1.2.1 (gL_c (gE_plain (by omega) (eNorm_ok (by omega) ?_ ?_ (Nat.one_dvd _)) eNorm_id) gt)⟩
      · rw [zs_lo (by omega)]
        exact Nat.le_add_left _ _
      · rw [zs_lo (by omega), hb, Nat.add_comm]
        exact Nat.add_le_add_left (Nat.le_min.mpr ⟨by omega, by omega⟩) _
    · have q := nl_lt.mp q
      rw [cond_true]
      have e : a % b = a := Nat.mod_eq_of_lt (by omega)
      rw [e] at hz
      obtain ⟨t, lx, hx2, sx, ix, ox⟩ := x
      have hc := eCnt_ok h1 gx.1
      simp only [eInt, Bool.or_eq_true, nb_eq] at h1
      refine ⟨_, _, _, _, hz, gOut_s hI hI.1.2.1 (gL_c (gE_plain (by omega) (eNorm_ok a1 a2 a3 ?_) eNorm_id) gt)⟩
      rcases h1 with rfl | rfl
      · exact (gA_i0 hc.1).2.2
      · exact Nat.one_dvd _
  · cases h
theorem ep_and (hop : zop w = 12) (hI : gIn sc Bc ρ fr frs ls st cl cst fs nx m) (h : eoAnd fr i pc ls st fs nx = some (k, L)) : gStp sc W Bc ρ nx frs i w pc cl cst m k L := by
  have hnx := hI.2.2.1.1
  unfold eoAnd at h
  split at h
  · rename_i y x st2
    obtain ⟨h1, h⟩ := cs_and h
    simp only [Bool.and_eq_true, nl_le] at h1
    obtain ⟨⟨h1, h2⟩, h3⟩ := h1
    obtain ⟨b, ct0, hct0, gy, gt0⟩ := gL_cons hI.1.2.2
    obtain ⟨a, ct, hct, gx, gt⟩ := gL_cons gt0
    subst hct
    subst hct0
    clear gt0
    cases h
    obtain ⟨a1, a2, a3⟩ := eLo_cnt h1 gx.1
    obtain ⟨z1, z2⟩ := eSin_ok h2 gy.1
    have eb := zs_of z2 (by omega)
    have hbl : b < 2147483648 := (zs_pos z2).mp (by omega)
    have hz : zOne sc i w pc cl (b :: a :: ct) m = some (.inl (pc + 1, cl, (a &&& b) :: ct, m)) := by simp only [zOne, hop, ↓reduceIte, Nat.reduceEqDiff, zNx, if_pos (And.intro a1 z2)]
    have hd : a &&& b ≤ b := Nat.and_le_right
    refine ⟨_, _, _, _, hz, gOut_s hI hI.1.2.1 (gL_c (gE_plain (by omega) (eNorm_ok (by omega) ?_ ?_ (Nat.one_dvd _)) eNorm_id) gt)⟩
    · rw [zs_lo (by omega)]
      exact Nat.le_add_left _ _
    · rw [zs_lo (by omega)]
      omega
  · cases h
theorem ep_i2c (hop : zop w = 13) (hI : gIn sc Bc ρ fr frs ls st cl cst fs nx m) (h : eoI2c fr i pc ls st fs nx = some (k, L)) : gStp sc W Bc ρ nx frs i w pc cl cst m k L := by
  have hnx := hI.2.2.1.1
  unfold eoI2c at h
  split at h
  · rename_i x st2
    obtain ⟨h1, h⟩ := cs_and h
    obtain ⟨a, ct, rfl, gx, gt⟩ := gL_cons hI.1.2.2
    cases h
    obtain ⟨a1, a2, a3⟩ := eLo_cnt h1 gx.1
    have hz : zOne sc i w pc cl (a :: ct) m = some (.inl (pc + 1, cl, a % 65536 :: ct, m)) := by simp only [zOne, hop, ↓reduceIte, Nat.reduceEqDiff, zNx, if_pos a1]
    refine ⟨_, _, _, _, hz, gOut_s hI hI.1.2.1 (gL_c ?_ gt)⟩
    cases q : (Nat.ble 2147483648 (eLo x) && Nat.blt (eHi x) 2147549184)
    · rw [cond_false]
      have hd : a % 65536 < 65536 := Nat.mod_lt _ (by decide)
      exact gE_plain (by omega) (gA_mk (by omega) (by rw [zs_lo (by omega)]; exact Nat.le_add_left _ _) (by rw [zs_lo (by omega)]; omega) (Nat.one_dvd _)) rfl
    · rw [cond_true]
      simp only [Bool.and_eq_true, nl_le, nl_lt] at q
      have ea := zs_of a1 (by omega)
      rw [Nat.mod_eq_of_lt (show a < 65536 by omega)]
      exact gx
  · cases h
theorem gA_lt {e : eE} {c : Nat} (hD : eDat = true) (h : e.1 ≠ 3) (g : gA Bc e c) : c < 1099511627776 := by
  have := (ed_len hD).2.2.1
  rcases g with ⟨-, g, -⟩ | ⟨-, k, g1, g2, -⟩ | ⟨-, g1, g2⟩ | g | ⟨-, g, -⟩
  · omega
  · omega
  · omega
  · exact absurd g h
  · omega
theorem ep_dup (hD : eDat = true) (hop : zop w = 14) (hI : gIn sc Bc ρ fr frs ls st cl cst fs nx m) (h : eoDup fr i pc ls st fs nx = some (k, L)) : gStp sc W Bc ρ nx frs i w pc cl cst m k L := by
  unfold eoDup at h
  split at h
  · rename_i x st2
    rcases cs_ite h with ⟨-, h⟩ | ⟨h1, h⟩
    · cases h
    obtain ⟨a, ct, rfl, gx, gt⟩ := gL_cons hI.1.2.2
    cases h
    have hz : zOne sc i w pc cl (a :: ct) m = some (.inl (pc + 1, cl, a :: a :: ct, m)) := by simp only [zOne, hop, ↓reduceIte, Nat.reduceEqDiff, zNx, if_pos (gA_lt hD (nb_ne.mp h1) gx.1)]
    exact ⟨_, _, _, _, hz, gOut_s hI hI.1.2.1 (gL_c gx (gL_c gx gt))⟩
  · cases h
theorem ep_pop (hD : eDat = true) (hop : zop w = 15) (hI : gIn sc Bc ρ fr frs ls st cl cst fs nx m) (h : eoPop fr i pc ls st fs nx = some (k, L)) : gStp sc W Bc ρ nx frs i w pc cl cst m k L := by
  unfold eoPop at h
  split at h
  · rename_i x st2
    rcases cs_ite h with ⟨-, h⟩ | ⟨h1, h⟩
    · cases h
    obtain ⟨a, ct, rfl, gx, gt⟩ := gL_cons hI.1.2.2
    cases h
    have hz : zOne sc i w pc cl (a :: ct) m = some (.inl (pc + 1, cl, ct, m)) := by simp only [zOne, hop, ↓reduceIte, Nat.reduceEqDiff, zNx, if_pos (gA_lt hD (nb_ne.mp h1) gx.1)]
    exact ⟨_, _, _, _, hz, gOut_s hI hI.1.2.1 gt⟩
  · cases h
theorem ep_dup2 (hD : eDat = true) (hop : zop w = 16) (hI : gIn sc Bc ρ fr frs ls st cl cst fs nx m) (h : eoDup2 fr i pc ls st fs nx = some (k, L)) : gStp sc W Bc ρ nx frs i w pc cl cst m k L := by
  unfold eoDup2 at h
  split at h
  · rename_i y x st2
    rcases cs_ite h with ⟨-, h⟩ | ⟨h1, h⟩
    · cases h
    simp only [Bool.or_eq_false_iff, nb_ne] at h1
    obtain ⟨b, ct0, hct0, gy, gt0⟩ := gL_cons hI.1.2.2
    obtain ⟨a, ct, hct, gx, gt⟩ := gL_cons gt0
    subst hct
    subst hct0
    clear gt0
    cases h
    have hz : zOne sc i w pc cl (b :: a :: ct) m = some (.inl (pc + 1, cl, b :: a :: b :: a :: ct, m)) := by simp only [zOne, hop, ↓reduceIte, Nat.reduceEqDiff, zNx, if_pos (And.intro (gA_lt hD h1.1 gx.1) (gA_lt hD h1.2 gy.1))]
    exact ⟨_, _, _, _, hz, gOut_s hI hI.1.2.1 (gL_c gy (gL_c gx (gL_c gy (gL_c gx gt))))⟩
  · cases h
theorem ep_goto (hop : zop w = 19) (hI : gIn sc Bc ρ fr frs ls st cl cst fs nx m) (h : eMk fr i (za w) ls st fs nx = some (k, L)) : gStp sc W Bc ρ nx frs i w pc cl cst m k L := by
  cases h
  have hz : zOne sc i w pc cl cst m = some (.inl (za w, cl, cst, m)) := by simp only [zOne, hop, ↓reduceIte, Nat.reduceEqDiff, zNx]
  exact ⟨_, _, _, _, hz, gOut_s hI hI.1.2.1 hI.1.2.2⟩
theorem ep_stat (hop : zop w = 25) (hb : zb w ≤ 3) (hI : gIn sc Bc ρ fr frs ls st cl cst fs nx m) (h : eMk fr i (pc + 3) ls ((2, zb w, 0, 0, 0, 0) :: st) fs nx = some (k, L)) : gStp sc W Bc ρ nx frs i w pc cl cst m k L := by
  have hnx := hI.2.2.1.1
  cases h
  have hz : zOne sc i w pc cl cst m = some (.inl (pc + 3, cl, (8589934592 + zb w) :: cst, m)) := by simp only [zOne, hop, ↓reduceIte, Nat.reduceEqDiff, zNx, or_self]
  exact ⟨_, _, _, _, hz, gOut_s hI hI.1.2.1 (gL_c (gE_plain (by omega) (Or.inr (Or.inr (Or.inl ⟨rfl, rfl, hb⟩))) rfl) hI.1.2.2)⟩
/-! comparisons -/
theorem gE_v {e : eE} {c : Nat} (g : gE Bc ρ nx e c) : eId e = 0 ∨ gV ρ (eId e) (eOff e) c := g.2.1
theorem eSame_ok {x y : eE} {a b : Nat} (ha : a < 4294967296) (hb : b < 4294967296) (gx : gE Bc ρ nx x a) (gy : gE Bc ρ nx y b) (h : eSame x y = true) : a = b := by
  obtain ⟨t, lx, hx2, sx, ix, ox⟩ := x
  obtain ⟨u, ly, hy2, sy, iy, oy⟩ := y
  simp only [eSame, Bool.and_eq_true, nb_eq, nl_lt] at h
  obtain ⟨h1, rfl, rfl⟩ := h
  have e1 := gV_int (gx.2.1.resolve_left (by show ix ≠ 0; omega)) ha
  have e2 := gV_int (gy.2.1.resolve_left (by show ix ≠ 0; omega)) hb
  exact e1.trans e2.symm
theorem eLim_ok {x y : eE} {a b : Nat} (hx : a < 4294967296) (hb : b < 4294967296) (gx : gE Bc ρ nx x a) (gy : gE Bc ρ nx y b) (hlo : eLo x ≤ zs a) (hr : gRig sc ρ) (hf : ∀ f ∈ fs, gF sc Bc ρ nx m f) (hk : zCmp k a b = true) : ∀ f ∈ eLim k x y fs, gF sc Bc ρ nx m f := by
  unfold eLim
  intro f h
  cases h1 : ((Nat.beq k 5 && Nat.beq (eId y) 9500) && ((Nat.blt 0 (eId x) && Nat.beq (eOff x) 0) && (Nat.ble 2147483648 (eLo x) && (Nat.ble 2147483648 (eOff y) && Nat.blt (eOff y) 4294967296))))
  · rw [h1, cond_false] at h
    exact hf _ h
  · rw [h1, cond_true] at h
    rcases List.mem_cons.mp h with rfl | h
    · simp only [Bool.and_eq_true, nb_eq, nl_lt, nl_le] at h1
      obtain ⟨⟨rfl, h3⟩, ⟨h4, h5⟩, h6, h7, h8⟩ := h1
      have c5 := (zCmp_rel hk).2.2.2.2.2 (Nat.le_refl 5)
      have ea := gV_0 (gx.2.1.resolve_left (by omega)) hx h5
      have eb := gV_int (gy.2.1.resolve_left (by rw [h3]; decide)) hb
      rw [h3, hr.2.1.1] at eb
      have hl := hr.2.2.1.1
      have e1 := zs_of hx (by omega)
      have e2 := zs_of hb (by omega)
      have b2 := (zs_pos hb).mp (by omega)
      have a2 := (zs_pos hx).mp (by omega)
      refine gF_2.mpr ⟨gx.2.2, rfl, ?_⟩
      rw [if_neg (by omega), ea]
      refine ⟨a2, ?_⟩
      omega
    · exact hf _ h
end ER
