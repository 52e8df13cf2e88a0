/-! ===== arraycopy over a line; the first load is taken (printed by wip/gen/m77.py) ===== -/
section BG
variable {sc : List Nat} {Q : Nat → zM → Prop} {frs : gCf} {m m0 : zM} {b : Nat} {p a : Nat → Nat}
theorem zIsC_f44 {w : Nat} (h : zop w = 44) : zIsC w = false := by
  unfold zIsC
  rw [Bool.and_eq_false_iff, decide_eq_false_iff_not, decide_eq_false_iff_not]
  omega
theorem h_cpy {i pc w pc2 rs rd sp dp n n0 n1 : Nat} {f f2 : Nat → Nat} {ls st : List Nat} (hw : zI i pc = w) (ho : zop w = 44 ∧ pc + 3 = pc2) (hz : zAt m rs = some (7, n0, f)) (hz2 : zAt m rd = some (7, n1, f2)) (hb : sp + n ≤ n0 ∧ dp + n ≤ n1) (hl : n0 < 2147483648 ∧ n1 < 2147483648 ∧ st.length ≤ 8) (g : gFin sc Q frs i pc2 ls st (m.set (rd - 4294967297) (7, n1, zCpy f f2 sp dp n))) : gFin sc Q frs i pc ls (n :: dp :: rd :: sp :: rs :: st) m := by
  subst hw
  obtain ⟨h1, rfl⟩ := ho
  have hh : (True ∧ True ∧ sp + n ≤ n0 ∧ dp + n ≤ n1) ∧ n0 < 2147483648 ∧ n1 < 2147483648 ∧ st.length ≤ 8 := ⟨⟨trivial, trivial, hb⟩, hl⟩
  exact gFin_step (zIsC_f44 h1) (by simp only [zOne, h1, ↓reduceIte, Nat.reduceEqDiff, or_self, or_false, hz, hz2, zNx]; rw [if_pos hh]) g
/-- n loads of the line q move up by one -/
def bSh (a : Nat → Nat) (q n : Nat) : Nat → Nat := fun y => if 303 + 30 * q ≤ y ∧ y < 303 + 30 * q + n then a (y + 1) else a y
theorem bSh_n {q n y : Nat} (h : ¬ (303 + 30 * q ≤ y ∧ y < 303 + 30 * q + n)) : bSh a q n y = a y := if_neg h
theorem bV_E {a' : Nat → Nat} {q o j v : Nat} (hE : ∀ y, ¬ (303 + 30 * q ≤ y ∧ y < 303 + 30 * q + 9) → a' y = a y) (ho : o < 61) (hj : j < bLn o) (h17 : a 1 ≤ 17) (hne : o ≠ 25 + 3 * q + 1) (h : bV b p a o j v) : bV b p a' o j v := by
  obtain ⟨l0, l3, l4, l5, l6, la, ll, lw⟩ := bLn_b ho hj
  unfold bV at h ⊢
  by_cases e0 : o = 0
  · rw [if_pos e0] at h ⊢
    have := l0 e0
    rw [h]
    by_cases q0 : j = 0
    · rw [if_pos q0, if_pos q0, hE _ (by omega)]
    rw [if_neg q0, if_neg q0]
    by_cases q1 : j = 1
    · rw [if_pos q1, if_pos q1, hE _ (by omega)]
    rw [if_neg q1, if_neg q1]
    by_cases q2 : j ≤ 7
    · rw [if_pos q2, if_pos q2]
    · rw [if_neg q2, if_neg q2, hE _ (by omega)]
  rw [if_neg e0] at h ⊢
  by_cases e1 : o = 1
  · rw [if_pos e1] at h ⊢
    exact h
  rw [if_neg e1] at h ⊢
  by_cases e2 : o = 2
  · rw [if_pos e2] at h ⊢
    exact h
  rw [if_neg e2] at h ⊢
  by_cases e3 : o = 3
  · rw [if_pos e3] at h ⊢
    have := l3 e3
    rw [h, hE _ (by omega)]
  rw [if_neg e3] at h ⊢
  by_cases e4 : o = 4
  · rw [if_pos e4] at h ⊢
    have := l4 e4
    rw [h, hE _ (by omega)]
  rw [if_neg e4] at h ⊢
  by_cases e5 : o = 5
  · rw [if_pos e5] at h ⊢
    have := l5 e5
    rw [h, hE _ (by omega)]
  rw [if_neg e5] at h ⊢
  by_cases e6 : o = 6
  · rw [if_pos e6] at h ⊢
    rw [h]
    by_cases q0 : j = 0
    · rw [if_pos q0, if_pos q0]
    · rw [if_neg q0, if_neg q0, hE _ (by omega)]
  rw [if_neg e6] at h ⊢
  by_cases e7 : o = 7
  · rw [if_pos e7] at h ⊢
    exact h
  rw [if_neg e7] at h ⊢
  by_cases e8 : o ≤ 24
  · rw [if_pos e8] at h ⊢
    have := la (by omega) e8
    refine ⟨h.1, fun i hi hp => ?_⟩
    rw [hE 1 (by omega)] at hi
    rw [hE _ (by omega)]
    exact h.2 i hi hp
  rw [if_neg e8] at h ⊢
  by_cases e9 : (o - 25) % 3 = 0
  · rw [if_pos e9] at h ⊢
    have := ll (by omega) e9
    rw [h]
    by_cases q0 : j = 0
    · rw [if_pos q0, if_pos q0]
    rw [if_neg q0, if_neg q0]
    by_cases q1 : j = 1
    · rw [if_pos q1, if_pos q1]
    · rw [if_neg q1, if_neg q1, hE _ (by omega)]
  rw [if_neg e9] at h ⊢
  have := lw (by omega) e9
  by_cases e10 : (o - 25) % 3 = 1
  · rw [if_pos e10] at h ⊢
    rw [h, hE _ (by omega)]
  rw [if_neg e10] at h ⊢
  exact h
theorem s_cpyW {i pc w pc2 q n : Nat} {ls st : List Nat} (hw : zI i pc = w) (ho : zop w = 44 ∧ pc + 3 = pc2) (hl : st.length ≤ 8) (hS : bS b p a m0 m) (hq : q < 12) (hn : n ≤ 8) (g : ∀ m', bS b p (bSh a q n) m0 m' → gFin sc Q frs i pc2 ls st m') : gFin sc Q frs i pc ls (n :: 0 :: bR b (25 + 3 * q + 1) :: 1 :: bR b (25 + 3 * q + 1) :: st) m := by
  have h17 := hS.2.1.2.1.2
  obtain ⟨f, h1, h2⟩ := hS.1 (25 + 3 * q + 1) (by omega)
  obtain ⟨-, ⟨k1, k2⟩, -⟩ := kL_o (q := q)
  have hz : zAt m (bR b (25 + 3 * q + 1)) = some (7, 9, f) := by rw [zAt_b hS.2.1.2.2 (by omega), h1, k1, k2]
  refine h_cpy hw ho hz hz (by omega) ⟨by decide, by decide, hl⟩ (g _ ?_)
  rw [bR_sub]
  have hE : ∀ y, ¬ (303 + 30 * q ≤ y ∧ y < 303 + 30 * q + 9) → bSh a q n y = a y := fun y hy => bSh_n (by omega)
  have hf : ∀ j, j < 9 → f j = a (303 + 30 * q + j) := fun j hj => bW_ok (h2 j (by rw [k2]; exact hj))
  refine ⟨fun o' ho' => ?_, ⟨hS.2.1.1, ⟨fun y => ?_, by rw [hE 1 (by omega)]; exact h17⟩, hS.2.1.2.2⟩, bFr_set hS.2.2 (by omega)⟩
  · by_cases e : o' = 25 + 3 * q + 1
    · subst e
      rw [k1, k2]
      refine ⟨_, List.getElem?_set_self (List.getElem?_eq_some_iff.mp h1).1, fun j hj => ?_⟩
      unfold bV
      rw [if_neg (by omega), if_neg (by omega), if_neg (by omega), if_neg (by omega), if_neg (by omega), if_neg (by omega), if_neg (by omega), if_neg (by omega), if_neg (by omega), if_neg (by omega), if_pos (by omega), show (25 + 3 * q + 1 - 25) / 3 = q by omega]
      unfold zCpy bSh
      by_cases hjn : j < n
      · rw [if_pos (by omega), if_pos (by omega), hf _ (by omega)]
        exact congrArg a (by omega)
      · rw [if_neg (by omega), if_neg (by omega), hf _ (by omega)]
    · obtain ⟨f', e1, e2⟩ := hS.1 o' ho'
      refine ⟨f', ?_, fun j hj => bV_E hE ho' hj h17 e (e2 j hj)⟩
      rw [List.getElem?_set_ne (by omega)]
      exact e1
  · unfold bSh
    split
    · exact hS.2.1.2.1.1 _
    · exact hS.2.1.2.1.1 _
theorem s_cpyC {i pc w pc2 q n : Nat} {ls st : List Nat} (hw : zI i pc = w) (ho : zop w = 44 ∧ pc + 3 = pc2) (hl : st.length ≤ 8) (hS : bS b p a m0 m) (hq : q < 12) (hn : n ≤ 8) (g : ∀ m', bS b p a m0 m' → gFin sc Q frs i pc2 ls st m') : gFin sc Q frs i pc ls (n :: 0 :: bR b (25 + 3 * q + 2) :: 1 :: bR b (25 + 3 * q + 2) :: st) m := by
  obtain ⟨f, h1, h2⟩ := hS.1 (25 + 3 * q + 2) (by omega)
  obtain ⟨-, -, k1, k2⟩ := kL_o (q := q)
  have hz : zAt m (bR b (25 + 3 * q + 2)) = some (7, 9, f) := by rw [zAt_b hS.2.1.2.2 (by omega), h1, k1, k2]
  refine h_cpy hw ho hz hz (by omega) ⟨by decide, by decide, hl⟩ (g _ ?_)
  rw [bR_sub]
  have hv : ∀ j v, bV b p a (25 + 3 * q + 2) j v ↔ v < 4294967296 := fun j v => by
    unfold bV
    rw [if_neg (by omega), if_neg (by omega), if_neg (by omega), if_neg (by omega), if_neg (by omega), if_neg (by omega), if_neg (by omega), if_neg (by omega), if_neg (by omega), if_neg (by omega), if_neg (by omega)]
  refine ⟨fun o' ho' => ?_, hS.2.1, bFr_set hS.2.2 (by omega)⟩
  by_cases e : o' = 25 + 3 * q + 2
  · subst e
    rw [k1, k2]
    refine ⟨_, List.getElem?_set_self (List.getElem?_eq_some_iff.mp h1).1, fun j hj => ?_⟩
    rw [hv]
    unfold zCpy
    split
    · exact (hv _ _).mp (h2 _ (by rw [k2]; omega))
    · exact (hv _ _).mp (h2 _ (by rw [k2]; omega))
  · obtain ⟨f', e1, e2⟩ := hS.1 o' ho'
    refine ⟨f', ?_, e2⟩
    rw [List.getElem?_set_ne (by omega)]
    exact e1
def mTk1 (a : Nat → Nat) (q : Nat) : Nat → Nat := bU a (300 + 30 * q + 0) (dec1 (a (300 + 30 * q + 0)))
def mTk (a : Nat → Nat) (q : Nat) : Nat → Nat := bSh (mTk1 a q) q (mTk1 a q (300 + 30 * q + 0))
theorem mTk1_d {q : Nat} : mTk1 a q = bU a (300 + 30 * q + 0) (dec1 (a (300 + 30 * q + 0))) := rfl
theorem mTk_d {q : Nat} : mTk a q = bSh (mTk1 a q) q (mTk1 a q (300 + 30 * q + 0)) := rfl
theorem mTk1_v {q : Nat} (h : a (300 + 30 * q + 0) ≠ 0) (h9 : a (300 + 30 * q + 0) ≤ 9) : mTk1 a q (300 + 30 * q + 0) = a (300 + 30 * q + 0) - 1 := by
  rw [mTk1_d, bU_s]
  unfold dec1
  omega
theorem mTk_v {q : Nat} : mTk a q (300 + 30 * q + 0) = mTk1 a q (300 + 30 * q + 0) := by
  rw [mTk_d, bSh_n (by omega)]
theorem m35 {q x : Nat} (hS : bS b p a m0 m) (hq : q < 12) (h9 : a (300 + 30 * q + 0) ≤ 9) (g0 : a (300 + 30 * q + 0) = 0 → gFin1 sc Q frs 35 0 m) (g : a (300 + 30 * q + 0) ≠ 0 → ∀ m', bS b p (mTk a q) m0 m' → gFin1 sc Q frs 35 (a (303 + 30 * q + 0)) m') : gFin sc Q frs 35 0 [bR b (25 + 3 * q), x] [] m := by
  refine h_ldr (w := 259) (pc2 := 1) (by decide +kernel) (by decide +kernel) rfl (bR_ref hS.2.1.2.2 (by omega)) ?_
  refine s_getLx (w := 29014256564802197572551446) (pc2 := 4) (by decide +kernel) (c := 2) (by decide +kernel) hS.1 hS.2.1 (q := q) hq (x := 300 + 30 * q + 0) (by omega) ?_
  by_cases q0 : a (300 + 30 * q + 0) = 0
  · skip
    refine h_if (w := 281474977301265) (pc2 := 7) (by decide +kernel) (b := false) (by decide +kernel) (by omega) (zc_ne_f q0) ?_
    refine h_con (w := 257) (pc2 := 8) (by decide +kernel) (v := 0) (by decide +kernel) ?_
    exact h_ret (w := 301) (by decide +kernel) (by decide +kernel) (by decide) (fun h => absurd h (by decide +kernel)) (g0 q0)
  refine h_if (w := 281474977301265) (pc2 := 9) (by decide +kernel) (b := true) (by decide +kernel) (by omega) (zc_ne_t q0) ?_
  refine h_ldr (w := 259) (pc2 := 10) (by decide +kernel) (by decide +kernel) rfl (bR_ref hS.2.1.2.2 (by omega)) ?_
  refine s_getL (w := 10880332377094612532724502) (pc2 := 13) (by decide +kernel) (c := 0) (by decide +kernel) hS.1 hS.2.1 (q := q) hq (v := bR b (25 + 3 * q + 1)) rfl ?_
  refine h_con (w := 257) (pc2 := 14) (by decide +kernel) (v := 0) (by decide +kernel) ?_
  refine s_aldW (w := 282) (pc2 := 15) (by decide +kernel) (by decide +kernel) hS.1 hS.2.1 hq (by decide) ?_
  refine h_sti (w := 65796) (pc2 := 16) (by decide +kernel) (n := 2) (by decide +kernel) rfl (hS.2.1.2.1.1 _) (ls2 := [(bR b (25 + 3 * q)), (a (303 + 30 * q + 0))]) rfl ?_
  refine h_ldr (w := 259) (pc2 := 17) (by decide +kernel) (by decide +kernel) rfl (bR_ref hS.2.1.2.2 (by omega)) ?_
  refine h_dup (w := 270) (pc2 := 18) (by decide +kernel) (by decide +kernel) (bR_ref hS.2.1.2.2 (by omega)).2 ?_
  refine s_getLx (w := 29014256564802197572551446) (pc2 := 21) (by decide +kernel) (c := 2) (by decide +kernel) hS.1 hS.2.1 (q := q) hq (x := 300 + 30 * q + 0) (by omega) ?_
  refine h_con (w := 65793) (pc2 := 22) (by decide +kernel) (v := 1) (by decide +kernel) ?_
  refine h_sub (w := 264) (pc2 := 23) (by decide +kernel) (by decide +kernel) (hS.2.1.2.1.1 _) (by decide) (c := dec1 (a (300 + 30 * q + 0))) dec1_eq ?_
  refine s_putLx (w := 29014256564802197572551447) (pc2 := 26) (by decide +kernel) (c := 2) (by decide +kernel) hS (q := q) hq (x := 300 + 30 * q + 0) (by omega) dec1_lt ?_
  intro m1 hS1
  rw [← mTk1_d] at hS1
  have v1 := mTk1_v q0 h9
  have v2 := mTk_v (a := a) (q := q)
  refine h_ldr (w := 259) (pc2 := 27) (by decide +kernel) (by decide +kernel) rfl (bR_ref hS1.2.1.2.2 (by omega)) ?_
  refine s_getL (w := 10880332377094612532724502) (pc2 := 30) (by decide +kernel) (c := 0) (by decide +kernel) hS1.1 hS1.2.1 (q := q) hq (v := bR b (25 + 3 * q + 1)) rfl ?_
  refine h_con (w := 65793) (pc2 := 31) (by decide +kernel) (v := 1) (by decide +kernel) ?_
  refine h_ldr (w := 259) (pc2 := 32) (by decide +kernel) (by decide +kernel) rfl (bR_ref hS1.2.1.2.2 (by omega)) ?_
  refine s_getL (w := 10880332377094612532724502) (pc2 := 35) (by decide +kernel) (c := 0) (by decide +kernel) hS1.1 hS1.2.1 (q := q) hq (v := bR b (25 + 3 * q + 1)) rfl ?_
  refine h_con (w := 257) (pc2 := 36) (by decide +kernel) (v := 0) (by decide +kernel) ?_
  refine h_ldr (w := 259) (pc2 := 37) (by decide +kernel) (by decide +kernel) rfl (bR_ref hS1.2.1.2.2 (by omega)) ?_
  refine s_getLx (w := 29014256564802197572551446) (pc2 := 40) (by decide +kernel) (c := 2) (by decide +kernel) hS1.1 hS1.2.1 (q := q) hq (x := 300 + 30 * q + 0) (by omega) ?_
  refine s_cpyW (w := 21760664753063325160506156) (pc2 := 43) (by decide +kernel) (by decide +kernel) (by decide) hS1 hq (by omega) (fun m2 hS2 => ?_)
  rw [← mTk_d] at hS2
  refine h_ldr (w := 259) (pc2 := 44) (by decide +kernel) (by decide +kernel) rfl (bR_ref hS2.2.1.2.2 (by omega)) ?_
  refine s_getL (w := 18133905741526461290578710) (pc2 := 47) (by decide +kernel) (c := 1) (by decide +kernel) hS2.1 hS2.2.1 (q := q) hq (v := bR b (25 + 3 * q + 2)) rfl ?_
  refine h_con (w := 65793) (pc2 := 48) (by decide +kernel) (v := 1) (by decide +kernel) ?_
  refine h_ldr (w := 259) (pc2 := 49) (by decide +kernel) (by decide +kernel) rfl (bR_ref hS2.2.1.2.2 (by omega)) ?_
  refine s_getL (w := 18133905741526461290578710) (pc2 := 52) (by decide +kernel) (c := 1) (by decide +kernel) hS2.1 hS2.2.1 (q := q) hq (v := bR b (25 + 3 * q + 2)) rfl ?_
  refine h_con (w := 257) (pc2 := 53) (by decide +kernel) (v := 0) (by decide +kernel) ?_
  refine h_ldr (w := 259) (pc2 := 54) (by decide +kernel) (by decide +kernel) rfl (bR_ref hS2.2.1.2.2 (by omega)) ?_
  refine s_getLx (w := 29014256564802197572551446) (pc2 := 57) (by decide +kernel) (c := 2) (by decide +kernel) hS2.1 hS2.2.1 (q := q) hq (x := 300 + 30 * q + 0) (by omega) ?_
  refine s_cpyC (w := 21760664753063325160506156) (pc2 := 60) (by decide +kernel) (by decide +kernel) (by decide) hS2 hq (by omega) (fun m3 hS3 => ?_)
  refine h_ldi (w := 65794) (pc2 := 61) (by decide +kernel) (by decide +kernel) rfl (hS.2.1.2.1.1 _) ?_
  exact h_ret (w := 301) (by decide +kernel) (by decide +kernel) (hS.2.1.2.1.1 _) (fun h => absurd h (by decide +kernel)) (g q0 m3 hS3)
end BG
