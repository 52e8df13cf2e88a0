/-! ===== a setting changes; loads come and come back; the longest wait (printed by wip/gen/m87.py) ===== -/
theorem zc_lt_f {x y : Nat} (hx : x < 2147483648) (hy : y < 2147483648) (h : y ≤ x) : zCmp 2 x y = false := by
  show zlt x y = false
  rw [zlt_iff hx hy, decide_eq_false (by omega)]
theorem zc_lt_t {x y : Nat} (hx : x < 2147483648) (hy : y < 2147483648) (h : x < y) : zCmp 2 x y = true := by
  show zlt x y = true
  rw [zlt_iff hx hy, decide_eq_true h]
section BK
variable {sc : List Nat} {Q : Nat → zM → Prop} {frs : gCf} {i pc w pc2 : Nat} {ls st : List Nat} {m m0 : zM} {b : Nat} {p a : Nat → Nat}
theorem zIsC_f43 {w : Nat} (h : zop w = 43) : zIsC w = false := by
  unfold zIsC
  rw [h]
  rfl
theorem h_max {x y c : Nat} (hw : zI i pc = w) (ho : zop w = 43 ∧ pc + 3 = pc2) (ha : x < 4294967296) (hb : y < 4294967296) (hl : st.length ≤ 8) (hv : (bif zlt x y then y else x) = c) (g : gFin sc Q frs i pc2 ls (c :: st) m) : gFin sc Q frs i pc ls (y :: x :: st) m := by
  subst hw
  obtain ⟨h1, rfl⟩ := ho
  have h2 : (x < 4294967296 ∧ y < 4294967296) ∧ st.length ≤ 8 := ⟨⟨ha, hb⟩, hl⟩
  have h3 : (if zlt x y then y else x) = c := by
    rw [← hv]
    cases zlt x y <;> rfl
  exact gFin_step (zIsC_f43 h1) (by simp only [zOne, h1, ↓reduceIte, Nat.reduceEqDiff, or_self, zNx, if_pos h2, h3]) g
/-- the clock at which a load came -/
theorem s_aldC {q j : Nat} (hw : zI i pc = w) (ho : zop w = 26 ∧ pc + 1 = pc2) (hS : bS b p a m0 m) (hq : q < 12) (hj : j < 9) (g : ∀ v, v < 4294967296 → gFin sc Q frs i pc2 ls (v :: st) m) : gFin sc Q frs i pc ls (j :: bR b (25 + 3 * q + 2) :: st) m := by
  obtain ⟨f, h1, h2⟩ := hS.1 (25 + 3 * q + 2) (by omega)
  obtain ⟨-, -, k1, k2⟩ := kL_o (q := q)
  have hz : zAt m (bR b (25 + 3 * q + 2)) = some (7, 9, f) := by rw [zAt_b hS.2.1.2.2 (by omega), h1, k1, k2]
  have h6 : bV b p a (25 + 3 * q + 2) j (f j) := h2 j (by rw [k2]; exact hj)
  unfold bV at h6
  rw [if_neg (by omega), if_neg (by omega), if_neg (by omega), if_neg (by omega), if_neg (by omega), if_neg (by omega), if_neg (by omega), if_neg (by omega), if_neg (by omega), if_neg (by omega), if_neg (by omega)] at h6
  exact h_ald hw ho hz hj (by decide) rfl h6 (g _ h6)
/-- n loads of the line q move down by one -/
def bSu (a : Nat → Nat) (q n : Nat) : Nat → Nat := fun y => if 304 + 30 * q ≤ y ∧ y < 304 + 30 * q + n then a (y - 1) else a y
theorem bSu_n {q n y : Nat} (h : ¬ (304 + 30 * q ≤ y ∧ y < 304 + 30 * q + n)) : bSu a q n y = a y := if_neg h
theorem bSu_s {q n y : Nat} (h : 304 + 30 * q ≤ y ∧ y < 304 + 30 * q + n) : bSu a q n y = a (y - 1) := if_pos h
theorem s_cpyU {q n : Nat} (hw : zI i pc = w) (ho : zop w = 44 ∧ pc + 3 = pc2) (hl : st.length ≤ 8) (hS : bS b p a m0 m) (hq : q < 12) (hn : n ≤ 8) (g : ∀ m', bS b p (bSu a q n) m0 m' → gFin sc Q frs i pc2 ls st m') : gFin sc Q frs i pc ls (n :: 1 :: bR b (25 + 3 * q + 1) :: 0 :: bR b (25 + 3 * q + 1) :: st) m := by
  have h17 := hS.2.1.2.1.2
  obtain ⟨f, h1, h2⟩ := hS.1 (25 + 3 * q + 1) (by omega)
  obtain ⟨-, ⟨k1, k2⟩, -⟩ := kL_o (q := q)
  have hz : zAt m (bR b (25 + 3 * q + 1)) = some (7, 9, f) := by rw [zAt_b hS.2.1.2.2 (by omega), h1, k1, k2]
  refine h_cpy hw ho hz hz (by omega) ⟨by decide, by decide, hl⟩ (g _ ?_)
  rw [bR_sub]
  have hE : ∀ y, ¬ (303 + 30 * q ≤ y ∧ y < 303 + 30 * q + 9) → bSu a q n y = a y := fun y hy => bSu_n (by omega)
  have hf : ∀ j, j < 9 → f j = a (303 + 30 * q + j) := fun j hj => bW_ok (h2 j (by rw [k2]; exact hj))
  refine ⟨fun o' ho' => ?_, ⟨hS.2.1.1, ⟨fun y => ?_, by rw [hE 1 (by omega)]; exact h17⟩, hS.2.1.2.2⟩, bFr_set hS.2.2 (by omega)⟩
  · by_cases e : o' = 25 + 3 * q + 1
    · subst e
      rw [k1, k2]
      refine ⟨_, List.getElem?_set_self (List.getElem?_eq_some_iff.mp h1).1, fun j hj => ?_⟩
      unfold bV
      rw [if_neg (by omega), if_neg (by omega), if_neg (by omega), if_neg (by omega), if_neg (by omega), if_neg (by omega), if_neg (by omega), if_neg (by omega), if_neg (by omega), if_neg (by omega), if_pos (by omega), show (25 + 3 * q + 1 - 25) / 3 = q by omega]
      unfold zCpy bSu
      by_cases hjn : 1 ≤ j ∧ j < 1 + n
      · rw [if_pos (by omega), if_pos (by omega), hf _ (by omega)]
        exact congrArg a (by omega)
      · rw [if_neg (by omega), if_neg (by omega), hf _ (by omega)]
    · obtain ⟨f', e1, e2⟩ := hS.1 o' ho'
      refine ⟨f', ?_, fun j hj => bV_E hE ho' hj h17 e (e2 j hj)⟩
      rw [List.getElem?_set_ne (by omega)]
      exact e1
  · unfold bSu
    split
    · exact hS.2.1.2.1.1 _
    · exact hS.2.1.2.1.1 _
theorem s_cpyV {q n : Nat} (hw : zI i pc = w) (ho : zop w = 44 ∧ pc + 3 = pc2) (hl : st.length ≤ 8) (hS : bS b p a m0 m) (hq : q < 12) (hn : n ≤ 8) (g : ∀ m', bS b p a m0 m' → gFin sc Q frs i pc2 ls st m') : gFin sc Q frs i pc ls (n :: 1 :: bR b (25 + 3 * q + 2) :: 0 :: bR b (25 + 3 * q + 2) :: st) m := by
  obtain ⟨f, h1, h2⟩ := hS.1 (25 + 3 * q + 2) (by omega)
  obtain ⟨-, -, k1, k2⟩ := kL_o (q := q)
  have hz : zAt m (bR b (25 + 3 * q + 2)) = some (7, 9, f) := by rw [zAt_b hS.2.1.2.2 (by omega), h1, k1, k2]
  refine h_cpy hw ho hz hz (by omega) ⟨by decide, by decide, hl⟩ (g _ ?_)
  rw [bR_sub]
  have hv : ∀ j v, bV b p a (25 + 3 * q + 2) j v ↔ v < 4294967296 := fun j v => by
    unfold bV
    rw [if_neg (by omega), if_neg (by omega), if_neg (by omega), if_neg (by omega), if_neg (by omega), if_neg (by omega), if_neg (by omega), if_neg (by omega), if_neg (by omega), if_neg (by omega), if_neg (by omega)]
  refine ⟨fun o' ho' => ?_, hS.2.1, bFr_set hS.2.2 (by omega)⟩
  by_cases e : o' = 25 + 3 * q + 2
  · subst e
    rw [k1, k2]
    refine ⟨_, List.getElem?_set_self (List.getElem?_eq_some_iff.mp h1).1, fun j hj => ?_⟩
    rw [hv]
    unfold zCpy
    split
    · exact (hv _ _).mp (h2 _ (by rw [k2]; omega))
    · exact (hv _ _).mp (h2 _ (by rw [k2]; omega))
  · obtain ⟨f', e1, e2⟩ := hS.1 o' ho'
    refine ⟨f', ?_, e2⟩
    rw [List.getElem?_set_ne (by omega)]
    exact e1
end BK
section BG
variable {sc : List Nat} {Q : Nat → zM → Prop} {frs : gCf} {m m0 : zM} {b : Nat} {p a : Nat → Nat}
theorem m8 {x : Nat} (hS : bS b p a m0 m) (hx : x < 2147483648) (g : gFin1 sc Q frs 8 (i1 (decide (x < a 1))) m) : gFin sc Q frs 8 0 [bR b 0, x] [] m := by
  have h17 := hS.2.1.2.1.2
  refine h_ldi (w := 65794) (pc2 := 1) (by decide +kernel) (by decide +kernel) rfl (by omega) ?_
  refine h_if (w := 562949954470673) (pc2 := 4) (by decide +kernel) (b := false) (by decide +kernel) (by omega)  (zc_lt_f (by omega) (by decide) (by omega)) ?_
  refine h_ldi (w := 65794) (pc2 := 5) (by decide +kernel) (by decide +kernel) rfl (by omega) ?_
  refine h_ldr (w := 259) (pc2 := 6) (by decide +kernel) (by decide +kernel) rfl (bR_ref hS.2.1.2.2 (by omega)) ?_
  refine s_getHx (w := 59237383608142378255516438) (pc2 := 9) (by decide +kernel) (c := 1) (x := 1) (by decide +kernel) hS.1 hS.2.1 (by decide) ?_
  by_cases q0 : x < a 1
  · rw [decide_eq_true q0] at g
    refine h_icmp (w := 844424931181330) (pc2 := 12) (by decide +kernel) (b := false) (by decide +kernel) (by omega) (hS.2.1.2.1.1 _) (zc_ge_f (by omega) (by omega) (by omega)) ?_
    refine h_con (w := 65793) (pc2 := 13) (by decide +kernel) (v := 1) (by decide +kernel) ?_
    refine h_goto (w := 1114899) (pc2 := 17) (by decide +kernel) (by decide +kernel) ?_
    exact h_ret (w := 301) (by decide +kernel) (by decide +kernel) (by decide) (fun _ => by decide) g
  · rw [decide_eq_false q0] at g
    refine h_icmp (w := 844424931181330) (pc2 := 16) (by decide +kernel) (b := true) (by decide +kernel) (by omega) (hS.2.1.2.1.1 _) (zc_ge_t (by omega) (by omega) (by omega)) ?_
    refine h_con (w := 257) (pc2 := 17) (by decide +kernel) (v := 0) (by decide +kernel) ?_
    exact h_ret (w := 301) (by decide +kernel) (by decide +kernel) (by decide) (fun _ => by decide) g
def mCh1 (a : Nat → Nat) (w v : Nat) : Nat → Nat := bU a (5 + w) v
def mCh2 (a : Nat → Nat) (l v : Nat) : Nat → Nat := bU (bU a (10 + l) v) (12 + l) (add1 (bU a (10 + l) v 0) v)
theorem mCh2_d {l v : Nat} : mCh2 a l v = bU (bU a (10 + l) v) (12 + l) (add1 (bU a (10 + l) v 0) v) := rfl
def mCh (a : Nat → Nat) (w v : Nat) : Nat → Nat := bif Nat.beq w 2 then mCh2 (mCh1 a w v) 0 v else bif Nat.beq w 3 then mCh2 (mCh1 a w v) 1 v else mCh1 a w v
theorem m12 {wh v x : Nat} (hS : bS b p a m0 m) (hw : wh < 5) (hv : v < 2147483648) (g : ∀ m', bS b p (mCh a wh v) m0 m' → gFin1 sc Q frs 12 0 m') : gFin sc Q frs 12 0 [bR b 0, wh, v, x] [] m := by
  rcases (show wh = 0 ∨ wh = 1 ∨ wh = 2 ∨ wh = 3 ∨ wh = 4 by omega) with rfl | rfl | rfl | rfl | rfl
  · have eg : mCh a 0 v = mCh1 a 0 v := rfl
    refine h_ldr (w := 259) (pc2 := 1) (by decide +kernel) (by decide +kernel) rfl (bR_ref hS.2.1.2.2 (by omega)) ?_
    refine s_getHr (w := 27805367638394240842203926) (pc2 := 4) (by decide +kernel) (c := 4) (k := 3) (by decide +kernel) hS.1 hS.2.1 (by decide) ?_
    refine h_ldi (w := 65794) (pc2 := 5) (by decide +kernel) (by decide +kernel) rfl (by decide) ?_
    refine h_ldi (w := 131330) (pc2 := 6) (by decide +kernel) (by decide +kernel) rfl (by omega) ?_
    refine s_astS (w := 283) (pc2 := 7) (by decide +kernel) (by decide +kernel) hS (j := 0) (by decide) (by omega) ?_
    intro m1 hS1
    have hS1 : bS b p (mCh1 a 0 v) m0 m1 := hS1
    refine h_ldi (w := 65794) (pc2 := 8) (by decide +kernel) (by decide +kernel) rfl (by decide) ?_
    refine h_con (w := 131329) (pc2 := 9) (by decide +kernel) (v := 2) (by decide +kernel) ?_
    refine h_sub (w := 264) (pc2 := 10) (by decide +kernel) (by decide +kernel) (by decide) (by decide) (c := 4294967294) (by decide) ?_
    refine h_sti (w := 196868) (pc2 := 11) (by decide +kernel) (n := 4) (by decide +kernel) rfl (by decide) (ls2 := [bR b 0, 0, v, 4294967294]) rfl ?_
    refine h_ldi (w := 196866) (pc2 := 12) (by decide +kernel) (by decide +kernel) rfl (by decide) ?_
    refine h_if (w := 562949955978001) (pc2 := 39) (by decide +kernel) (b := true) (by decide +kernel) (by decide)  (by decide +kernel) ?_
    exact h_ret0 (w := 302) (by decide +kernel) (by decide +kernel) (g _ (by rw [eg]; exact hS1))
  · have eg : mCh a 1 v = mCh1 a 1 v := rfl
    refine h_ldr (w := 259) (pc2 := 1) (by decide +kernel) (by decide +kernel) rfl (bR_ref hS.2.1.2.2 (by omega)) ?_
    refine s_getHr (w := 27805367638394240842203926) (pc2 := 4) (by decide +kernel) (c := 4) (k := 3) (by decide +kernel) hS.1 hS.2.1 (by decide) ?_
    refine h_ldi (w := 65794) (pc2 := 5) (by decide +kernel) (by decide +kernel) rfl (by decide) ?_
    refine h_ldi (w := 131330) (pc2 := 6) (by decide +kernel) (by decide +kernel) rfl (by omega) ?_
    refine s_astS (w := 283) (pc2 := 7) (by decide +kernel) (by decide +kernel) hS (j := 1) (by decide) (by omega) ?_
    intro m1 hS1
    have hS1 : bS b p (mCh1 a 1 v) m0 m1 := hS1
    refine h_ldi (w := 65794) (pc2 := 8) (by decide +kernel) (by decide +kernel) rfl (by decide) ?_
    refine h_con (w := 131329) (pc2 := 9) (by decide +kernel) (v := 2) (by decide +kernel) ?_
    refine h_sub (w := 264) (pc2 := 10) (by decide +kernel) (by decide +kernel) (by decide) (by decide) (c := 4294967295) (by decide) ?_
    refine h_sti (w := 196868) (pc2 := 11) (by decide +kernel) (n := 4) (by decide +kernel) rfl (by decide) (ls2 := [bR b 0, 1, v, 4294967295]) rfl ?_
    refine h_ldi (w := 196866) (pc2 := 12) (by decide +kernel) (by decide +kernel) rfl (by decide) ?_
    refine h_if (w := 562949955978001) (pc2 := 39) (by decide +kernel) (b := true) (by decide +kernel) (by decide)  (by decide +kernel) ?_
    exact h_ret0 (w := 302) (by decide +kernel) (by decide +kernel) (g _ (by rw [eg]; exact hS1))
  · have eg : mCh a 2 v = mCh2 (mCh1 a 2 v) 0 v := rfl
    refine h_ldr (w := 259) (pc2 := 1) (by decide +kernel) (by decide +kernel) rfl (bR_ref hS.2.1.2.2 (by omega)) ?_
    refine s_getHr (w := 27805367638394240842203926) (pc2 := 4) (by decide +kernel) (c := 4) (k := 3) (by decide +kernel) hS.1 hS.2.1 (by decide) ?_
    refine h_ldi (w := 65794) (pc2 := 5) (by decide +kernel) (by decide +kernel) rfl (by decide) ?_
    refine h_ldi (w := 131330) (pc2 := 6) (by decide +kernel) (by decide +kernel) rfl (by omega) ?_
    refine s_astS (w := 283) (pc2 := 7) (by decide +kernel) (by decide +kernel) hS (j := 2) (by decide) (by omega) ?_
    intro m1 hS1
    have hS1 : bS b p (mCh1 a 2 v) m0 m1 := hS1
    refine h_ldi (w := 65794) (pc2 := 8) (by decide +kernel) (by decide +kernel) rfl (by decide) ?_
    refine h_con (w := 131329) (pc2 := 9) (by decide +kernel) (v := 2) (by decide +kernel) ?_
    refine h_sub (w := 264) (pc2 := 10) (by decide +kernel) (by decide +kernel) (by decide) (by decide) (c := 0) (by decide) ?_
    refine h_sti (w := 196868) (pc2 := 11) (by decide +kernel) (n := 4) (by decide +kernel) rfl (by decide) (ls2 := [bR b 0, 2, v, 0]) rfl ?_
    refine h_ldi (w := 196866) (pc2 := 12) (by decide +kernel) (by decide +kernel) rfl (by decide) ?_
    refine h_if (w := 562949955978001) (pc2 := 15) (by decide +kernel) (b := false) (by decide +kernel) (by decide)  (zc_lt_f (by decide) (by decide) (by decide)) ?_
    refine h_ldi (w := 196866) (pc2 := 16) (by decide +kernel) (by decide +kernel) rfl (by decide) ?_
    refine h_con (w := 131329) (pc2 := 17) (by decide +kernel) (v := 2) (by decide +kernel) ?_
    refine h_icmp (w := 844424932688658) (pc2 := 20) (by decide +kernel) (b := false) (by decide +kernel) (by decide) (by decide) (zc_ge_f (by decide) (by decide) (by decide)) ?_
    refine h_ldr (w := 259) (pc2 := 21) (by decide +kernel) (by decide +kernel) rfl (bR_ref hS1.2.1.2.2 (by omega)) ?_
    refine s_getHr (w := 32641089363596831250711318) (pc2 := 24) (by decide +kernel) (c := 5) (k := 4) (by decide +kernel) hS1.1 hS1.2.1 (by decide) ?_
    refine h_ldi (w := 196866) (pc2 := 25) (by decide +kernel) (by decide +kernel) rfl (by decide) ?_
    refine h_ldi (w := 131330) (pc2 := 26) (by decide +kernel) (by decide +kernel) rfl (by omega) ?_
    refine s_astD (w := 283) (pc2 := 27) (by decide +kernel) (by decide +kernel) hS1 (j := 0) (by decide) (by omega) ?_
    intro m2 hS2
    refine h_ldr (w := 259) (pc2 := 28) (by decide +kernel) (by decide +kernel) rfl (bR_ref hS2.2.1.2.2 (by omega)) ?_
    refine s_getHr (w := 36267885269184792484512534) (pc2 := 31) (by decide +kernel) (c := 6) (k := 5) (by decide +kernel) hS2.1 hS2.2.1 (by decide) ?_
    refine h_ldi (w := 196866) (pc2 := 32) (by decide +kernel) (by decide +kernel) rfl (by decide) ?_
    refine h_ldr (w := 259) (pc2 := 33) (by decide +kernel) (by decide +kernel) rfl (bR_ref hS2.2.1.2.2 (by omega)) ?_
    refine s_getHx (w := 54401661882939787847009046) (pc2 := 36) (by decide +kernel) (c := 0) (x := 0) (by decide +kernel) hS2.1 hS2.2.1 (by decide) ?_
    refine h_ldi (w := 131330) (pc2 := 37) (by decide +kernel) (by decide +kernel) rfl (by omega) ?_
    refine h_add (w := 263) (pc2 := 38) (by decide +kernel) (by decide +kernel) (hS2.2.1.2.1.1 _) (by omega) (c := (add1 ((bU (mCh1 a 2 v) (10 + 0) (v)) 0) v)) add1_eq ?_
    refine s_astN (w := 283) (pc2 := 39) (by decide +kernel) (by decide +kernel) hS2 (j := 0) (by decide) add1_lt ?_
    intro m3 hS3
    exact h_ret0 (w := 302) (by decide +kernel) (by decide +kernel) (g _ (by rw [eg]; exact hS3))
  · have eg : mCh a 3 v = mCh2 (mCh1 a 3 v) 1 v := rfl
    refine h_ldr (w := 259) (pc2 := 1) (by decide +kernel) (by decide +kernel) rfl (bR_ref hS.2.1.2.2 (by omega)) ?_
    refine s_getHr (w := 27805367638394240842203926) (pc2 := 4) (by decide +kernel) (c := 4) (k := 3) (by decide +kernel) hS.1 hS.2.1 (by decide) ?_
    refine h_ldi (w := 65794) (pc2 := 5) (by decide +kernel) (by decide +kernel) rfl (by decide) ?_
    refine h_ldi (w := 131330) (pc2 := 6) (by decide +kernel) (by decide +kernel) rfl (by omega) ?_
    refine s_astS (w := 283) (pc2 := 7) (by decide +kernel) (by decide +kernel) hS (j := 3) (by decide) (by omega) ?_
    intro m1 hS1
    have hS1 : bS b p (mCh1 a 3 v) m0 m1 := hS1
    refine h_ldi (w := 65794) (pc2 := 8) (by decide +kernel) (by decide +kernel) rfl (by decide) ?_
    refine h_con (w := 131329) (pc2 := 9) (by decide +kernel) (v := 2) (by decide +kernel) ?_
    refine h_sub (w := 264) (pc2 := 10) (by decide +kernel) (by decide +kernel) (by decide) (by decide) (c := 1) (by decide) ?_
    refine h_sti (w := 196868) (pc2 := 11) (by decide +kernel) (n := 4) (by decide +kernel) rfl (by decide) (ls2 := [bR b 0, 3, v, 1]) rfl ?_
    refine h_ldi (w := 196866) (pc2 := 12) (by decide +kernel) (by decide +kernel) rfl (by decide) ?_
    refine h_if (w := 562949955978001) (pc2 := 15) (by decide +kernel) (b := false) (by decide +kernel) (by decide)  (zc_lt_f (by decide) (by decide) (by decide)) ?_
    refine h_ldi (w := 196866) (pc2 := 16) (by decide +kernel) (by decide +kernel) rfl (by decide) ?_
    refine h_con (w := 131329) (pc2 := 17) (by decide +kernel) (v := 2) (by decide +kernel) ?_
    refine h_icmp (w := 844424932688658) (pc2 := 20) (by decide +kernel) (b := false) (by decide +kernel) (by decide) (by decide) (zc_ge_f (by decide) (by decide) (by decide)) ?_
    refine h_ldr (w := 259) (pc2 := 21) (by decide +kernel) (by decide +kernel) rfl (bR_ref hS1.2.1.2.2 (by omega)) ?_
    refine s_getHr (w := 32641089363596831250711318) (pc2 := 24) (by decide +kernel) (c := 5) (k := 4) (by decide +kernel) hS1.1 hS1.2.1 (by decide) ?_
    refine h_ldi (w := 196866) (pc2 := 25) (by decide +kernel) (by decide +kernel) rfl (by decide) ?_
    refine h_ldi (w := 131330) (pc2 := 26) (by decide +kernel) (by decide +kernel) rfl (by omega) ?_
    refine s_astD (w := 283) (pc2 := 27) (by decide +kernel) (by decide +kernel) hS1 (j := 1) (by decide) (by omega) ?_
    intro m2 hS2
    refine h_ldr (w := 259) (pc2 := 28) (by decide +kernel) (by decide +kernel) rfl (bR_ref hS2.2.1.2.2 (by omega)) ?_
    refine s_getHr (w := 36267885269184792484512534) (pc2 := 31) (by decide +kernel) (c := 6) (k := 5) (by decide +kernel) hS2.1 hS2.2.1 (by decide) ?_
    refine h_ldi (w := 196866) (pc2 := 32) (by decide +kernel) (by decide +kernel) rfl (by decide) ?_
    refine h_ldr (w := 259) (pc2 := 33) (by decide +kernel) (by decide +kernel) rfl (bR_ref hS2.2.1.2.2 (by omega)) ?_
    refine s_getHx (w := 54401661882939787847009046) (pc2 := 36) (by decide +kernel) (c := 0) (x := 0) (by decide +kernel) hS2.1 hS2.2.1 (by decide) ?_
    refine h_ldi (w := 131330) (pc2 := 37) (by decide +kernel) (by decide +kernel) rfl (by omega) ?_
    refine h_add (w := 263) (pc2 := 38) (by decide +kernel) (by decide +kernel) (hS2.2.1.2.1.1 _) (by omega) (c := (add1 ((bU (mCh1 a 3 v) (10 + 1) (v)) 0) v)) add1_eq ?_
    refine s_astN (w := 283) (pc2 := 39) (by decide +kernel) (by decide +kernel) hS2 (j := 1) (by decide) add1_lt ?_
    intro m3 hS3
    exact h_ret0 (w := 302) (by decide +kernel) (by decide +kernel) (g _ (by rw [eg]; exact hS3))
  · have eg : mCh a 4 v = mCh1 a 4 v := rfl
    refine h_ldr (w := 259) (pc2 := 1) (by decide +kernel) (by decide +kernel) rfl (bR_ref hS.2.1.2.2 (by omega)) ?_
    refine s_getHr (w := 27805367638394240842203926) (pc2 := 4) (by decide +kernel) (c := 4) (k := 3) (by decide +kernel) hS.1 hS.2.1 (by decide) ?_
    refine h_ldi (w := 65794) (pc2 := 5) (by decide +kernel) (by decide +kernel) rfl (by decide) ?_
    refine h_ldi (w := 131330) (pc2 := 6) (by decide +kernel) (by decide +kernel) rfl (by omega) ?_
    refine s_astS (w := 283) (pc2 := 7) (by decide +kernel) (by decide +kernel) hS (j := 4) (by decide) (by omega) ?_
    intro m1 hS1
    have hS1 : bS b p (mCh1 a 4 v) m0 m1 := hS1
    refine h_ldi (w := 65794) (pc2 := 8) (by decide +kernel) (by decide +kernel) rfl (by decide) ?_
    refine h_con (w := 131329) (pc2 := 9) (by decide +kernel) (v := 2) (by decide +kernel) ?_
    refine h_sub (w := 264) (pc2 := 10) (by decide +kernel) (by decide +kernel) (by decide) (by decide) (c := 2) (by decide) ?_
    refine h_sti (w := 196868) (pc2 := 11) (by decide +kernel) (n := 4) (by decide +kernel) rfl (by decide) (ls2 := [bR b 0, 4, v, 2]) rfl ?_
    refine h_ldi (w := 196866) (pc2 := 12) (by decide +kernel) (by decide +kernel) rfl (by decide) ?_
    refine h_if (w := 562949955978001) (pc2 := 15) (by decide +kernel) (b := false) (by decide +kernel) (by decide)  (zc_lt_f (by decide) (by decide) (by decide)) ?_
    refine h_ldi (w := 196866) (pc2 := 16) (by decide +kernel) (by decide +kernel) rfl (by decide) ?_
    refine h_con (w := 131329) (pc2 := 17) (by decide +kernel) (v := 2) (by decide +kernel) ?_
    refine h_icmp (w := 844424932688658) (pc2 := 39) (by decide +kernel) (b := true) (by decide +kernel) (by decide) (by decide) (zc_ge_t (by decide) (by decide) (by decide)) ?_
    exact h_ret0 (w := 302) (by decide +kernel) (by decide +kernel) (g _ (by rw [eg]; exact hS1))
/-- a load comes behind the others -/
def mAp1 (a : Nat → Nat) (q v : Nat) : Nat → Nat := bU a (303 + 30 * q + a (300 + 30 * q + 0)) v
theorem mAp1_d {q v n : Nat} (h : n = a (300 + 30 * q + 0)) : mAp1 a q v = bU a (303 + 30 * q + n) v := by rw [h]; rfl
theorem mAp1_l {q v : Nat} : mAp1 a q v (300 + 30 * q + 0) = a (300 + 30 * q + 0) := bU_n (by omega)
def mAp (a : Nat → Nat) (q v : Nat) : Nat → Nat := bU (mAp1 a q v) (300 + 30 * q + 0) (inc1 (a (300 + 30 * q + 0)))
theorem mAp_d {q v n : Nat} (h : n = a (300 + 30 * q + 0)) : mAp a q v = bU (mAp1 a q v) (300 + 30 * q + 0) (inc1 n) := by rw [h]; rfl
theorem m33 {q v t : Nat} (hS : bS b p a m0 m) (hq : q < 12) (h9 : a (300 + 30 * q + 0) < 9) (hv : v < 4294967296) (ht : t < 4294967296) (g : ∀ m', bS b p (mAp a q v) m0 m' → gFin1 sc Q frs 33 0 m') : gFin sc Q frs 33 0 [bR b (25 + 3 * q), v, t] [] m := by
  obtain ⟨n, en⟩ : ∃ n, n = a (300 + 30 * q + 0) := ⟨_, rfl⟩
  have hn : n < 9 := by omega
  have el := mAp1_l (a := a) (q := q) (v := v)
  rw [← en] at el
  refine h_ldr (w := 259) (pc2 := 1) (by decide +kernel) (by decide +kernel) rfl (bR_ref hS.2.1.2.2 (by omega)) ?_
  refine s_getLx (w := 29014256564802197572551446) (pc2 := 4) (by decide +kernel) (c := 2) (by decide +kernel) hS.1 hS.2.1 (q := q) hq (x := 300 + 30 * q + 0) (by omega) ?_
  rw [← en]
  refine h_con (w := 281474977300993) (pc2 := 6) (by decide +kernel) (v := 9) (by decide +kernel) ?_
  refine h_icmp (w := 844424932688658) (pc2 := 9) (by decide +kernel) (b := false) (by decide +kernel) (by omega) (by decide) (zc_ge_f (by omega) (by omega) (by omega)) ?_
  refine h_ldr (w := 259) (pc2 := 10) (by decide +kernel) (by decide +kernel) rfl (bR_ref hS.2.1.2.2 (by omega)) ?_
  refine s_getL (w := 10880332377094612532724502) (pc2 := 13) (by decide +kernel) (c := 0) (by decide +kernel) hS.1 hS.2.1 (q := q) hq (v := bR b (25 + 3 * q + 1)) rfl ?_
  refine h_ldr (w := 259) (pc2 := 14) (by decide +kernel) (by decide +kernel) rfl (bR_ref hS.2.1.2.2 (by omega)) ?_
  refine s_getLx (w := 29014256564802197572551446) (pc2 := 17) (by decide +kernel) (c := 2) (by decide +kernel) hS.1 hS.2.1 (q := q) hq (x := 300 + 30 * q + 0) (by omega) ?_
  rw [← en]
  refine h_ldi (w := 65794) (pc2 := 18) (by decide +kernel) (by decide +kernel) rfl hv ?_
  refine s_astW (w := 283) (pc2 := 19) (by decide +kernel) (by decide +kernel) hS hq (by omega) hv ?_
  intro m1 hS1
  rw [← mAp1_d en] at hS1
  refine h_ldr (w := 259) (pc2 := 20) (by decide +kernel) (by decide +kernel) rfl (bR_ref hS1.2.1.2.2 (by omega)) ?_
  refine s_getL (w := 18133905741526461290578710) (pc2 := 23) (by decide +kernel) (c := 1) (by decide +kernel) hS1.1 hS1.2.1 (q := q) hq (v := bR b (25 + 3 * q + 2)) rfl ?_
  refine h_ldr (w := 259) (pc2 := 24) (by decide +kernel) (by decide +kernel) rfl (bR_ref hS1.2.1.2.2 (by omega)) ?_
  refine s_getLx (w := 29014256564802197572551446) (pc2 := 27) (by decide +kernel) (c := 2) (by decide +kernel) hS1.1 hS1.2.1 (q := q) hq (x := 300 + 30 * q + 0) (by omega) ?_
  rw [el]
  refine h_ldi (w := 131330) (pc2 := 28) (by decide +kernel) (by decide +kernel) rfl ht ?_
  refine s_astC (w := 283) (pc2 := 29) (by decide +kernel) (by decide +kernel) hS1 hq (by omega) ht ?_
  intro m2 hS2
  refine h_ldr (w := 259) (pc2 := 30) (by decide +kernel) (by decide +kernel) rfl (bR_ref hS2.2.1.2.2 (by omega)) ?_
  refine h_dup (w := 270) (pc2 := 31) (by decide +kernel) (by decide +kernel) (bR_ref hS2.2.1.2.2 (by omega)).2 ?_
  refine s_getLx (w := 29014256564802197572551446) (pc2 := 34) (by decide +kernel) (c := 2) (by decide +kernel) hS2.1 hS2.2.1 (q := q) hq (x := 300 + 30 * q + 0) (by omega) ?_
  rw [el]
  refine h_con (w := 65793) (pc2 := 35) (by decide +kernel) (v := 1) (by decide +kernel) ?_
  refine h_add (w := 263) (pc2 := 36) (by decide +kernel) (by decide +kernel) (by omega) (by decide) (c := (inc1 n)) inc1_eq ?_
  refine s_putLx (w := 29014256564802197572551447) (pc2 := 39) (by decide +kernel) (c := 2) (by decide +kernel) hS2 (q := q) hq (x := 300 + 30 * q + 0) (by omega) inc1_lt ?_
  intro m3 hS3
  rw [← mAp_d en] at hS3
  exact h_ret0 (w := 302) (by decide +kernel) (by decide +kernel) (g _ hS3)
/-- a load goes back to the head -/
def mPf1 (a : Nat → Nat) (q : Nat) : Nat → Nat := bSu a q (a (300 + 30 * q + 0))
theorem mPf1_d {q n : Nat} (h : n = a (300 + 30 * q + 0)) : mPf1 a q = bSu a q n := by rw [h]; rfl
def mPf2 (a : Nat → Nat) (q v : Nat) : Nat → Nat := bU (mPf1 a q) (303 + 30 * q + 0) v
theorem mPf2_d {q v : Nat} : mPf2 a q v = bU (mPf1 a q) (303 + 30 * q + 0) v := rfl
theorem mPf1_l {q : Nat} : mPf1 a q (300 + 30 * q + 0) = a (300 + 30 * q + 0) := bSu_n (by omega)
theorem mPf2_l {q v : Nat} : mPf2 a q v (300 + 30 * q + 0) = a (300 + 30 * q + 0) := (bU_n (by omega)).trans mPf1_l
def mPf (a : Nat → Nat) (q v : Nat) : Nat → Nat := bU (mPf2 a q v) (300 + 30 * q + 0) (inc1 (a (300 + 30 * q + 0)))
theorem mPf_d {q v n : Nat} (h : n = a (300 + 30 * q + 0)) : mPf a q v = bU (mPf2 a q v) (300 + 30 * q + 0) (inc1 n) := by rw [h]; rfl
theorem m34 {q v t : Nat} (hS : bS b p a m0 m) (hq : q < 12) (h9 : a (300 + 30 * q + 0) < 9) (hv : v < 4294967296) (ht : t < 4294967296) (g : ∀ m', bS b p (mPf a q v) m0 m' → gFin1 sc Q frs 34 0 m') : gFin sc Q frs 34 0 [bR b (25 + 3 * q), v, t] [] m := by
  obtain ⟨n, en⟩ : ∃ n, n = a (300 + 30 * q + 0) := ⟨_, rfl⟩
  have hn : n < 9 := by omega
  have e1 := mPf1_l (a := a) (q := q)
  have e2 := mPf2_l (a := a) (q := q) (v := v)
  rw [← en] at e1 e2
  refine h_ldr (w := 259) (pc2 := 1) (by decide +kernel) (by decide +kernel) rfl (bR_ref hS.2.1.2.2 (by omega)) ?_
  refine s_getLx (w := 29014256564802197572551446) (pc2 := 4) (by decide +kernel) (c := 2) (by decide +kernel) hS.1 hS.2.1 (q := q) hq (x := 300 + 30 * q + 0) (by omega) ?_
  rw [← en]
  refine h_con (w := 281474977300993) (pc2 := 6) (by decide +kernel) (v := 9) (by decide +kernel) ?_
  refine h_icmp (w := 844424934523666) (pc2 := 9) (by decide +kernel) (b := false) (by decide +kernel) (by omega) (by decide) (zc_ge_f (by omega) (by omega) (by omega)) ?_
  refine h_ldr (w := 259) (pc2 := 10) (by decide +kernel) (by decide +kernel) rfl (bR_ref hS.2.1.2.2 (by omega)) ?_
  refine s_getL (w := 10880332377094612532724502) (pc2 := 13) (by decide +kernel) (c := 0) (by decide +kernel) hS.1 hS.2.1 (q := q) hq (v := bR b (25 + 3 * q + 1)) rfl ?_
  refine h_con (w := 257) (pc2 := 14) (by decide +kernel) (v := 0) (by decide +kernel) ?_
  refine h_ldr (w := 259) (pc2 := 15) (by decide +kernel) (by decide +kernel) rfl (bR_ref hS.2.1.2.2 (by omega)) ?_
  refine s_getL (w := 10880332377094612532724502) (pc2 := 18) (by decide +kernel) (c := 0) (by decide +kernel) hS.1 hS.2.1 (q := q) hq (v := bR b (25 + 3 * q + 1)) rfl ?_
  refine h_con (w := 65793) (pc2 := 19) (by decide +kernel) (v := 1) (by decide +kernel) ?_
  refine h_ldr (w := 259) (pc2 := 20) (by decide +kernel) (by decide +kernel) rfl (bR_ref hS.2.1.2.2 (by omega)) ?_
  refine s_getLx (w := 29014256564802197572551446) (pc2 := 23) (by decide +kernel) (c := 2) (by decide +kernel) hS.1 hS.2.1 (q := q) hq (x := 300 + 30 * q + 0) (by omega) ?_
  rw [← en]
  refine s_cpyU (w := 21760664753063325160506156) (pc2 := 26) (by decide +kernel) (by decide +kernel) (Nat.le_of_ble_eq_true rfl) hS hq (by omega) ?_
  intro m1 hS1
  rw [← mPf1_d en] at hS1
  refine h_ldr (w := 259) (pc2 := 27) (by decide +kernel) (by decide +kernel) rfl (bR_ref hS1.2.1.2.2 (by omega)) ?_
  refine s_getL (w := 18133905741526461290578710) (pc2 := 30) (by decide +kernel) (c := 1) (by decide +kernel) hS1.1 hS1.2.1 (q := q) hq (v := bR b (25 + 3 * q + 2)) rfl ?_
  refine h_con (w := 257) (pc2 := 31) (by decide +kernel) (v := 0) (by decide +kernel) ?_
  refine h_ldr (w := 259) (pc2 := 32) (by decide +kernel) (by decide +kernel) rfl (bR_ref hS1.2.1.2.2 (by omega)) ?_
  refine s_getL (w := 18133905741526461290578710) (pc2 := 35) (by decide +kernel) (c := 1) (by decide +kernel) hS1.1 hS1.2.1 (q := q) hq (v := bR b (25 + 3 * q + 2)) rfl ?_
  refine h_con (w := 65793) (pc2 := 36) (by decide +kernel) (v := 1) (by decide +kernel) ?_
  refine h_ldr (w := 259) (pc2 := 37) (by decide +kernel) (by decide +kernel) rfl (bR_ref hS1.2.1.2.2 (by omega)) ?_
  refine s_getLx (w := 29014256564802197572551446) (pc2 := 40) (by decide +kernel) (c := 2) (by decide +kernel) hS1.1 hS1.2.1 (q := q) hq (x := 300 + 30 * q + 0) (by omega) ?_
  rw [e1]
  refine s_cpyV (w := 21760664753063325160506156) (pc2 := 43) (by decide +kernel) (by decide +kernel) (Nat.le_of_ble_eq_true rfl) hS1 hq (by omega) ?_
  intro m2 hS2
  refine h_ldr (w := 259) (pc2 := 44) (by decide +kernel) (by decide +kernel) rfl (bR_ref hS2.2.1.2.2 (by omega)) ?_
  refine s_getL (w := 10880332377094612532724502) (pc2 := 47) (by decide +kernel) (c := 0) (by decide +kernel) hS2.1 hS2.2.1 (q := q) hq (v := bR b (25 + 3 * q + 1)) rfl ?_
  refine h_con (w := 257) (pc2 := 48) (by decide +kernel) (v := 0) (by decide +kernel) ?_
  refine h_ldi (w := 65794) (pc2 := 49) (by decide +kernel) (by decide +kernel) rfl hv ?_
  refine s_astW (w := 283) (pc2 := 50) (by decide +kernel) (by decide +kernel) hS2 hq (by decide) hv ?_
  intro m3 hS3
  rw [← mPf2_d] at hS3
  refine h_ldr (w := 259) (pc2 := 51) (by decide +kernel) (by decide +kernel) rfl (bR_ref hS3.2.1.2.2 (by omega)) ?_
  refine s_getL (w := 18133905741526461290578710) (pc2 := 54) (by decide +kernel) (c := 1) (by decide +kernel) hS3.1 hS3.2.1 (q := q) hq (v := bR b (25 + 3 * q + 2)) rfl ?_
  refine h_con (w := 257) (pc2 := 55) (by decide +kernel) (v := 0) (by decide +kernel) ?_
  refine h_ldi (w := 131330) (pc2 := 56) (by decide +kernel) (by decide +kernel) rfl ht ?_
  refine s_astC (w := 283) (pc2 := 57) (by decide +kernel) (by decide +kernel) hS3 hq (by decide) ht ?_
  intro m4 hS4
  refine h_ldr (w := 259) (pc2 := 58) (by decide +kernel) (by decide +kernel) rfl (bR_ref hS4.2.1.2.2 (by omega)) ?_
  refine h_dup (w := 270) (pc2 := 59) (by decide +kernel) (by decide +kernel) (bR_ref hS4.2.1.2.2 (by omega)).2 ?_
  refine s_getLx (w := 29014256564802197572551446) (pc2 := 62) (by decide +kernel) (c := 2) (by decide +kernel) hS4.1 hS4.2.1 (q := q) hq (x := 300 + 30 * q + 0) (by omega) ?_
  rw [e2]
  refine h_con (w := 65793) (pc2 := 63) (by decide +kernel) (v := 1) (by decide +kernel) ?_
  refine h_add (w := 263) (pc2 := 64) (by decide +kernel) (by decide +kernel) (by omega) (by decide) (c := (inc1 n)) inc1_eq ?_
  refine s_putLx (w := 29014256564802197572551447) (pc2 := 67) (by decide +kernel) (c := 2) (by decide +kernel) hS4 (q := q) hq (x := 300 + 30 * q + 0) (by omega) inc1_lt ?_
  intro m5 hS5
  rw [← mPf_d en] at hS5
  exact h_ret0 (w := 302) (by decide +kernel) (by decide +kernel) (g _ hS5)
def max1 (x y : Nat) : Nat := bif zlt x y then y else x
theorem max1_eq {x y : Nat} : (bif zlt x y then y else x) = max1 x y := rfl
theorem max1_lt {s x : Nat} (hs : s < 2147483648) (hx : x < 4294967296) : max1 s x < 2147483648 := by
  unfold max1
  cases c0 : zlt s x
  · exact hs
  · have c1 : zs s < zs x := of_decide_eq_true c0
    unfold zs at c1
    rw [if_pos hs] at c1
    by_cases c2 : x < 2147483648
    · exact c2
    · rw [if_neg c2] at c1
      omega
theorem m38_loop {q t : Nat} (hS : bS b p a m0 m) (hq : q < 12) (h9 : a (300 + 30 * q + 0) ≤ 9) (ht : t < 4294967296) (g : ∀ v, v < 2147483648 → gFin1 sc Q frs 38 v m) : ∀ (d k s : Nat), k + d = a (300 + 30 * q + 0) → s < 2147483648 → gFin sc Q frs 38 4 [bR b (25 + 3 * q), t, s, k] [] m := by
  intro d
  induction d with
  | zero =>
    intro k s hk hs
    refine h_ldi (w := 196866) (pc2 := 5) (by decide +kernel) (by decide +kernel) rfl (by omega) ?_
    refine h_ldr (w := 259) (pc2 := 6) (by decide +kernel) (by decide +kernel) rfl (bR_ref hS.2.1.2.2 (by omega)) ?_
    refine s_getLx (w := 29014256564802197572551446) (pc2 := 9) (by decide +kernel) (c := 2) (by decide +kernel) hS.1 hS.2.1 (q := q) hq (x := 300 + 30 * q + 0) (by omega) ?_
    refine h_icmp (w := 844424932164370) (pc2 := 31) (by decide +kernel) (b := true) (by decide +kernel) (by omega) (hS.2.1.2.1.1 _) (zc_ge_t (by omega) (by omega) (by omega)) ?_
    refine h_ldi (w := 131330) (pc2 := 32) (by decide +kernel) (by decide +kernel) rfl (by omega) ?_
    exact h_ret (w := 301) (by decide +kernel) (by decide +kernel) (by omega) (fun h => absurd h (by decide +kernel)) (g _ hs)
  | succ d IH =>
    intro k s hk hs
    refine h_ldi (w := 196866) (pc2 := 5) (by decide +kernel) (by decide +kernel) rfl (by omega) ?_
    refine h_ldr (w := 259) (pc2 := 6) (by decide +kernel) (by decide +kernel) rfl (bR_ref hS.2.1.2.2 (by omega)) ?_
    refine s_getLx (w := 29014256564802197572551446) (pc2 := 9) (by decide +kernel) (c := 2) (by decide +kernel) hS.1 hS.2.1 (q := q) hq (x := 300 + 30 * q + 0) (by omega) ?_
    refine h_icmp (w := 844424932164370) (pc2 := 12) (by decide +kernel) (b := false) (by decide +kernel) (by omega) (hS.2.1.2.1.1 _) (zc_ge_f (by omega) (by omega) (by omega)) ?_
    refine h_ldi (w := 131330) (pc2 := 13) (by decide +kernel) (by decide +kernel) rfl (by omega) ?_
    refine h_ldi (w := 65794) (pc2 := 14) (by decide +kernel) (by decide +kernel) rfl ht ?_
    refine h_ldr (w := 259) (pc2 := 15) (by decide +kernel) (by decide +kernel) rfl (bR_ref hS.2.1.2.2 (by omega)) ?_
    refine s_getL (w := 18133905741526461290578710) (pc2 := 18) (by decide +kernel) (c := 1) (by decide +kernel) hS.1 hS.2.1 (q := q) hq (v := bR b (25 + 3 * q + 2)) rfl ?_
    refine h_ldi (w := 196866) (pc2 := 19) (by decide +kernel) (by decide +kernel) rfl (by omega) ?_
    refine s_aldC (w := 282) (pc2 := 20) (by decide +kernel) (by decide +kernel) hS hq (by omega) (fun v hv => ?_)
    refine h_sub (w := 264) (pc2 := 21) (by decide +kernel) (by decide +kernel) ht hv (c := (sub1 t v)) sub1_eq ?_
    have hx := sub1_lt (x := t) (y := v)
    obtain ⟨z, ez⟩ : ∃ z, z = max1 s (sub1 t v) := ⟨_, rfl⟩
    have hz : z < 2147483648 := by rw [ez]; exact max1_lt hs hx
    refine h_max (w := 41103477866897391965700907) (pc2 := 24) (by decide +kernel) (by decide +kernel) (by omega) hx (Nat.le_of_ble_eq_true rfl) (c := z) (max1_eq.trans ez.symm) ?_
    refine h_sti (w := 131332) (pc2 := 25) (by decide +kernel) (n := 4) (by decide +kernel) rfl (by omega) (ls2 := [(bR b (25 + 3 * q)), t, z, k]) rfl ?_
    refine h_inc (w := 844424930198278) (pc2 := 28) (by decide +kernel) (by decide +kernel) rfl (by omega) (c2 := (k + 1)) (by show (_ + 1) % 4294967296 = _; omega) (ls2 := [(bR b (25 + 3 * q)), t, z, (k + 1)]) rfl ?_
    refine h_goto (w := 262931) (pc2 := 4) (by decide +kernel) (by decide +kernel) ?_
    exact IH (k + 1) z (by omega) hz
theorem m38 {q t x y : Nat} (hS : bS b p a m0 m) (hq : q < 12) (h9 : a (300 + 30 * q + 0) ≤ 9) (ht : t < 4294967296) (g : ∀ v, v < 2147483648 → gFin1 sc Q frs 38 v m) : gFin sc Q frs 38 0 [bR b (25 + 3 * q), t, x, y] [] m := by
  refine h_con (w := 257) (pc2 := 1) (by decide +kernel) (v := 0) (by decide +kernel) ?_
  refine h_sti (w := 131332) (pc2 := 2) (by decide +kernel) (n := 4) (by decide +kernel) rfl (by decide) (ls2 := [(bR b (25 + 3 * q)), t, 0, y]) rfl ?_
  refine h_con (w := 257) (pc2 := 3) (by decide +kernel) (v := 0) (by decide +kernel) ?_
  refine h_sti (w := 196868) (pc2 := 4) (by decide +kernel) (n := 4) (by decide +kernel) rfl (by decide) (ls2 := [(bR b (25 + 3 * q)), t, 0, 0]) rfl ?_
  exact m38_loop hS hq h9 ht g _ 0 0 (Nat.zero_add _) (by decide)
end BG
