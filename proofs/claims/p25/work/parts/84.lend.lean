/-! ===== the neediest quay; arms are lent (printed by wip/gen/m84.py) ===== -/
theorem cmp5_t {x y : Nat} (h : zlt y x = false) : zCmp 5 x y = true := by show (!zlt y x) = true; rw [h]; rfl
theorem cmp5_f {x y : Nat} (h : zlt y x = true) : zCmp 5 x y = false := by show (!zlt y x) = false; rw [h]; rfl
theorem cmp3_t {x y : Nat} (h : zlt x y = false) : zCmp 3 x y = true := by show (!zlt x y) = true; rw [h]; rfl
theorem cmp3_f {x y : Nat} (h : zlt x y = true) : zCmp 3 x y = false := by show (!zlt x y) = false; rw [h]; rfl
section BG
variable {sc : List Nat} {Q : Nat → zM → Prop} {frs : gCf} {m m0 : zM} {b : Nat} {p a : Nat → Nat}
def mNd (a : Nat → Nat) : Nat → Nat → Nat → Nat → Nat
  | 0, _, f, _ => f
  | d + 1, q, f, mo => bif zlt mo (mOpen a q) then mNd a d (q + 1) q (mOpen a q) else mNd a d (q + 1) f mo
theorem mNd_in : ∀ (d q f mo : Nat), mNd a d q f mo = f ∨ (q ≤ mNd a d q f mo ∧ mNd a d q f mo < q + d) := by
  intro d
  induction d with
  | zero => exact fun _ _ _ => Or.inl rfl
  | succ d IH =>
    intro q f mo
    show (bif zlt mo (mOpen a q) then mNd a d (q + 1) q (mOpen a q) else mNd a d (q + 1) f mo) = f ∨ (q ≤ (bif zlt mo (mOpen a q) then mNd a d (q + 1) q (mOpen a q) else mNd a d (q + 1) f mo) ∧ (bif zlt mo (mOpen a q) then mNd a d (q + 1) q (mOpen a q) else mNd a d (q + 1) f mo) < q + (d + 1))
    cases zlt mo (mOpen a q)
    · rw [cond_false]
      rcases IH (q + 1) f mo with h | h
      · exact Or.inl h
      · exact Or.inr (by omega)
    · rw [cond_true]
      rcases IH (q + 1) q (mOpen a q) with h | h
      · exact Or.inr (by omega)
      · exact Or.inr (by omega)
theorem m24_loop {fi en : Nat} (hS : bS b p a m0 m) (he : en ≤ 12) : ∀ (d q f mo : Nat), q + d = en → f < 4294967296 → mo < 4294967296 → gFin1 sc Q frs 24 (mNd a d q f mo) m → gFin sc Q frs 24 8 [bR b 0, fi, en, f, mo, q] [] m := by
  intro d
  induction d with
  | zero =>
    intro q f mo hk hf hmo g
    refine h_ldi (w := 281474977038850) (pc2 := 10) (by decide +kernel) (by decide +kernel) rfl (by omega) ?_
    refine h_ldi (w := 131330) (pc2 := 11) (by decide +kernel) (by decide +kernel) rfl (by omega) ?_
    refine h_icmp (w := 844424933409554) (pc2 := 50) (by decide +kernel) (b := true) (by decide +kernel) (by omega) (by omega) (zc_ge_t (by omega) (by omega) (by omega)) ?_
    refine h_ldi (w := 196866) (pc2 := 51) (by decide +kernel) (by decide +kernel) rfl hf ?_
    exact h_ret (w := 301) (by decide +kernel) (by decide +kernel) hf (fun h => absurd h (by decide +kernel)) g
  | succ d IH =>
    intro q f mo hk hf hmo g
    have hq : q < 12 := by omega
    have ho : mOpen a q < 4294967296 := sub1_lt
    refine h_ldi (w := 281474977038850) (pc2 := 10) (by decide +kernel) (by decide +kernel) rfl (by omega) ?_
    refine h_ldi (w := 131330) (pc2 := 11) (by decide +kernel) (by decide +kernel) rfl (by omega) ?_
    refine h_icmp (w := 844424933409554) (pc2 := 14) (by decide +kernel) (b := false) (by decide +kernel) (by omega) (by omega) (zc_ge_f (by omega) (by omega) (by omega)) ?_
    refine h_ldr (w := 259) (pc2 := 15) (by decide +kernel) (by decide +kernel) rfl (bR_ref hS.2.1.2.2 (by omega)) ?_
    refine s_getHr (w := 22969645913191650433696534) (pc2 := 18) (by decide +kernel) (c := 3) (k := 2) (by decide +kernel) hS.1 hS.2.1 (by decide) ?_
    refine h_ldi (w := 281474977038850) (pc2 := 20) (by decide +kernel) (by decide +kernel) rfl (by omega) ?_
    refine s_aldL (w := 286) (pc2 := 21) (by decide +kernel) (by decide +kernel) hS.1 hS.2.1 hq ?_
    refine h_cv (w := 217611997086696102196151077) (c := 36) (n := 0) (by decide +kernel) (by decide +kernel) rfl (zA_L hS (by omega)) ⟨Nat.le_of_ble_eq_true rfl, Nat.le_of_ble_eq_true rfl⟩ (show ∀ c ∈ [(bR b (25 + 3 * q))], c < 8589934592 from zl_c (bR_ref hS.2.1.2.2 (by omega)).2 zl_n) (st2 := []) rfl (l2 := [(bR b (25 + 3 * q))]) (by show (List.take 1 _).reverse ++ List.replicate (zMaxL 36 - 1) _ = _; rw [show zMaxL 36 = 1 by decide +kernel]; rfl) ?_
    refine m36 hS hq (gF_v (by decide +kernel) ?_)
    refine h_ldi (w := 281474976973314) (pc2 := 26) (by decide +kernel) (by decide +kernel) rfl hmo ?_
    by_cases c0 : zlt mo (mOpen a q) = true
    · rw [show mNd a (d + 1) q f mo = mNd a d (q + 1) q (mOpen a q) from by show (bif zlt mo (mOpen a q) then _ else _) = _; rw [c0]; rfl] at g
      refine h_icmp (w := 1407374886437650) (pc2 := 29) (by decide +kernel) (b := false) (by decide +kernel) ho hmo (cmp5_f c0) ?_
      refine h_ldr (w := 259) (pc2 := 30) (by decide +kernel) (by decide +kernel) rfl (bR_ref hS.2.1.2.2 (by omega)) ?_
      refine s_getHr (w := 22969645913191650433696534) (pc2 := 33) (by decide +kernel) (c := 3) (k := 2) (by decide +kernel) hS.1 hS.2.1 (by decide) ?_
      refine h_ldi (w := 281474977038850) (pc2 := 35) (by decide +kernel) (by decide +kernel) rfl (by omega) ?_
      refine s_aldL (w := 286) (pc2 := 36) (by decide +kernel) (by decide +kernel) hS.1 hS.2.1 hq ?_
      refine h_cv (w := 217611997086696102196151077) (c := 36) (n := 0) (by decide +kernel) (by decide +kernel) rfl (zA_L hS (by omega)) ⟨Nat.le_of_ble_eq_true rfl, Nat.le_of_ble_eq_true rfl⟩ (show ∀ c ∈ [(bR b (25 + 3 * q))], c < 8589934592 from zl_c (bR_ref hS.2.1.2.2 (by omega)).2 zl_n) (st2 := []) rfl (l2 := [(bR b (25 + 3 * q))]) (by show (List.take 1 _).reverse ++ List.replicate (zMaxL 36 - 1) _ = _; rw [show zMaxL 36 = 1 by decide +kernel]; rfl) ?_
      refine m36 hS hq (gF_v (by decide +kernel) ?_)
      refine h_sti (w := 281474976973316) (pc2 := 41) (by decide +kernel) (n := 6) (by decide +kernel) rfl ho (ls2 := [bR b 0, fi, en, f, (mOpen a q), q]) rfl ?_
      refine h_ldi (w := 281474977038850) (pc2 := 43) (by decide +kernel) (by decide +kernel) rfl (by omega) ?_
      refine h_sti (w := 196868) (pc2 := 44) (by decide +kernel) (n := 6) (by decide +kernel) rfl (by omega) (ls2 := [bR b 0, fi, en, q, (mOpen a q), q]) rfl ?_
      refine h_inc (w := 1407374883619590) (pc2 := 47) (by decide +kernel) (by decide +kernel) rfl (by omega) (c2 := (q + 1)) (by show (_ + 1) % 4294967296 = _; omega) (ls2 := [bR b 0, fi, en, q, (mOpen a q), (q + 1)]) rfl ?_
      refine h_goto (w := 525075) (pc2 := 8) (by decide +kernel) (by decide +kernel) ?_
      exact IH (q + 1) q _ (by omega) (by omega) ho g
    · rw [Bool.not_eq_true] at c0
      rw [show mNd a (d + 1) q f mo = mNd a d (q + 1) f mo from by show (bif zlt mo (mOpen a q) then _ else _) = _; rw [c0]; rfl] at g
      refine h_icmp (w := 1407374886437650) (pc2 := 44) (by decide +kernel) (b := true) (by decide +kernel) ho hmo (cmp5_t c0) ?_
      refine h_inc (w := 1407374883619590) (pc2 := 47) (by decide +kernel) (by decide +kernel) rfl (by omega) (c2 := (q + 1)) (by show (_ + 1) % 4294967296 = _; omega) (ls2 := [bR b 0, fi, en, f, mo, (q + 1)]) rfl ?_
      refine h_goto (w := 525075) (pc2 := 8) (by decide +kernel) (by decide +kernel) ?_
      exact IH (q + 1) f mo (by omega) hf hmo g
theorem m24 {fi en x y z : Nat} (hS : bS b p a m0 m) (he : en ≤ 12) (hf : fi ≤ en) (g : gFin1 sc Q frs 24 (mNd a (en - fi) fi 4294967295 1) m) : gFin sc Q frs 24 0 [bR b 0, fi, en, x, y, z] [] m := by
  refine h_con (w := 281474976645377) (pc2 := 1) (by decide +kernel) (v := 4294967295) (by decide +kernel) ?_
  refine h_sti (w := 196868) (pc2 := 2) (by decide +kernel) (n := 6) (by decide +kernel) rfl (by decide) (ls2 := [bR b 0, fi, en, 4294967295, y, z]) rfl ?_
  refine h_con (w := 65793) (pc2 := 3) (by decide +kernel) (v := 1) (by decide +kernel) ?_
  refine h_sti (w := 281474976973316) (pc2 := 5) (by decide +kernel) (n := 6) (by decide +kernel) rfl (by decide) (ls2 := [bR b 0, fi, en, 4294967295, 1, z]) rfl ?_
  refine h_ldi (w := 65794) (pc2 := 6) (by decide +kernel) (by decide +kernel) rfl (by omega) ?_
  refine h_sti (w := 281474977038852) (pc2 := 8) (by decide +kernel) (n := 6) (by decide +kernel) rfl (by omega) (ls2 := [bR b 0, fi, en, 4294967295, 1, fi]) rfl ?_
  exact m24_loop hS he (en - fi) fi _ _ (by omega) (by decide) (by decide) g
/-- what a departure changes -/
theorem mDp_n {k to x : Nat} (hk : k < 17) (ht : to < 12) (h : x ≠ 14) (h1 : x ≠ 100 + 8 * k + 1) (h2 : x ≠ 100 + 8 * k + 2) (h3 : x ≠ 100 + 8 * k + 3) (h6 : x ≠ 100 + 8 * k + 6) (h7 : x ≠ 100 + 8 * k + 7) (hc : x ≠ 300 + 30 * to + 2) : mDp a k to x = a x := by
  rw [mDp_d, bU_n hc]
  unfold mDp1
  rw [mSo_n h1 h2 h3 h6 h7, mNo_d, bU_n h]
theorem mDp_1 {k to : Nat} (hk : k < 17) : mDp a k to (100 + 8 * k + 1) = to := by
  rw [mDp_d, bU_n (by omega)]
  unfold mDp1
  rw [mSo_d, mSo5_d, bU_n (by omega), mSo4_d, bU_n (by omega), mSo3_d, bU_n (by omega), mSo2_d, bU_n (by omega), mSo1_d, bU_s]
theorem mDp_2 {k to : Nat} (hk : k < 17) : mDp a k to (100 + 8 * k + 2) = 2 := by
  rw [mDp_d, bU_n (by omega)]
  unfold mDp1
  rw [mSo_d, mSo5_d, bU_n (by omega), mSo4_d, bU_n (by omega), mSo3_d, bU_n (by omega), mSo2_d, bU_s]
theorem mDp_3 {k to : Nat} (hk : k < 17) : mDp a k to (100 + 8 * k + 3) = a 5 ∨ mDp a k to (100 + 8 * k + 3) = a 6 := by
  rw [mDp_d, bU_n (by omega)]
  unfold mDp1
  rw [mSo_d, mSo5_d, bU_n (by omega), mSo4_d, bU_n (by omega), mSo3_d, bU_s]
  cases Nat.beq (mIn (a (100 + 8 * k + 1)) to) 0
  · exact Or.inl (show mNo a 5 = a 5 from bU_n (by decide))
  · exact Or.inr (show mNo a 6 = a 6 from bU_n (by decide))
theorem mDp_14 {k to : Nat} (hk : k < 17) : mDp a k to 14 = inc1 (a 14) := by
  rw [mDp_d, bU_n (by omega)]
  unfold mDp1
  rw [mSo_n (by omega) (by omega) (by omega) (by omega) (by omega), mNo_d, bU_s]
theorem mDp_c {k to : Nat} (hk : k < 17) : mDp a k to (300 + 30 * to + 2) = inc1 (a (300 + 30 * to + 2)) := by
  rw [mDp_d, bU_s]
  unfold mDp1
  rw [mSo_n (by omega) (by omega) (by omega) (by omega) (by omega), mNo_d, bU_n (by omega)]
theorem aQ_dp {k to : Nat} (h17 : a 1 ≤ 17) (hk : k < 17) (ht : to < 12) (h : aQ a) : aQ (mDp a k to) := by
  intro j hj
  rw [mDp_n hk ht (by omega) (by omega) (by omega) (by omega) (by omega) (by omega) (by omega)] at hj
  by_cases e : j = k
  · rw [e, mDp_1 hk]
    exact ht
  · rw [mDp_n hk ht (by omega) (by omega) (by omega) (by omega) (by omega) (by omega) (by omega)]
    exact h j hj
theorem mHf_in : ∀ (q f d k : Nat), mHf a q f d k = 4294967295 ∨ (k ≤ mHf a q f d k ∧ mHf a q f d k < k + d) := by
  intro q f d
  induction d with
  | zero => exact fun _ => Or.inl rfl
  | succ d IH =>
    intro k
    unfold mHf
    cases (Nat.beq (a (100 + 8 * k + 2)) 0 && (Nat.beq (a (100 + 8 * k + 4)) 0 && (!Nat.beq (a (100 + 8 * k + 1)) q && Nat.beq (mIn (a (100 + 8 * k + 1)) q) f)))
    · rw [cond_false]
      rcases IH (k + 1) with h | h
      · exact Or.inl h
      · exact Or.inr (by omega)
    · rw [cond_true]
      exact Or.inr (by omega)
def mLe (fi en f : Nat) : Nat → (Nat → Nat) → (Nat → Nat)
  | 0, a => a
  | d + 1, a => bif Nat.beq (mNd a (en - fi) fi 4294967295 1) 4294967295 then a else bif Nat.beq (mHf a (mNd a (en - fi) fi 4294967295 1) f (a 1) 0) 4294967295 then a else mLe fi en f d (mDp a (mHf a (mNd a (en - fi) fi 4294967295 1) f (a 1) 0) (mNd a (en - fi) fi 4294967295 1))
theorem mLe_0 {fi en f : Nat} : mLe fi en f 0 a = a := rfl
theorem mLe_s {fi en f d : Nat} : mLe fi en f (d + 1) a = bif Nat.beq (mNd a (en - fi) fi 4294967295 1) 4294967295 then a else bif Nat.beq (mHf a (mNd a (en - fi) fi 4294967295 1) f (a 1) 0) 4294967295 then a else mLe fi en f d (mDp a (mHf a (mNd a (en - fi) fi 4294967295 1) f (a 1) 0) (mNd a (en - fi) fi 4294967295 1)) := rfl
theorem m22_loop {fi en wy : Nat} (he : en ≤ 12) (hf : fi ≤ en) (hwy : wy < 4294967296) : ∀ (d k x y : Nat) (a : Nat → Nat) (m : zM), k + d = a 1 → aQ a → a 14 + d < 2147483648 → bS b p a m0 m → (∀ m', bS b p (mLe fi en (i1 (Nat.beq wy 1)) d a) m0 m' → gFin1 sc Q frs 22 0 m') → gFin sc Q frs 22 3 [bR b 0, fi, en, wy, k, x, y] [] m := by
  intro d
  induction d with
  | zero =>
    intro k x y a m hk hQ h14 hS g
    have h17 := hS.2.1.2.1.2
    refine h_ldi (w := 281474976973314) (pc2 := 5) (by decide +kernel) (by decide +kernel) rfl (by omega) ?_
    refine h_ldr (w := 259) (pc2 := 6) (by decide +kernel) (by decide +kernel) rfl (bR_ref hS.2.1.2.2 (by omega)) ?_
    refine s_getHx (w := 59237383608142378255516438) (pc2 := 9) (by decide +kernel) (c := 1) (x := 1) (by decide +kernel) hS.1 hS.2.1 (by decide) ?_
    refine h_icmp (w := 844424934720274) (pc2 := 70) (by decide +kernel) (b := true) (by decide +kernel) (by omega) (hS.2.1.2.1.1 _) (zc_ge_t (by omega) (by omega) (by omega)) ?_
    exact h_ret0 (w := 302) (by decide +kernel) (by decide +kernel) (g _ hS)
  | succ d IH =>
    intro k x y a m hk hQ h14 hS g
    have h17 := hS.2.1.2.1.2
    rw [mLe_s] at g
    have hn := mNd_in (a := a) (en - fi) fi 4294967295 1
    obtain ⟨q, eq⟩ : ∃ q, q = mNd a (en - fi) fi 4294967295 1 := ⟨_, rfl⟩
    rw [← eq] at g hn
    refine h_ldi (w := 281474976973314) (pc2 := 5) (by decide +kernel) (by decide +kernel) rfl (by omega) ?_
    refine h_ldr (w := 259) (pc2 := 6) (by decide +kernel) (by decide +kernel) rfl (bR_ref hS.2.1.2.2 (by omega)) ?_
    refine s_getHx (w := 59237383608142378255516438) (pc2 := 9) (by decide +kernel) (c := 1) (x := 1) (by decide +kernel) hS.1 hS.2.1 (by decide) ?_
    refine h_icmp (w := 844424934720274) (pc2 := 12) (by decide +kernel) (b := false) (by decide +kernel) (by omega) (hS.2.1.2.1.1 _) (zc_ge_f (by omega) (by omega) (by omega)) ?_
    refine h_ldr (w := 259) (pc2 := 13) (by decide +kernel) (by decide +kernel) rfl (bR_ref hS.2.1.2.2 (by omega)) ?_
    refine h_ldi (w := 65794) (pc2 := 14) (by decide +kernel) (by decide +kernel) rfl (by omega) ?_
    refine h_ldi (w := 131330) (pc2 := 15) (by decide +kernel) (by decide +kernel) rfl (by omega) ?_
    refine h_cv (w := 201895887645292578039399205) (c := 24) (n := 2) (by decide +kernel) (by decide +kernel) rfl (zA_H hS) ⟨Nat.le_of_ble_eq_true rfl, Nat.le_of_ble_eq_true rfl⟩ (show ∀ c ∈ [en, fi, bR b 0], c < 8589934592 from zl_c (zlo (by omega)) (zl_c (zlo (by omega)) (zl_c (bR_ref hS.2.1.2.2 (by omega)).2 zl_n))) (st2 := []) rfl (l2 := [bR b 0, fi, en, 1099511627776, 1099511627776, 1099511627776]) (by show (List.take 3 _).reverse ++ List.replicate (zMaxL 24 - 3) _ = _; rw [show zMaxL 24 = 6 by decide +kernel]; rfl) ?_
    refine m24 hS he hf (gF_v (by decide +kernel) ?_)
    rw [← eq]
    refine h_sti (w := 281474977038852) (pc2 := 20) (by decide +kernel) (n := 7) (by decide +kernel) rfl (by omega) (ls2 := [bR b 0, fi, en, wy, k, q, y]) rfl ?_
    refine h_ldi (w := 281474977038850) (pc2 := 22) (by decide +kernel) (by decide +kernel) rfl (by omega) ?_
    refine h_con (w := 281474976645377) (pc2 := 23) (by decide +kernel) (v := 4294967295) (by decide +kernel) ?_
    by_cases q0 : q = 4294967295
    · rw [nb_eq.mpr q0, cond_true] at g
      refine h_icmp (w := 281474978677522) (pc2 := 26) (by decide +kernel) (b := false) (by decide +kernel) (by omega) (by decide) (zc_ne_f q0) ?_
      refine h_con (w := 281474976645377) (pc2 := 27) (by decide +kernel) (v := 4294967295) (by decide +kernel) ?_
      refine h_goto (w := 3015443) (pc2 := 46) (by decide +kernel) (by decide +kernel) ?_
      refine h_sti (w := 281474977104388) (pc2 := 48) (by decide +kernel) (n := 7) (by decide +kernel) rfl (by decide) (ls2 := [bR b 0, fi, en, wy, k, q, 4294967295]) rfl ?_
      refine h_ldi (w := 281474977104386) (pc2 := 50) (by decide +kernel) (by decide +kernel) rfl (by decide) ?_
      refine h_con (w := 281474976645377) (pc2 := 51) (by decide +kernel) (v := 4294967295) (by decide +kernel) ?_
      refine h_icmp (w := 281474980315922) (pc2 := 54) (by decide +kernel) (b := false) (by decide +kernel) (by decide) (by decide) (zc_ne_f rfl) ?_
      exact h_ret0 (w := 302) (by decide +kernel) (by decide +kernel) (g _ hS)
    · rw [nb_ne.mpr q0, cond_false] at g
      have hq : q < 12 := by omega
      obtain ⟨f, ef⟩ : ∃ f, f = i1 (Nat.beq wy 1) := ⟨_, rfl⟩
      have hfl : f < 2 := by rw [ef]; exact Nat.lt_succ_of_le i1_le
      rw [← ef] at g
      have hh := mHf_in (a := a) q f (a 1) 0
      obtain ⟨j, ej⟩ : ∃ j, j = mHf a q f (a 1) 0 := ⟨_, rfl⟩
      rw [← ej] at g hh
      refine h_icmp (w := 281474978677522) (pc2 := 30) (by decide +kernel) (b := true) (by decide +kernel) (by omega) (by decide) (zc_ne_t q0) ?_
      refine h_ldr (w := 259) (pc2 := 31) (by decide +kernel) (by decide +kernel) rfl (bR_ref hS.2.1.2.2 (by omega)) ?_
      refine h_ldi (w := 281474977038850) (pc2 := 33) (by decide +kernel) (by decide +kernel) rfl (by omega) ?_
      refine h_ldi (w := 196866) (pc2 := 34) (by decide +kernel) (by decide +kernel) rfl hwy ?_
      refine h_con (w := 65793) (pc2 := 35) (by decide +kernel) (v := 1) (by decide +kernel) ?_
      have go : gFin sc Q frs 22 43 [bR b 0, fi, en, wy, k, q, y] [f, q, bR b 0] m := by
        refine h_cv (w := 206731738497703684414702373) (c := 25) (n := 2) (by decide +kernel) (by decide +kernel) rfl (zA_H hS) ⟨Nat.le_of_ble_eq_true rfl, Nat.le_of_ble_eq_true rfl⟩ (show ∀ c ∈ [f, q, bR b 0], c < 8589934592 from zl_c (zlo (by omega)) (zl_c (zlo (by omega)) (zl_c (bR_ref hS.2.1.2.2 (by omega)).2 zl_n))) (st2 := []) rfl (l2 := [bR b 0, q, f, 1099511627776, 1099511627776]) (by show (List.take 3 _).reverse ++ List.replicate (zMaxL 25 - 3) _ = _; rw [show zMaxL 25 = 5 by decide +kernel]; rfl) ?_
        refine m25 hS hQ hq hfl (gF_v (by decide +kernel) ?_)
        rw [← ej]
        refine h_sti (w := 281474977104388) (pc2 := 48) (by decide +kernel) (n := 7) (by decide +kernel) rfl (by omega) (ls2 := [bR b 0, fi, en, wy, k, q, j]) rfl ?_
        refine h_ldi (w := 281474977104386) (pc2 := 50) (by decide +kernel) (by decide +kernel) rfl (by omega) ?_
        refine h_con (w := 281474976645377) (pc2 := 51) (by decide +kernel) (v := 4294967295) (by decide +kernel) ?_
        by_cases q1 : j = 4294967295
        · rw [nb_eq.mpr q1, cond_true] at g
          refine h_icmp (w := 281474980315922) (pc2 := 54) (by decide +kernel) (b := false) (by decide +kernel) (by omega) (by decide) (zc_ne_f q1) ?_
          exact h_ret0 (w := 302) (by decide +kernel) (by decide +kernel) (g _ hS)
        · rw [nb_ne.mpr q1, cond_false] at g
          have hj : j < a 1 := by omega
          refine h_icmp (w := 281474980315922) (pc2 := 55) (by decide +kernel) (b := true) (by decide +kernel) (by omega) (by decide) (zc_ne_t q1) ?_
          refine h_ldr (w := 259) (pc2 := 56) (by decide +kernel) (by decide +kernel) rfl (bR_ref hS.2.1.2.2 (by omega)) ?_
          refine h_ldi (w := 281474977104386) (pc2 := 58) (by decide +kernel) (by decide +kernel) rfl (by omega) ?_
          refine h_ldi (w := 281474977038850) (pc2 := 60) (by decide +kernel) (by decide +kernel) rfl (by omega) ?_
          refine h_ldi (w := 196866) (pc2 := 61) (by decide +kernel) (by decide +kernel) rfl hwy ?_
          refine h_cv (w := 186180128691744979387351845) (c := 11) (n := 3) (by decide +kernel) (by decide +kernel) rfl (zA_H hS) ⟨Nat.le_of_ble_eq_true rfl, Nat.le_of_ble_eq_true rfl⟩ (show ∀ c ∈ [wy, q, j, bR b 0], c < 8589934592 from zl_c (zlo hwy) (zl_c (zlo (by omega)) (zl_c (zlo (by omega)) (zl_c (bR_ref hS.2.1.2.2 (by omega)).2 zl_n)))) (st2 := []) rfl (l2 := [bR b 0, j, q, wy, 1099511627776, 1099511627776]) (by show (List.take 4 _).reverse ++ List.replicate (zMaxL 11 - 4) _ = _; rw [show zMaxL 11 = 6 by decide +kernel]; rfl) ?_
          refine m11 hS hj (hQ j hj) hq (by omega) hwy (fun m1 hS1 => (gF_0 (by decide +kernel) ?_))
          refine h_inc (w := 1125899906908934) (pc2 := 67) (by decide +kernel) (by decide +kernel) rfl (by omega) (c2 := (k + 1)) (by show (_ + 1) % 4294967296 = _; omega) (ls2 := [bR b 0, fi, en, wy, (k + 1), q, j]) rfl ?_
          refine h_goto (w := 197395) (pc2 := 3) (by decide +kernel) (by decide +kernel) ?_
          have e14 := mDp_14 (a := a) (k := j) (to := q) (by omega)
          have ei : inc1 (a 14) = a 14 + 1 := Nat.mod_eq_of_lt (by omega)
          have e1 : mDp a j q 1 = a 1 := mDp_n (by omega) hq (by omega) (by omega) (by omega) (by omega) (by omega) (by omega) (by omega)
          exact IH (k + 1) q j (mDp a j q) m1 (by omega) (aQ_dp h17 (by omega) hq hQ) (by omega) hS1 (fun m2 h2 => g m2 (by rw [← ef] at h2; exact h2))
      by_cases q2 : wy = 1
      · have f1 : f = 1 := by rw [ef, nb_eq.mpr q2]; rfl
        rw [f1] at go
        refine h_icmp (w := 281474979463954) (pc2 := 38) (by decide +kernel) (b := false) (by decide +kernel) hwy (by decide) (zc_ne_f q2) ?_
        refine h_con (w := 65793) (pc2 := 39) (by decide +kernel) (v := 1) (by decide +kernel) ?_
        refine h_goto (w := 2818835) (pc2 := 43) (by decide +kernel) (by decide +kernel) ?_
        exact go
      · have f1 : f = 0 := by rw [ef, nb_ne.mpr q2]; rfl
        rw [f1] at go
        refine h_icmp (w := 281474979463954) (pc2 := 42) (by decide +kernel) (b := true) (by decide +kernel) hwy (by decide) (zc_ne_t q2) ?_
        refine h_con (w := 257) (pc2 := 43) (by decide +kernel) (v := 0) (by decide +kernel) ?_
        exact go
theorem m22 {fi en wy x y z : Nat} (hS : bS b p a m0 m) (he : en ≤ 12) (hf : fi ≤ en) (hwy : wy < 4294967296) (hQ : aQ a) (h14 : a 14 + 17 < 2147483648) (g : ∀ m', bS b p (mLe fi en (i1 (Nat.beq wy 1)) (a 1) a) m0 m' → gFin1 sc Q frs 22 0 m') : gFin sc Q frs 22 0 [bR b 0, fi, en, wy, x, y, z] [] m := by
  have h17 := hS.2.1.2.1.2
  refine h_con (w := 257) (pc2 := 1) (by decide +kernel) (v := 0) (by decide +kernel) ?_
  refine h_sti (w := 281474976973316) (pc2 := 3) (by decide +kernel) (n := 7) (by decide +kernel) rfl (by decide) (ls2 := [bR b 0, fi, en, wy, 0, y, z]) rfl ?_
  exact m22_loop he hf hwy (a 1) 0 y z a m (Nat.zero_add _) hQ (by omega) hS g
end BG
