/-! ===== arms go home; a tick; ticks pass (printed by wip/gen/m86.py) ===== -/
section BG
variable {sc : List Nat} {Q : Nat → zM → Prop} {frs : gCf} {m m0 : zM} {b : Nat} {p a : Nat → Nat}
def aH (a : Nat → Nat) : Prop := ∀ i, i < a 1 → a (100 + 8 * i + 0) < 12
def mGh1 (a : Nat → Nat) (k : Nat) : Nat → Nat := bU a (100 + 8 * k + 7) (bif Nat.beq (mAw a k) 0 then 0 else inc1 (a (100 + 8 * k + 7)))
theorem mGh1_d {k v : Nat} (h : (bif Nat.beq (mAw a k) 0 then 0 else inc1 (a (100 + 8 * k + 7))) = v) : mGh1 a k = bU a (100 + 8 * k + 7) v := by rw [← h]; rfl
theorem mGh1_n {k x : Nat} (h : x ≠ 100 + 8 * k + 7) : mGh1 a k x = a x := bU_n h
def mGh (a : Nat → Nat) (k : Nat) : Nat → Nat := bif zlt 0 (mGh1 a k 9) then (bif zlt (mGh1 a k (100 + 8 * k + 7)) (mGh1 a k 9) then mGh1 a k else mDp (mGh1 a k) k (mGh1 a k (100 + 8 * k + 0))) else mGh1 a k
def mGhL : Nat → Nat → (Nat → Nat) → (Nat → Nat)
  | 0, _, a => a
  | d + 1, k, a => mGhL d (k + 1) (mGh a k)
/-- an arm goes home or it doesn't -/
theorem mGh_c {k : Nat} : mGh a k = mGh1 a k ∨ (mGh a k = mDp (mGh1 a k) k (a (100 + 8 * k + 0)) ∧ zlt 0 (mGh1 a k 9) = true ∧ zlt (mGh1 a k (100 + 8 * k + 7)) (mGh1 a k 9) = false) := by
  unfold mGh
  cases e1 : zlt 0 (mGh1 a k 9)
  · exact Or.inl rfl
  · rw [cond_true]
    cases e2 : zlt (mGh1 a k (100 + 8 * k + 7)) (mGh1 a k 9)
    · rw [cond_false, mGh1_n (x := 100 + 8 * k + 0) (by omega)]
      exact Or.inr ⟨rfl, rfl, rfl⟩
    · exact Or.inl rfl
theorem aQ_gh1 {k : Nat} (h : aQ a) : aQ (mGh1 a k) := fun i hi => by
  rw [mGh1_n (by omega)] at hi
  rw [mGh1_n (by omega)]
  exact h i hi
theorem mGh_k {k : Nat} (h17 : a 1 ≤ 17) (hk : k < a 1) (hQ : aQ a) (hH : aH a) (h14 : a 14 + 1 < 2147483648) : aQ (mGh a k) ∧ aH (mGh a k) ∧ mGh a k 1 = a 1 ∧ a 14 ≤ mGh a k 14 ∧ mGh a k 14 ≤ a 14 + 1 := by
  have e14 : mGh1 a k 14 = a 14 := mGh1_n (by omega)
  have e1 : mGh1 a k 1 = a 1 := mGh1_n (by omega)
  rcases mGh_c (a := a) (k := k) with h | ⟨h, -, -⟩
  · rw [h]
    refine ⟨aQ_gh1 hQ, fun i hi => ?_, e1, by omega, by omega⟩
    rw [mGh1_n (by omega)] at hi
    rw [mGh1_n (by omega)]
    exact hH i hi
  · rw [h]
    have hh := hH k hk
    have n1 := mDp_n (a := mGh1 a k) (k := k) (to := a (100 + 8 * k + 0)) (x := 1) (by omega) hh (by omega) (by omega) (by omega) (by omega) (by omega) (by omega) (by omega)
    have n14 := mDp_14 (a := mGh1 a k) (k := k) (to := a (100 + 8 * k + 0)) (by omega)
    have ei : inc1 (mGh1 a k 14) = mGh1 a k 14 + 1 := Nat.mod_eq_of_lt (by omega)
    refine ⟨aQ_dp (by omega) (by omega) hh (aQ_gh1 hQ), fun i hi => ?_, by omega, by omega, by omega⟩
    rw [n1, e1] at hi
    rw [mDp_n (by omega) hh (by omega) (by omega) (by omega) (by omega) (by omega) (by omega) (by omega), mGh1_n (by omega)]
    exact hH i hi
theorem m19_loop : ∀ (d k x : Nat) (a : Nat → Nat) (m : zM), k + d = a 1 → aQ a → aH a → a 14 + d < 2147483648 → bS b p a m0 m → (∀ m', bS b p (mGhL d k a) m0 m' → gFin1 sc Q frs 19 0 m') → gFin sc Q frs 19 2 [bR b 0, k, x] [] m := by
  intro d
  induction d with
  | zero =>
    intro k x a m hk hQ hH h14 hS g
    have h17 := hS.2.1.2.1.2
    refine h_ldi (w := 65794) (pc2 := 3) (by decide +kernel) (by decide +kernel) rfl (by omega) ?_
    refine h_ldr (w := 259) (pc2 := 4) (by decide +kernel) (by decide +kernel) rfl (bR_ref hS.2.1.2.2 (by omega)) ?_
    refine s_getHx (w := 59237383608142378255516438) (pc2 := 7) (by decide +kernel) (c := 1) (x := 1) (by decide +kernel) hS.1 hS.2.1 (by decide) ?_
    refine h_icmp (w := 844424935113490) (pc2 := 76) (by decide +kernel) (b := true) (by decide +kernel) (by omega) (hS.2.1.2.1.1 _) (zc_ge_t (by omega) (by omega) (by omega)) ?_
    exact h_ret0 (w := 302) (by decide +kernel) (by decide +kernel) (g _ hS)
  | succ d IH =>
    intro k x a m hk hQ hH h14 hS g
    have h17 := hS.2.1.2.1.2
    have hi : k < a 1 := by omega
    have hp := hS.2.1.1.1 k (by omega)
    have haw := mAw_lt (a := a) (k := k)
    have kk := mGh_k h17 hi hQ hH (by omega)
    have nx : ∀ m', bS b p (mGh a k) m0 m' → gFin sc Q frs 19 70 [bR b 0, k, bR b (8 + p k)] [] m' := by
      intro m1 hS1
      refine h_inc (w := 281474976776966) (pc2 := 73) (by decide +kernel) (by decide +kernel) rfl (by omega) (c2 := (k + 1)) (by show (_ + 1) % 4294967296 = _; omega) (ls2 := [bR b 0, (k + 1), (bR b (8 + p k))]) rfl ?_
      refine h_goto (w := 131859) (pc2 := 2) (by decide +kernel) (by decide +kernel) ?_
      exact IH (k + 1) _ _ m1 (by omega) kk.1 kk.2.1 (by omega) hS1 g
    have go : ∀ v, v < 4294967296 → (bif Nat.beq (mAw a k) 0 then 0 else inc1 (a (100 + 8 * k + 7))) = v → gFin sc Q frs 19 35 [bR b 0, k, bR b (8 + p k)] [v, bR b (8 + p k)] m := by
      intro v hv ev
      refine s_putA (w := 178921150430173633828815639) (pc2 := 38) (by decide +kernel) (c := 7) (by decide +kernel) hS hi hv (fun h => absurd h (by decide)) ?_
      intro m1 hS1
      rw [← mGh1_d ev] at hS1
      have hi1 : k < mGh1 a k 1 := by rw [mGh1_n (by omega)]; exact hi
      refine h_ldr (w := 259) (pc2 := 39) (by decide +kernel) (by decide +kernel) rfl (bR_ref hS1.2.1.2.2 (by omega)) ?_
      refine s_getHr (w := 27805367638394240842203926) (pc2 := 42) (by decide +kernel) (c := 4) (k := 3) (by decide +kernel) hS1.1 hS1.2.1 (by decide) ?_
      refine h_con (w := 262401) (pc2 := 43) (by decide +kernel) (v := 4) (by decide +kernel) ?_
      refine s_aldS (w := 282) (pc2 := 44) (by decide +kernel) (by decide +kernel) hS1.1 hS1.2.1 (j := 4) (by decide) ?_
      have en : mGh1 a k (5 + 4) = mGh1 a k 9 := rfl
      have t9 := hS1.2.1.2.1.1 9
      cases c0 : zlt 0 (mGh1 a k 9)
      · have eg : mGh a k = mGh1 a k := by unfold mGh; rw [c0]; rfl
        refine h_if (w := 1407374888141585) (pc2 := 70) (by decide +kernel) (b := true) (by decide +kernel) (hS1.2.1.2.1.1 _)  (cmp5_t c0) ?_
        exact nx _ (by rw [eg]; exact hS1)
      · skip
        refine h_if (w := 1407374888141585) (pc2 := 47) (by decide +kernel) (b := false) (by decide +kernel) (hS1.2.1.2.1.1 _)  (cmp5_f c0) ?_
        refine h_ldr (w := 131331) (pc2 := 48) (by decide +kernel) (by decide +kernel) rfl (bR_ref hS1.2.1.2.2 (by omega)) ?_
        refine s_getA (w := 178921150430173633828815638) (pc2 := 51) (by decide +kernel) (c := 7) (by decide +kernel) hS1.1 hS1.2.1 hi1 ?_
        refine h_ldr (w := 259) (pc2 := 52) (by decide +kernel) (by decide +kernel) rfl (bR_ref hS1.2.1.2.2 (by omega)) ?_
        refine s_getHr (w := 27805367638394240842203926) (pc2 := 55) (by decide +kernel) (c := 4) (k := 3) (by decide +kernel) hS1.1 hS1.2.1 (by decide) ?_
        refine h_con (w := 262401) (pc2 := 56) (by decide +kernel) (v := 4) (by decide +kernel) ?_
        refine s_aldS (w := 282) (pc2 := 57) (by decide +kernel) (by decide +kernel) hS1.1 hS1.2.1 (j := 4) (by decide) ?_
        cases c1 : zlt (mGh1 a k (100 + 8 * k + 7)) (mGh1 a k 9)
        · have eg : mGh a k = mDp (mGh1 a k) k (mGh1 a k (100 + 8 * k + 0)) := by unfold mGh; rw [c0, cond_true, c1]; rfl
          have hh : mGh1 a k (100 + 8 * k + 0) < 12 := by rw [mGh1_n (by omega)]; exact hH k hi
          refine h_icmp (w := 562949958009618) (pc2 := 60) (by decide +kernel) (b := false) (by decide +kernel) (hS1.2.1.2.1.1 _) (hS1.2.1.2.1.1 _) c1 ?_
          refine h_ldr (w := 259) (pc2 := 61) (by decide +kernel) (by decide +kernel) rfl (bR_ref hS1.2.1.2.2 (by omega)) ?_
          refine h_ldi (w := 65794) (pc2 := 62) (by decide +kernel) (by decide +kernel) rfl (by omega) ?_
          refine h_ldr (w := 131331) (pc2 := 63) (by decide +kernel) (by decide +kernel) rfl (bR_ref hS1.2.1.2.2 (by omega)) ?_
          refine s_getA (w := 182547798761809005384827670) (pc2 := 66) (by decide +kernel) (c := 0) (by decide +kernel) hS1.1 hS1.2.1 hi1 ?_
          refine h_con (w := 196865) (pc2 := 67) (by decide +kernel) (v := 3) (by decide +kernel) ?_
          have e14 : mGh1 a k 14 = a 14 := mGh1_n (by omega)
          refine h_cv (w := 186180128691744979387351845) (c := 11) (n := 3) (by decide +kernel) (by decide +kernel) rfl (zA_H hS1) ⟨Nat.le_of_ble_eq_true rfl, Nat.le_of_ble_eq_true rfl⟩ (show ∀ c ∈ [3, ((mGh1 a k) (100 + 8 * k + 0)), k, bR b 0], c < 8589934592 from zl_c (zlo (by decide)) (zl_c (zlo (hS1.2.1.2.1.1 _)) (zl_c (zlo (by omega)) (zl_c (bR_ref hS1.2.1.2.2 (by omega)).2 zl_n)))) (st2 := []) rfl (l2 := [bR b 0, k, ((mGh1 a k) (100 + 8 * k + 0)), 3, 1099511627776, 1099511627776]) (by show (List.take 4 _).reverse ++ List.replicate (zMaxL 11 - 4) _ = _; rw [show zMaxL 11 = 6 by decide +kernel]; rfl) ?_
          refine m11 hS1 hi1 (aQ_gh1 hQ k hi1) hh (by omega) (by decide) (fun m2 hS2 => (gF_0 (by decide +kernel) ?_))
          exact nx _ (by rw [eg]; exact hS2)
        · have eg : mGh a k = mGh1 a k := by unfold mGh; rw [c0, cond_true, c1]; rfl
          refine h_icmp (w := 562949958009618) (pc2 := 70) (by decide +kernel) (b := true) (by decide +kernel) (hS1.2.1.2.1.1 _) (hS1.2.1.2.1.1 _) c1 ?_
          exact nx _ (by rw [eg]; exact hS1)
    refine h_ldi (w := 65794) (pc2 := 3) (by decide +kernel) (by decide +kernel) rfl (by omega) ?_
    refine h_ldr (w := 259) (pc2 := 4) (by decide +kernel) (by decide +kernel) rfl (bR_ref hS.2.1.2.2 (by omega)) ?_
    refine s_getHx (w := 59237383608142378255516438) (pc2 := 7) (by decide +kernel) (c := 1) (x := 1) (by decide +kernel) hS.1 hS.2.1 (by decide) ?_
    refine h_icmp (w := 844424935113490) (pc2 := 10) (by decide +kernel) (b := false) (by decide +kernel) (by omega) (hS.2.1.2.1.1 _) (zc_ge_f (by omega) (by omega) (by omega)) ?_
    refine h_ldr (w := 259) (pc2 := 11) (by decide +kernel) (by decide +kernel) rfl (bR_ref hS.2.1.2.2 (by omega)) ?_
    refine s_getHr (w := 13298220909530543326364438) (pc2 := 14) (by decide +kernel) (c := 2) (k := 1) (by decide +kernel) hS.1 hS.2.1 (by decide) ?_
    refine h_ldi (w := 65794) (pc2 := 15) (by decide +kernel) (by decide +kernel) rfl (by omega) ?_
    refine s_aldA (w := 286) (pc2 := 16) (by decide +kernel) (by decide +kernel) hS.1 hS.2.1 (by omega) ?_
    refine h_str (w := 131333) (pc2 := 17) (by decide +kernel) (n := 3) (by decide +kernel) rfl (bR_ref hS.2.1.2.2 (by omega)) (ls2 := [bR b 0, k, (bR b (8 + p k))]) rfl ?_
    refine h_ldr (w := 131331) (pc2 := 18) (by decide +kernel) (by decide +kernel) rfl (bR_ref hS.2.1.2.2 (by omega)) ?_
    refine h_ldr (w := 131331) (pc2 := 19) (by decide +kernel) (by decide +kernel) rfl (bR_ref hS.2.1.2.2 (by omega)) ?_
    refine h_cv (w := 174091368556844252867592997) (c := 4) (n := 0) (by decide +kernel) (by decide +kernel) rfl (zA_A hS (by omega)) ⟨Nat.le_of_ble_eq_true rfl, Nat.le_of_ble_eq_true rfl⟩ (show ∀ c ∈ [(bR b (8 + p k))], c < 8589934592 from zl_c (bR_ref hS.2.1.2.2 (by omega)).2 zl_n) (st2 := [(bR b (8 + p k))]) rfl (l2 := [(bR b (8 + p k))]) (by show (List.take 1 _).reverse ++ List.replicate (zMaxL 4 - 1) _ = _; rw [show zMaxL 4 = 1 by decide +kernel]; rfl) ?_
    refine m4 hS hi (gF_v (by decide +kernel) ?_)
    by_cases q0 : mAw a k = 0
    · skip
      refine h_if (w := 2229009) (pc2 := 34) (by decide +kernel) (b := true) (by decide +kernel) (by omega)  (zc_eq_t q0) ?_
      refine h_con (w := 257) (pc2 := 35) (by decide +kernel) (v := 0) (by decide +kernel) ?_
      exact go 0 (by decide) (by rw [nb_eq.mpr q0]; rfl)
    · skip
      refine h_if (w := 2229009) (pc2 := 25) (by decide +kernel) (b := false) (by decide +kernel) (by omega)  (zc_eq_f q0) ?_
      refine h_ldr (w := 131331) (pc2 := 26) (by decide +kernel) (by decide +kernel) rfl (bR_ref hS.2.1.2.2 (by omega)) ?_
      refine s_getA (w := 178921150430173633828815638) (pc2 := 29) (by decide +kernel) (c := 7) (by decide +kernel) hS.1 hS.2.1 hi ?_
      refine h_con (w := 65793) (pc2 := 30) (by decide +kernel) (v := 1) (by decide +kernel) ?_
      refine h_add (w := 263) (pc2 := 31) (by decide +kernel) (by decide +kernel) (hS.2.1.2.1.1 _) (by decide) (c := (inc1 (a (100 + 8 * k + 7)))) inc1_eq ?_
      refine h_goto (w := 2294547) (pc2 := 35) (by decide +kernel) (by decide +kernel) ?_
      exact go _ inc1_lt (by rw [nb_ne.mpr q0]; rfl)
theorem m19 {x y : Nat} (hS : bS b p a m0 m) (hQ : aQ a) (hH : aH a) (h14 : a 14 + 17 < 2147483648) (g : ∀ m', bS b p (mGhL (a 1) 0 a) m0 m' → gFin1 sc Q frs 19 0 m') : gFin sc Q frs 19 0 [bR b 0, x, y] [] m := by
  have h17 := hS.2.1.2.1.2
  refine h_con (w := 257) (pc2 := 1) (by decide +kernel) (v := 0) (by decide +kernel) ?_
  refine h_sti (w := 65796) (pc2 := 2) (by decide +kernel) (n := 3) (by decide +kernel) rfl (by decide) (ls2 := [bR b 0, 0, y]) rfl ?_
  exact m19_loop (a 1) 0 y a m (Nat.zero_add _) hQ hH (by omega) hS g
def mTi1 (a : Nat → Nat) : Nat → Nat := bU a 0 (inc1 (a 0))
theorem mTi1_d : mTi1 a = bU a 0 (inc1 (a 0)) := rfl
def mTi2 (a : Nat → Nat) : Nat → Nat := mGoL (mTi1 a 1) 0 (mTi1 a)
def mTi3 (a : Nat → Nat) : Nat → Nat := mTLo (mTi2 a 1) 0 (mTi2 a)
def mTi4 (a : Nat → Nat) : Nat → Nat := bif Nat.beq (mTi3 a 0) (mTi3 a 12) then mLb (mTi3 a) else mTi3 a
def mTi5 (a : Nat → Nat) : Nat → Nat := bif Nat.beq (mTi4 a 0) (mTi4 a 13) then mLp (mTi4 a) else mTi4 a
def mTi6 (a : Nat → Nat) : Nat → Nat := mGhL (mTi5 a 1) 0 (mTi5 a)
def mTi (a : Nat → Nat) : Nat → Nat := bU (mTi6 a) 4 (add1 (mTi6 a 4) (mWt (mTi6 a) 12 0 0))
theorem mTi_d : mTi a = bU (mTi6 a) 4 (add1 (mTi6 a 4) (mWt (mTi6 a) 12 0 0)) := rfl
/-- what a tick's walk asks for -/
def WJ (a : Nat → Nat) : Prop := aQ (mTi1 a) ∧ (aQ (mTi2 a) ∧ aL (mTi2 a)) ∧ (aQ (mTi3 a) ∧ mTi3 a 14 + 51 < 2147483648) ∧ (aQ (mTi4 a) ∧ mTi4 a 14 + 17 < 2147483648) ∧ (aQ (mTi5 a) ∧ aH (mTi5 a) ∧ mTi5 a 14 + 17 < 2147483648)
theorem mWt_lt : ∀ (d q s : Nat), s < 4294967296 → mWt a d q s < 4294967296 := by
  intro d
  induction d with
  | zero => exact fun _ _ h => h
  | succ d IH => exact fun q s _ => IH (q + 1) _ add1_lt
theorem m14 (hS : bS b p a m0 m) (hW : WJ a) (g : ∀ m', bS b p (mTi a) m0 m' → gFin1 sc Q frs 14 0 m') : gFin sc Q frs 14 0 [bR b 0] [] m := by
  obtain ⟨w1, w2, w3, w4, w5⟩ := hW
  have n5 : ∀ m', bS b p (mTi5 a) m0 m' → gFin sc Q frs 14 52 [bR b 0] [] m' := by
    intro m5 hS5
    refine h_ldr (w := 259) (pc2 := 53) (by decide +kernel) (by decide +kernel) rfl (bR_ref hS5.2.1.2.2 (by omega)) ?_
    refine h_cv (w := 148703852557960745361539877) (c := 19) (n := 0) (by decide +kernel) (by decide +kernel) rfl (zA_H hS5) ⟨Nat.le_of_ble_eq_true rfl, Nat.le_of_ble_eq_true rfl⟩ (show ∀ c ∈ [bR b 0], c < 8589934592 from zl_c (bR_ref hS5.2.1.2.2 (by omega)).2 zl_n) (st2 := []) rfl (l2 := [bR b 0, 1099511627776, 1099511627776]) (by show (List.take 1 _).reverse ++ List.replicate (zMaxL 19 - 1) _ = _; rw [show zMaxL 19 = 3 by decide +kernel]; rfl) ?_
    refine m19 hS5 w5.1 w5.2.1 w5.2.2 (fun m6 hS6 => (gF_0 (by decide +kernel) ?_))
    have hS6 : bS b p (mTi6 a) m0 m6 := hS6
    refine h_ldr (w := 259) (pc2 := 57) (by decide +kernel) (by decide +kernel) rfl (bR_ref hS6.2.1.2.2 (by omega)) ?_
    refine h_dup (w := 270) (pc2 := 58) (by decide +kernel) (by decide +kernel) (bR_ref hS6.2.1.2.2 (by omega)).2 ?_
    refine s_getHx (w := 89460695119204771010315030) (pc2 := 61) (by decide +kernel) (c := 10) (x := 4) (by decide +kernel) hS6.1 hS6.2.1 (by decide) ?_
    refine h_ldr (w := 259) (pc2 := 62) (by decide +kernel) (by decide +kernel) rfl (bR_ref hS6.2.1.2.2 (by omega)) ?_
    refine h_cv (w := 152330777590757222562530085) (c := 26) (n := 0) (by decide +kernel) (by decide +kernel) rfl (zA_H hS6) ⟨Nat.le_of_ble_eq_true rfl, Nat.le_of_ble_eq_true rfl⟩ (show ∀ c ∈ [bR b 0], c < 8589934592 from zl_c (bR_ref hS6.2.1.2.2 (by omega)).2 zl_n) (st2 := [((mTi6 a) 4), bR b 0]) rfl (l2 := [bR b 0, 1099511627776, 1099511627776]) (by show (List.take 1 _).reverse ++ List.replicate (zMaxL 26 - 1) _ = _; rw [show zMaxL 26 = 3 by decide +kernel]; rfl) ?_
    refine m26 hS6 (gF_v (by decide +kernel) ?_)
    refine h_add (w := 263) (pc2 := 66) (by decide +kernel) (by decide +kernel) (hS6.2.1.2.1.1 _) (mWt_lt 12 0 0 (by decide)) (c := (add1 (mTi6 a 4) (mWt (mTi6 a) 12 0 0))) add1_eq ?_
    refine s_putH (w := 89460695119204771010315031) (pc2 := 69) (by decide +kernel) (c := 10) (x := 4) (by decide +kernel) hS6 add1_lt ?_
    intro m7 hS7
    rw [← mTi_d] at hS7
    exact h_ret0 (w := 302) (by decide +kernel) (by decide +kernel) (g _ hS7)
  have n4 : ∀ m', bS b p (mTi4 a) m0 m' → gFin sc Q frs 14 35 [bR b 0] [] m' := by
    intro m4 hS4
    refine h_ldr (w := 259) (pc2 := 36) (by decide +kernel) (by decide +kernel) rfl (bR_ref hS4.2.1.2.2 (by omega)) ?_
    refine s_getHx (w := 54401661882939787847009046) (pc2 := 39) (by decide +kernel) (c := 0) (x := 0) (by decide +kernel) hS4.1 hS4.2.1 (by decide) ?_
    refine h_ldr (w := 259) (pc2 := 40) (by decide +kernel) (by decide +kernel) rfl (bR_ref hS4.2.1.2.2 (by omega)) ?_
    refine s_getHr (w := 36267885269184792484512534) (pc2 := 43) (by decide +kernel) (c := 6) (k := 5) (by decide +kernel) hS4.1 hS4.2.1 (by decide) ?_
    refine h_con (w := 65793) (pc2 := 44) (by decide +kernel) (v := 1) (by decide +kernel) ?_
    refine s_aldN (w := 282) (pc2 := 45) (by decide +kernel) (by decide +kernel) hS4.1 hS4.2.1 (j := 1) (by decide) ?_
    have t13 := hS4.2.1.2.1.1 13
    have t0 := hS4.2.1.2.1.1 0
    by_cases q0 : mTi4 a 0 = mTi4 a 13
    · have eg : mTi5 a = mLp (mTi4 a) := by unfold mTi5; rw [nb_eq.mpr q0]; rfl
      refine h_icmp (w := 281474980119314) (pc2 := 48) (by decide +kernel) (b := false) (by decide +kernel) (hS4.2.1.2.1.1 _) (hS4.2.1.2.1.1 _) (zc_ne_f q0) ?_
      refine h_ldr (w := 259) (pc2 := 49) (by decide +kernel) (by decide +kernel) rfl (bR_ref hS4.2.1.2.2 (by omega)) ?_
      refine h_cv (w := 145077001312140562999345957) (c := 21) (n := 0) (by decide +kernel) (by decide +kernel) rfl (zA_H hS4) ⟨Nat.le_of_ble_eq_true rfl, Nat.le_of_ble_eq_true rfl⟩ (show ∀ c ∈ [bR b 0], c < 8589934592 from zl_c (bR_ref hS4.2.1.2.2 (by omega)).2 zl_n) (st2 := []) rfl (l2 := [bR b 0, 1099511627776]) (by show (List.take 1 _).reverse ++ List.replicate (zMaxL 21 - 1) _ = _; rw [show zMaxL 21 = 2 by decide +kernel]; rfl) ?_
      refine m21 hS4 w4.1 w4.2 (fun m5 hS5 => (gF_0 (by decide +kernel) ?_))
      exact n5 _ (by rw [eg]; exact hS5)
    · have eg : mTi5 a = mTi4 a := by unfold mTi5; rw [nb_ne.mpr q0]; rfl
      refine h_icmp (w := 281474980119314) (pc2 := 52) (by decide +kernel) (b := true) (by decide +kernel) (hS4.2.1.2.1.1 _) (hS4.2.1.2.1.1 _) (zc_ne_t q0) ?_
      exact n5 _ (by rw [eg]; exact hS4)
  refine h_ldr (w := 259) (pc2 := 1) (by decide +kernel) (by decide +kernel) rfl (bR_ref hS.2.1.2.2 (by omega)) ?_
  refine h_dup (w := 270) (pc2 := 2) (by decide +kernel) (by decide +kernel) (bR_ref hS.2.1.2.2 (by omega)).2 ?_
  refine s_getHx (w := 54401661882939787847009046) (pc2 := 5) (by decide +kernel) (c := 0) (x := 0) (by decide +kernel) hS.1 hS.2.1 (by decide) ?_
  refine h_con (w := 65793) (pc2 := 6) (by decide +kernel) (v := 1) (by decide +kernel) ?_
  refine h_add (w := 263) (pc2 := 7) (by decide +kernel) (by decide +kernel) (hS.2.1.2.1.1 _) (by decide) (c := (inc1 (a 0))) inc1_eq ?_
  refine s_putH (w := 54401661882939787847009047) (pc2 := 10) (by decide +kernel) (c := 0) (x := 0) (by decide +kernel) hS inc1_lt ?_
  intro m1 hS1
  rw [← mTi1_d] at hS1
  refine h_ldr (w := 259) (pc2 := 11) (by decide +kernel) (by decide +kernel) rfl (bR_ref hS1.2.1.2.2 (by omega)) ?_
  refine h_cv (w := 134195525237476330434396965) (c := 15) (n := 0) (by decide +kernel) (by decide +kernel) rfl (zA_H hS1) ⟨Nat.le_of_ble_eq_true rfl, Nat.le_of_ble_eq_true rfl⟩ (show ∀ c ∈ [bR b 0], c < 8589934592 from zl_c (bR_ref hS1.2.1.2.2 (by omega)).2 zl_n) (st2 := []) rfl (l2 := [bR b 0, 1099511627776, 1099511627776]) (by show (List.take 1 _).reverse ++ List.replicate (zMaxL 15 - 1) _ = _; rw [show zMaxL 15 = 3 by decide +kernel]; rfl) ?_
  refine m15 hS1 w1 (fun m2 hS2 => (gF_0 (by decide +kernel) ?_))
  have hS2 : bS b p (mTi2 a) m0 m2 := hS2
  refine h_ldr (w := 259) (pc2 := 15) (by decide +kernel) (by decide +kernel) rfl (bR_ref hS2.2.1.2.2 (by omega)) ?_
  refine h_cv (w := 137822524057249102473331493) (c := 18) (n := 0) (by decide +kernel) (by decide +kernel) rfl (zA_H hS2) ⟨Nat.le_of_ble_eq_true rfl, Nat.le_of_ble_eq_true rfl⟩ (show ∀ c ∈ [bR b 0], c < 8589934592 from zl_c (bR_ref hS2.2.1.2.2 (by omega)).2 zl_n) (st2 := []) rfl (l2 := [bR b 0, 1099511627776, 1099511627776]) (by show (List.take 1 _).reverse ++ List.replicate (zMaxL 18 - 1) _ = _; rw [show zMaxL 18 = 3 by decide +kernel]; rfl) ?_
  refine m18 hS2 w2.1 w2.2 (fun m3 hS3 => (gF_0 (by decide +kernel) ?_))
  have hS3 : bS b p (mTi3 a) m0 m3 := hS3
  refine h_ldr (w := 259) (pc2 := 19) (by decide +kernel) (by decide +kernel) rfl (bR_ref hS3.2.1.2.2 (by omega)) ?_
  refine s_getHx (w := 54401661882939787847009046) (pc2 := 22) (by decide +kernel) (c := 0) (x := 0) (by decide +kernel) hS3.1 hS3.2.1 (by decide) ?_
  refine h_ldr (w := 259) (pc2 := 23) (by decide +kernel) (by decide +kernel) rfl (bR_ref hS3.2.1.2.2 (by omega)) ?_
  refine s_getHr (w := 36267885269184792484512534) (pc2 := 26) (by decide +kernel) (c := 6) (k := 5) (by decide +kernel) hS3.1 hS3.2.1 (by decide) ?_
  refine h_con (w := 257) (pc2 := 27) (by decide +kernel) (v := 0) (by decide +kernel) ?_
  refine s_aldN (w := 282) (pc2 := 28) (by decide +kernel) (by decide +kernel) hS3.1 hS3.2.1 (j := 0) (by decide) ?_
  have t12 := hS3.2.1.2.1.1 12
  have t0 := hS3.2.1.2.1.1 0
  by_cases q0 : mTi3 a 0 = mTi3 a 12
  · have eg : mTi4 a = mLb (mTi3 a) := by unfold mTi4; rw [nb_eq.mpr q0]; rfl
    refine h_icmp (w := 281474979005202) (pc2 := 31) (by decide +kernel) (b := false) (by decide +kernel) (hS3.2.1.2.1.1 _) (hS3.2.1.2.1.1 _) (zc_ne_f q0) ?_
    refine h_ldr (w := 259) (pc2 := 32) (by decide +kernel) (by decide +kernel) rfl (bR_ref hS3.2.1.2.2 (by omega)) ?_
    refine h_cv (w := 141449449090045579673994021) (c := 20) (n := 0) (by decide +kernel) (by decide +kernel) rfl (zA_H hS3) ⟨Nat.le_of_ble_eq_true rfl, Nat.le_of_ble_eq_true rfl⟩ (show ∀ c ∈ [bR b 0], c < 8589934592 from zl_c (bR_ref hS3.2.1.2.2 (by omega)).2 zl_n) (st2 := []) rfl (l2 := [bR b 0, 1099511627776, 1099511627776]) (by show (List.take 1 _).reverse ++ List.replicate (zMaxL 20 - 1) _ = _; rw [show zMaxL 20 = 3 by decide +kernel]; rfl) ?_
    refine m20 hS3 w3.1 w3.2 (fun m4 hS4 => (gF_0 (by decide +kernel) ?_))
    exact n4 _ (by rw [eg]; exact hS4)
  · have eg : mTi4 a = mTi3 a := by unfold mTi4; rw [nb_ne.mpr q0]; rfl
    refine h_icmp (w := 281474979005202) (pc2 := 35) (by decide +kernel) (b := true) (by decide +kernel) (hS3.2.1.2.1.1 _) (hS3.2.1.2.1.1 _) (zc_ne_t q0) ?_
    exact n4 _ (by rw [eg]; exact hS3)
def mPs : Nat → (Nat → Nat) → (Nat → Nat)
  | 0, a => a
  | d + 1, a => mPs d (mTi a)
def WP : Nat → (Nat → Nat) → Prop
  | 0, _ => True
  | d + 1, a => WJ a ∧ WP d (mTi a)
theorem m13_loop {t : Nat} (ht : t < 2147483648) : ∀ (d k : Nat) (a : Nat → Nat) (m : zM), k + d = t → WP d a → bS b p a m0 m → (∀ m', bS b p (mPs d a) m0 m' → gFin1 sc Q frs 13 0 m') → gFin sc Q frs 13 2 [bR b 0, t, k] [] m := by
  intro d
  induction d with
  | zero =>
    intro k a m hk hW hS g
    refine h_ldi (w := 131330) (pc2 := 3) (by decide +kernel) (by decide +kernel) rfl (by omega) ?_
    refine h_ldi (w := 65794) (pc2 := 4) (by decide +kernel) (by decide +kernel) rfl (by omega) ?_
    refine h_icmp (w := 844424931246866) (pc2 := 17) (by decide +kernel) (b := true) (by decide +kernel) (by omega) (by omega) (zc_ge_t (by omega) (by omega) (by omega)) ?_
    exact h_ret0 (w := 302) (by decide +kernel) (by decide +kernel) (g _ hS)
  | succ d IH =>
    intro k a m hk hW hS g
    refine h_ldi (w := 131330) (pc2 := 3) (by decide +kernel) (by decide +kernel) rfl (by omega) ?_
    refine h_ldi (w := 65794) (pc2 := 4) (by decide +kernel) (by decide +kernel) rfl (by omega) ?_
    refine h_icmp (w := 844424931246866) (pc2 := 7) (by decide +kernel) (b := false) (by decide +kernel) (by omega) (by omega) (zc_ge_f (by omega) (by omega) (by omega)) ?_
    refine h_ldr (w := 259) (pc2 := 8) (by decide +kernel) (by decide +kernel) rfl (bR_ref hS.2.1.2.2 (by omega)) ?_
    refine h_cv (w := 130568673991656148072006437) (c := 14) (n := 0) (by decide +kernel) (by decide +kernel) rfl (zA_H hS) ⟨Nat.le_of_ble_eq_true rfl, Nat.le_of_ble_eq_true rfl⟩ (show ∀ c ∈ [bR b 0], c < 8589934592 from zl_c (bR_ref hS.2.1.2.2 (by omega)).2 zl_n) (st2 := []) rfl (l2 := [bR b 0]) (by show (List.take 1 _).reverse ++ List.replicate (zMaxL 14 - 1) _ = _; rw [show zMaxL 14 = 1 by decide +kernel]; rfl) ?_
    refine m14 hS hW.1 (fun m1 hS1 => (gF_0 (by decide +kernel) ?_))
    refine h_inc (w := 562949953487622) (pc2 := 14) (by decide +kernel) (by decide +kernel) rfl (by omega) (c2 := (k + 1)) (by show (_ + 1) % 4294967296 = _; omega) (ls2 := [bR b 0, t, (k + 1)]) rfl ?_
    refine h_goto (w := 131859) (pc2 := 2) (by decide +kernel) (by decide +kernel) ?_
    exact IH (k + 1) _ m1 (by omega) hW.2 hS1 g
theorem m13 {t x : Nat} (hS : bS b p a m0 m) (ht : t < 2147483648) (hW : WP t a) (g : ∀ m', bS b p (mPs t a) m0 m' → gFin1 sc Q frs 13 0 m') : gFin sc Q frs 13 0 [bR b 0, t, x] [] m := by
  refine h_con (w := 257) (pc2 := 1) (by decide +kernel) (v := 0) (by decide +kernel) ?_
  refine h_sti (w := 131332) (pc2 := 2) (by decide +kernel) (n := 3) (by decide +kernel) rfl (by decide) (ls2 := [bR b 0, t, 0]) rfl ?_
  exact m13_loop ht t 0 a m (Nat.zero_add _) hW hS g
end BG
