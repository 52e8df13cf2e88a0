/-! ===== an arm at work; all arms go on (printed by wip/gen/m17.py) ===== -/
section BG
variable {sc : List Nat} {Q : Nat → zM → Prop} {frs : gCf} {m m0 : zM} {b : Nat} {p a : Nat → Nat}
theorem s_getLx {i pc w pc2 c q x : Nat} {ls st : List Nat} (hw : zI i pc = w) (ho : ((zop w = 22 ∧ pc + 3 = pc2) ∧ zb w = 2) ∧ zc w = c ∧ c < 5) (hM : bM b p a m) (hb : bOk b p a) (hq : q < 12) (hx : 2 ≤ c ∧ x = 300 + 30 * q + (c - 2)) (g : gFin sc Q frs i pc2 ls (a x :: st) m) : gFin sc Q frs i pc ls (bR b (25 + 3 * q) :: st) m :=
  s_getL hw ho hM hb hq (v := a x) (by rw [if_neg (by omega), if_neg (by omega), hx.2]) g
theorem s_putLx {i pc w pc2 c q x v : Nat} {ls st : List Nat} (hw : zI i pc = w) (ho : ((zop w = 23 ∧ pc + 3 = pc2) ∧ zb w = 2) ∧ zc w = c ∧ 2 ≤ c ∧ c < 5) (hS : bS b p a m0 m) (hq : q < 12) (hx : x = 300 + 30 * q + (c - 2)) (hv : v < 4294967296) (g : ∀ m', bS b p (bU a x v) m0 m' → gFin sc Q frs i pc2 ls st m') : gFin sc Q frs i pc ls (v :: bR b (25 + 3 * q) :: st) m := by
  subst hx
  exact s_putL hw ho hS hq hv g
theorem s_getHx {i pc w pc2 c x : Nat} {ls st : List Nat} (hw : zI i pc = w) (ho : ((zop w = 22 ∧ pc + 3 = pc2) ∧ zb w = 1) ∧ zc w = c ∧ c < 11) (hM : bM b p a m) (hb : bOk b p a) (hx : (c = 0 ∧ x = 0) ∨ (c = 1 ∧ x = 1) ∨ (8 ≤ c ∧ x = c - 6)) (g : gFin sc Q frs i pc2 ls (a x :: st) m) : gFin sc Q frs i pc ls (bR b 0 :: st) m := by
  refine s_getH hw ho hM hb (v := a x) ?_ g
  rcases hx with ⟨h, rfl⟩ | ⟨h, rfl⟩ | ⟨h, rfl⟩
  · rw [if_pos h]
  · rw [if_neg (by omega), if_pos h]
  · rw [if_neg (by omega), if_neg (by omega), if_neg (by omega)]
theorem s_getHr {i pc w pc2 c k : Nat} {ls st : List Nat} (hw : zI i pc = w) (ho : ((zop w = 22 ∧ pc + 3 = pc2) ∧ zb w = 1) ∧ zc w = c ∧ c < 11) (hM : bM b p a m) (hb : bOk b p a) (hx : 2 ≤ c ∧ c ≤ 7 ∧ k = c - 1) (g : gFin sc Q frs i pc2 ls (bR b k :: st) m) : gFin sc Q frs i pc ls (bR b 0 :: st) m := by
  refine s_getH hw ho hM hb (v := bR b k) ?_ g
  rw [if_neg (by omega), if_neg (by omega), if_pos (by omega), hx.2.2]
theorem mWay1_d {i : Nat} : mWay1 a i = bU a (100 + 8 * i + 3) (dec1 (a (100 + 8 * i + 3))) := rfl
theorem mWay2_d {i : Nat} : mWay2 a i = bU a (100 + 8 * i + 2) 0 := rfl
theorem mWk1_d {i : Nat} : mWk1 a i = bU (mWay1 a i) 3 (inc1 (mWay1 a i 3)) := rfl
theorem mWk2_d {i : Nat} : mWk2 a i = bU (mWay2 a i) (100 + 8 * i + 5) (inc1 (mWay2 a i (100 + 8 * i + 5))) := rfl
theorem mWk3_d {q : Nat} : mWk3 a q = bU a (300 + 30 * q + 1) (inc1 (a (300 + 30 * q + 1))) := rfl
theorem mWk4_d : mWk4 a = bU a 2 (inc1 (a 2)) := rfl
theorem inc1_eq {x : Nat} : (x + 1) % 4294967296 = inc1 x := rfl
theorem dec1_eq {x : Nat} : (x + 4294967296 - 1) % 4294967296 = dec1 x := rfl
theorem mWk1_n {i x : Nat} (h : x ≠ 100 + 8 * i + 3) (h2 : x ≠ 3) : mWk1 a i x = a x := (bU_n h2).trans (mWay1_n h)
theorem mWk2_n {i x : Nat} (h : x ≠ 100 + 8 * i + 2) (h2 : x ≠ 100 + 8 * i + 5) : mWk2 a i x = a x := (bU_n h2).trans (mWay2_n h)
theorem m17 {i : Nat} (hS : bS b p a m0 m) (hi : i < a 1) (hq : a (100 + 8 * i + 1) < 12) (g : ∀ m', bS b p (mWk a i) m0 m' → gFin1 sc Q frs 17 0 m') : gFin sc Q frs 17 0 [bR b 0, bR b (8 + p i)] [] m := by
  have h17 := hS.2.1.2.1.2
  have hp := hS.2.1.1.1 i (by omega)
  refine h_ldr (w := 65795) (pc2 := 1) (by decide +kernel) (by decide +kernel) rfl (bR_ref hS.2.1.2.2 (by omega)) ?_
  refine h_dup (w := 270) (pc2 := 2) (by decide +kernel) (by decide +kernel) (bR_ref hS.2.1.2.2 (by omega)).2 ?_
  refine s_getA (w := 105176601646704959332811542) (pc2 := 5) (by decide +kernel) (c := 3) (by decide +kernel) hS.1 hS.2.1 hi ?_
  refine h_con (w := 65793) (pc2 := 6) (by decide +kernel) (v := 1) (by decide +kernel) ?_
  refine h_sub (w := 264) (pc2 := 7) (by decide +kernel) (by decide +kernel) (hS.2.1.2.1.1 _) (by decide) (c := dec1 (a (100 + 8 * i + 3))) dec1_eq ?_
  refine s_putA (w := 105176601646704959332811543) (pc2 := 10) (by decide +kernel) (c := 3) (by decide +kernel) hS hi dec1_lt (fun h => absurd h (by decide)) ?_
  intro m1 hS1
  rw [← mWay1_d] at hS1
  refine h_ldr (w := 259) (pc2 := 11) (by decide +kernel) (by decide +kernel) rfl (bR_ref hS1.2.1.2.2 (by omega)) ?_
  refine h_dup (w := 270) (pc2 := 12) (by decide +kernel) (by decide +kernel) (bR_ref hS1.2.1.2.2 (by omega)).2 ?_
  refine s_getHx (w := 85833899213616809776513814) (pc2 := 15) (by decide +kernel) (c := 9) (x := 3) (by decide +kernel) hS1.1 hS1.2.1 (by decide) ?_
  refine h_con (w := 65793) (pc2 := 16) (by decide +kernel) (v := 1) (by decide +kernel) ?_
  refine h_add (w := 263) (pc2 := 17) (by decide +kernel) (by decide +kernel) (hS1.2.1.2.1.1 _) (by decide) (c := inc1 (mWay1 a i 3)) inc1_eq ?_
  refine s_putH (w := 85833899213616809776513815) (pc2 := 20) (by decide +kernel) (c := 9) (x := 3) (by decide +kernel) hS1 inc1_lt ?_
  intro m2 hS2
  rw [← mWk1_d] at hS2
  have hi1 : i < mWk1 a i 1 := by rw [mWk1_n (by omega) (by decide)]; exact hi
  refine h_ldr (w := 65795) (pc2 := 21) (by decide +kernel) (by decide +kernel) rfl (bR_ref hS2.2.1.2.2 (by omega)) ?_
  refine s_getA (w := 105176601646704959332811542) (pc2 := 24) (by decide +kernel) (c := 3) (by decide +kernel) hS2.1 hS2.2.1 hi1 ?_
  by_cases q0 : mWk1 a i (100 + 8 * i + 3) = 0
  · have e0 : mWk a i = mWk4 (mWk3 (mWk2 (mWk1 a i) i) (mWk2 (mWk1 a i) i (100 + 8 * i + 1))) := by
      unfold mWk
      rw [nb_eq.mpr q0, cond_true]
    rw [e0] at g
    have hlt := hS2.2.1.2.1.1 (100 + 8 * i + 3)
    refine h_if (w := 281474981298961) (pc2 := 27) (by decide +kernel) (b := false) (by decide +kernel) (by omega) (zc_ne_f q0) ?_
    refine h_ldr (w := 65795) (pc2 := 28) (by decide +kernel) (by decide +kernel) rfl (bR_ref hS2.2.1.2.2 (by omega)) ?_
    refine h_con (w := 257) (pc2 := 29) (by decide +kernel) (v := 0) (by decide +kernel) ?_
    refine s_putA (w := 101549805741116998099010327) (pc2 := 32) (by decide +kernel) (c := 2) (by decide +kernel) hS2 hi1 (by decide) (fun h => absurd h (by decide)) ?_
    intro m3 hS3
    rw [← mWay2_d] at hS3
    have hi2 : i < mWay2 (mWk1 a i) i 1 := by rw [mWay2_n (by omega)]; exact hi1
    refine h_ldr (w := 65795) (pc2 := 33) (by decide +kernel) (by decide +kernel) rfl (bR_ref hS3.2.1.2.2 (by omega)) ?_
    refine h_dup (w := 270) (pc2 := 34) (by decide +kernel) (by decide +kernel) (bR_ref hS3.2.1.2.2 (by omega)).2 ?_
    refine s_getA (w := 164414003701309936312910614) (pc2 := 37) (by decide +kernel) (c := 5) (by decide +kernel) hS3.1 hS3.2.1 hi2 ?_
    refine h_con (w := 65793) (pc2 := 38) (by decide +kernel) (v := 1) (by decide +kernel) ?_
    refine h_add (w := 263) (pc2 := 39) (by decide +kernel) (by decide +kernel) (hS3.2.1.2.1.1 _) (by decide) (c := inc1 (mWay2 (mWk1 a i) i (100 + 8 * i + 5))) inc1_eq ?_
    refine s_putA (w := 164414003701309936312910615) (pc2 := 42) (by decide +kernel) (c := 5) (by decide +kernel) hS3 hi2 inc1_lt (fun h => absurd h (by decide)) ?_
    intro m4 hS4
    rw [← mWk2_d] at hS4
    have hi3 : i < mWk2 (mWk1 a i) i 1 := by rw [mWk2_n (by omega) (by omega)]; exact hi1
    have hq3 : mWk2 (mWk1 a i) i (100 + 8 * i + 1) < 12 := by rw [mWk2_n (by omega) (by omega), mWk1_n (by omega) (by omega)]; exact hq
    refine h_ldr (w := 259) (pc2 := 43) (by decide +kernel) (by decide +kernel) rfl (bR_ref hS4.2.1.2.2 (by omega)) ?_
    refine s_getHr (w := 22969645913191650433696534) (pc2 := 46) (by decide +kernel) (c := 3) (k := 2) (by decide +kernel) hS4.1 hS4.2.1 (by decide) ?_
    refine h_ldr (w := 65795) (pc2 := 47) (by decide +kernel) (by decide +kernel) rfl (bR_ref hS4.2.1.2.2 (by omega)) ?_
    refine s_getA (w := 97923009835529036865143574) (pc2 := 50) (by decide +kernel) (c := 1) (by decide +kernel) hS4.1 hS4.2.1 hi3 ?_
    refine s_aldL (w := 286) (pc2 := 51) (by decide +kernel) (by decide +kernel) hS4.1 hS4.2.1 hq3 ?_
    refine h_dup (w := 270) (pc2 := 52) (by decide +kernel) (by decide +kernel) (bR_ref hS4.2.1.2.2 (by omega)).2 ?_
    refine s_getLx (w := 165622892627999368024163094) (pc2 := 55) (by decide +kernel) (c := 3) (by decide +kernel) hS4.1 hS4.2.1 (q := (mWk2 (mWk1 a i) i (100 + 8 * i + 1))) hq3 (x := 300 + 30 * (mWk2 (mWk1 a i) i (100 + 8 * i + 1)) + 1) (by omega) ?_
    refine h_con (w := 65793) (pc2 := 56) (by decide +kernel) (v := 1) (by decide +kernel) ?_
    have hb9 := hS4.2.1.2.1.1 (300 + 30 * (mWk2 (mWk1 a i) i (100 + 8 * i + 1)) + 1)
    generalize hx9 : mWk2 (mWk1 a i) i (300 + 30 * (mWk2 (mWk1 a i) i (100 + 8 * i + 1)) + 1) = x9 at hb9 ⊢
    refine h_add (w := 263) (pc2 := 57) (by decide +kernel) (by decide +kernel) hb9 (by decide) (c := inc1 x9) inc1_eq ?_
    refine s_putLx (w := 165622892627999368024163095) (pc2 := 60) (by decide +kernel) (c := 3) (by decide +kernel) hS4 (q := (mWk2 (mWk1 a i) i (100 + 8 * i + 1))) hq3 (x := 300 + 30 * (mWk2 (mWk1 a i) i (100 + 8 * i + 1)) + 1) (by omega) inc1_lt ?_
    intro m5 hS5
    rw [← hx9] at hS5
    rw [← mWk3_d] at hS5
    refine h_ldr (w := 259) (pc2 := 61) (by decide +kernel) (by decide +kernel) rfl (bR_ref hS5.2.1.2.2 (by omega)) ?_
    refine h_dup (w := 270) (pc2 := 62) (by decide +kernel) (by decide +kernel) (bR_ref hS5.2.1.2.2 (by omega)).2 ?_
    refine s_getHx (w := 82207103308028848542712598) (pc2 := 65) (by decide +kernel) (c := 8) (x := 2) (by decide +kernel) hS5.1 hS5.2.1 (by decide) ?_
    refine h_con (w := 65793) (pc2 := 66) (by decide +kernel) (v := 1) (by decide +kernel) ?_
    refine h_add (w := 263) (pc2 := 67) (by decide +kernel) (by decide +kernel) (hS5.2.1.2.1.1 _) (by decide) (c := inc1 ((mWk3 (mWk2 (mWk1 a i) i) (mWk2 (mWk1 a i) i (100 + 8 * i + 1))) 2)) inc1_eq ?_
    refine s_putH (w := 82207103308028848542712599) (pc2 := 70) (by decide +kernel) (c := 8) (x := 2) (by decide +kernel) hS5 inc1_lt ?_
    intro m6 hS6
    rw [← mWk4_d] at hS6
    exact h_ret0 (w := 302) (by decide +kernel) (by decide +kernel) (g _ hS6)
  · have e0 : mWk a i = mWk1 a i := by
      unfold mWk
      rw [nb_ne.mpr q0, cond_false]
    rw [e0] at g
    have hlt := hS2.2.1.2.1.1 (100 + 8 * i + 3)
    refine h_if (w := 281474981298961) (pc2 := 70) (by decide +kernel) (b := true) (by decide +kernel) (by omega) (zc_ne_t q0) ?_
    exact h_ret0 (w := 302) (by decide +kernel) (by decide +kernel) (g _ hS2)
/-- one arm goes on; the arms from k on, d of them -/
def mGo1 (a : Nat → Nat) (i : Nat) : Nat → Nat := bif Nat.beq (a (100 + 8 * i + 2)) 2 then mWay a i else bif Nat.beq (a (100 + 8 * i + 2)) 1 then mWk a i else a
def mGoL : Nat → Nat → (Nat → Nat) → Nat → Nat
  | 0, _, a => a
  | d + 1, k, a => mGoL d (k + 1) (mGo1 a k)
/-- arms stand at quays -/
def aQ (a : Nat → Nat) : Prop := ∀ i, i < a 1 → a (100 + 8 * i + 1) < 12
/-- what a going on leaves as it is: the arms' number, where they are -/
theorem mWay_n {i x : Nat} (hx : x < 100 ∨ (x < 300 ∧ (x - 100) % 8 ≠ 2 ∧ (x - 100) % 8 ≠ 3)) : mWay a i x = a x := by
  unfold mWay
  cases Nat.beq (mWay1 a i (100 + 8 * i + 3)) 0
  · rw [cond_false, mWay1_n (by omega)]
  · rw [cond_true]
    unfold mWay3
    rw [bU_n (by omega), mWay2_n (by omega), mWay1_n (by omega)]
theorem mWk_n {i x : Nat} (hx : (x < 100 ∧ x ≠ 3 ∧ x ≠ 2) ∨ (100 ≤ x ∧ x < 300 ∧ (x - 100) % 8 ≠ 2 ∧ (x - 100) % 8 ≠ 3 ∧ (x - 100) % 8 ≠ 5)) : mWk a i x = a x := by
  unfold mWk
  cases Nat.beq (mWk1 a i (100 + 8 * i + 3)) 0
  · rw [cond_false, mWk1_n (by omega) (by omega)]
  · rw [cond_true]
    unfold mWk4 mWk3
    rw [bU_n (by omega), bU_n (by omega), mWk2_n (by omega) (by omega), mWk1_n (by omega) (by omega)]
theorem mGo1_n {i x : Nat} (hx : x = 0 ∨ x = 1 ∨ x = 4 ∨ (5 ≤ x ∧ x < 100) ∨ (100 ≤ x ∧ x < 300 ∧ ((x - 100) % 8 = 0 ∨ (x - 100) % 8 = 1 ∨ (x - 100) % 8 = 4 ∨ (x - 100) % 8 = 6 ∨ (x - 100) % 8 = 7))) : mGo1 a i x = a x := by
  unfold mGo1
  cases Nat.beq (a (100 + 8 * i + 2)) 2
  · rw [cond_false]
    cases Nat.beq (a (100 + 8 * i + 2)) 1
    · rfl
    · rw [cond_true, mWk_n (by omega)]
  · rw [cond_true, mWay_n (by omega)]
theorem aQ_go1 {i : Nat} (h : aQ a) (h17 : a 1 ≤ 17) : aQ (mGo1 a i) := by
  intro k hk
  rw [mGo1_n (by omega)] at hk
  rw [mGo1_n (by omega)]
  exact h k hk
theorem m15_loop : ∀ (d k x : Nat) (a : Nat → Nat) (m : zM), k + d = a 1 → aQ a → bS b p a m0 m → (∀ m', bS b p (mGoL d k a) m0 m' → gFin1 sc Q frs 15 0 m') → gFin sc Q frs 15 2 [bR b 0, k, x] [] m := by
  intro d
  induction d with
  | zero =>
    intro k x a m hk hQ hS g
    have h17 := hS.2.1.2.1.2
    refine h_ldi (w := 65794) (pc2 := 3) (by decide +kernel) (by decide +kernel) rfl (by omega) ?_
    refine h_ldr (w := 259) (pc2 := 4) (by decide +kernel) (by decide +kernel) rfl (bR_ref hS.2.1.2.2 (by omega)) ?_
    refine s_getHx (w := 59237383608142378255516438) (pc2 := 7) (by decide +kernel) (c := 1) (x := 1) (by decide +kernel) hS.1 hS.2.1 (by decide) ?_
    refine h_icmp (w := 844424933540626) (pc2 := 52) (by decide +kernel) (b := true) (by decide +kernel) (by omega) (by omega) (zc_ge_t (by omega) (by omega) (by omega)) ?_
    exact h_ret0 (w := 302) (by decide +kernel) (by decide +kernel) (g _ hS)
  | succ d IH =>
    intro k x a m hk hQ hS g
    have h17 := hS.2.1.2.1.2
    have hi : k < a 1 := by omega
    have hp := hS.2.1.1.1 k (by omega)
    obtain ⟨f0, z0, -⟩ := bM_at (o := 0) hS.1 hS.2.1.2.2 (by decide)
    have r0 := bR_ref (o := 0) hS.2.1.2.2 (by decide)
    have r1 := bR_ref (o := 8 + p k) hS.2.1.2.2 (by omega)
    have hlt := hS.2.1.2.1.1 (100 + 8 * k + 2)
    refine h_ldi (w := 65794) (pc2 := 3) (by decide +kernel) (by decide +kernel) rfl (by omega) ?_
    refine h_ldr (w := 259) (pc2 := 4) (by decide +kernel) (by decide +kernel) rfl (bR_ref hS.2.1.2.2 (by omega)) ?_
    refine s_getHx (w := 59237383608142378255516438) (pc2 := 7) (by decide +kernel) (c := 1) (x := 1) (by decide +kernel) hS.1 hS.2.1 (by decide) ?_
    refine h_icmp (w := 844424933540626) (pc2 := 10) (by decide +kernel) (b := false) (by decide +kernel) (by omega) (by omega) (zc_ge_f (by omega) (by omega) (by omega)) ?_
    refine h_ldr (w := 259) (pc2 := 11) (by decide +kernel) (by decide +kernel) rfl (bR_ref hS.2.1.2.2 (by omega)) ?_
    refine s_getHr (w := 13298220909530543326364438) (pc2 := 14) (by decide +kernel) (c := 2) (k := 1) (by decide +kernel) hS.1 hS.2.1 (by decide) ?_
    refine h_ldi (w := 65794) (pc2 := 15) (by decide +kernel) (by decide +kernel) rfl (by omega) ?_
    refine s_aldA (w := 286) (pc2 := 16) (by decide +kernel) (by decide +kernel) hS.1 hS.2.1 (by omega) ?_
    refine h_str (w := 131333) (pc2 := 17) (by decide +kernel) (n := 3) (by decide +kernel) rfl (bR_ref hS.2.1.2.2 (by omega)) (ls2 := [bR b 0, k, (bR b (8 + p k))]) rfl ?_
    refine h_ldr (w := 131331) (pc2 := 18) (by decide +kernel) (by decide +kernel) rfl (bR_ref hS.2.1.2.2 (by omega)) ?_
    refine s_getA (w := 101549805741116998099010326) (pc2 := 21) (by decide +kernel) (c := 2) (by decide +kernel) hS.1 hS.2.1 hi ?_
    refine h_con (w := 131329) (pc2 := 22) (by decide +kernel) (v := 2) (by decide +kernel) ?_
    by_cases q2 : a (100 + 8 * k + 2) = 2
    · have e0 : mGo1 a k = mWay a k := by
        unfold mGo1
        rw [nb_eq.mpr q2, cond_true]
      refine h_icmp (w := 281474978874130) (pc2 := 25) (by decide +kernel) (b := false) (by decide +kernel) (by omega) (by omega) (zc_ne_f q2) ?_
      refine h_ldr (w := 259) (pc2 := 26) (by decide +kernel) (by decide +kernel) rfl (bR_ref hS.2.1.2.2 (by omega)) ?_
      refine h_ldr (w := 131331) (pc2 := 27) (by decide +kernel) (by decide +kernel) rfl (bR_ref hS.2.1.2.2 (by omega)) ?_
      refine h_call (w := 157165189597412054568796965) (a := 16) (by decide +kernel) (by decide +kernel) (zCOk_v (n := 1) (by decide +kernel) rfl z0 (by decide +kernel) ⟨Nat.le_of_ble_eq_true rfl, Nat.le_of_ble_eq_true rfl⟩ (fun c hc => by
          have hc : c ∈ [(bR b (8 + p k)), bR b 0] := hc
          simp only [List.mem_cons, List.not_mem_nil, or_false] at hc
          rcases hc with rfl | rfl
          · exact r1.2
          · exact r0.2)) (st2 := []) rfl (l2 := [bR b 0, (bR b (8 + p k))]) (by show (List.take 2 _).reverse ++ List.replicate (zMaxL 16 - 2) _ = _; rw [show zMaxL 16 = 2 by decide +kernel]; rfl) ?_
      refine m16 hS hi (hQ k hi) (fun m1 hS1 => ?_)
      show gFin sc Q frs 15 30 [bR b 0, k, bR b (8 + p k)] (if zRet 16 = 0 then [] else [0]) m1
      rw [if_pos (show zRet 16 = 0 by decide +kernel)]
      rw [← e0] at hS1
      refine h_goto (w := 3015443) (pc2 := 46) (by decide +kernel) (by decide +kernel) ?_
      refine h_inc (w := 281474976776966) (pc2 := 49) (by decide +kernel) (by decide +kernel) rfl (by omega) (c2 := (k + 1)) (by show (_ + 1) % 4294967296 = _; omega) (ls2 := [bR b 0, (k + 1), (bR b (8 + p k))]) rfl ?_
      refine h_goto (w := 131859) (pc2 := 2) (by decide +kernel) (by decide +kernel) ?_
      exact IH (k + 1) _ _ m1 (by rw [mGo1_n (by omega)]; omega) (aQ_go1 hQ h17) hS1 g
    refine h_icmp (w := 281474978874130) (pc2 := 33) (by decide +kernel) (b := true) (by decide +kernel) (by omega) (by omega) (zc_ne_t q2) ?_
    refine h_ldr (w := 131331) (pc2 := 34) (by decide +kernel) (by decide +kernel) rfl (bR_ref hS.2.1.2.2 (by omega)) ?_
    refine s_getA (w := 101549805741116998099010326) (pc2 := 37) (by decide +kernel) (c := 2) (by decide +kernel) hS.1 hS.2.1 hi ?_
    refine h_con (w := 65793) (pc2 := 38) (by decide +kernel) (v := 1) (by decide +kernel) ?_
    by_cases q1 : a (100 + 8 * k + 2) = 1
    · have e0 : mGo1 a k = mWk a k := by
        unfold mGo1
        rw [nb_ne.mpr q2, cond_false, nb_eq.mpr q1, cond_true]
      refine h_icmp (w := 281474979726098) (pc2 := 41) (by decide +kernel) (b := false) (by decide +kernel) (by omega) (by omega) (zc_ne_f q1) ?_
      refine h_ldr (w := 259) (pc2 := 42) (by decide +kernel) (by decide +kernel) rfl (bR_ref hS.2.1.2.2 (by omega)) ?_
      refine h_ldr (w := 131331) (pc2 := 43) (by decide +kernel) (by decide +kernel) rfl (bR_ref hS.2.1.2.2 (by omega)) ?_
      refine h_call (w := 160792040843232236931187493) (a := 17) (by decide +kernel) (by decide +kernel) (zCOk_v (n := 1) (by decide +kernel) rfl z0 (by decide +kernel) ⟨Nat.le_of_ble_eq_true rfl, Nat.le_of_ble_eq_true rfl⟩ (fun c hc => by
          have hc : c ∈ [(bR b (8 + p k)), bR b 0] := hc
          simp only [List.mem_cons, List.not_mem_nil, or_false] at hc
          rcases hc with rfl | rfl
          · exact r1.2
          · exact r0.2)) (st2 := []) rfl (l2 := [bR b 0, (bR b (8 + p k))]) (by show (List.take 2 _).reverse ++ List.replicate (zMaxL 17 - 2) _ = _; rw [show zMaxL 17 = 2 by decide +kernel]; rfl) ?_
      refine m17 hS hi (hQ k hi) (fun m1 hS1 => ?_)
      show gFin sc Q frs 15 46 [bR b 0, k, bR b (8 + p k)] (if zRet 17 = 0 then [] else [0]) m1
      rw [if_pos (show zRet 17 = 0 by decide +kernel)]
      rw [← e0] at hS1
      refine h_inc (w := 281474976776966) (pc2 := 49) (by decide +kernel) (by decide +kernel) rfl (by omega) (c2 := (k + 1)) (by show (_ + 1) % 4294967296 = _; omega) (ls2 := [bR b 0, (k + 1), (bR b (8 + p k))]) rfl ?_
      refine h_goto (w := 131859) (pc2 := 2) (by decide +kernel) (by decide +kernel) ?_
      exact IH (k + 1) _ _ m1 (by rw [mGo1_n (by omega)]; omega) (aQ_go1 hQ h17) hS1 g
    · have e0 : mGo1 a k = a := by
        unfold mGo1
        rw [nb_ne.mpr q2, cond_false, nb_ne.mpr q1, cond_false]
      refine h_icmp (w := 281474979726098) (pc2 := 46) (by decide +kernel) (b := true) (by decide +kernel) (by omega) (by omega) (zc_ne_t q1) ?_
      refine h_inc (w := 281474976776966) (pc2 := 49) (by decide +kernel) (by decide +kernel) rfl (by omega) (c2 := (k + 1)) (by show (_ + 1) % 4294967296 = _; omega) (ls2 := [bR b 0, (k + 1), (bR b (8 + p k))]) rfl ?_
      refine h_goto (w := 131859) (pc2 := 2) (by decide +kernel) (by decide +kernel) ?_
      have hS1 := hS
      rw [← e0] at hS1
      exact IH (k + 1) _ _ m (by rw [mGo1_n (by omega)]; omega) (aQ_go1 hQ h17) hS1 g
theorem m15 {x y : Nat} (hS : bS b p a m0 m) (hQ : aQ a) (g : ∀ m', bS b p (mGoL (a 1) 0 a) m0 m' → gFin1 sc Q frs 15 0 m') : gFin sc Q frs 15 0 [bR b 0, x, y] [] m := by
  refine h_con (w := 257) (pc2 := 1) (by decide +kernel) (v := 0) (by decide +kernel) ?_
  refine h_sti (w := 65796) (pc2 := 2) (by decide +kernel) (n := 3) (by decide +kernel) rfl (by omega) (ls2 := [bR b 0, 0, y]) rfl ?_
  exact m15_loop (a 1) 0 y a m (Nat.zero_add _) hQ hS g
end BG
