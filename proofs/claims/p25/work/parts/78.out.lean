/-! ===== all that waits; an arm sets out (printed by wip/gen/m78.py) ===== -/
section BG
variable {sc : List Nat} {Q : Nat → zM → Prop} {frs : gCf} {m m0 : zM} {b : Nat} {p a : Nat → Nat}
/-- the loads that wait at d more quays behind q -/
def mWt (a : Nat → Nat) : Nat → Nat → Nat → Nat
  | 0, _, s => s
  | d + 1, q, s => mWt a d (q + 1) (add1 s (a (300 + 30 * q + 0)))
theorem m26_loop (hS : bS b p a m0 m) : ∀ (d q s : Nat), q + d = 12 → s < 4294967296 → gFin1 sc Q frs 26 (mWt a d q s) m → gFin sc Q frs 26 4 [bR b 0, s, q] [] m := by
  intro d
  induction d with
  | zero =>
    intro q s hj hs g
    refine h_ldi (w := 131330) (pc2 := 5) (by decide +kernel) (by decide +kernel) rfl (by omega) ?_
    refine h_con (w := 281474977497601) (pc2 := 7) (by decide +kernel) (v := 12) (by decide +kernel) ?_
    refine h_icmp (w := 844424931967762) (pc2 := 28) (by decide +kernel) (b := true) (by decide +kernel) (by omega) (by omega) (zc_ge_t (by omega) (by omega) (by omega)) ?_
    refine h_ldi (w := 65794) (pc2 := 29) (by decide +kernel) (by decide +kernel) rfl hs ?_
    exact h_ret (w := 301) (by decide +kernel) (by decide +kernel) hs (fun h => absurd h (by decide +kernel)) g
  | succ d IH =>
    intro q s hj hs g
    have hq : q < 12 := by omega
    refine h_ldi (w := 131330) (pc2 := 5) (by decide +kernel) (by decide +kernel) rfl (by omega) ?_
    refine h_con (w := 281474977497601) (pc2 := 7) (by decide +kernel) (v := 12) (by decide +kernel) ?_
    refine h_icmp (w := 844424931967762) (pc2 := 10) (by decide +kernel) (b := false) (by decide +kernel) (by omega) (by omega) (zc_ge_f (by omega) (by omega) (by omega)) ?_
    refine h_ldi (w := 65794) (pc2 := 11) (by decide +kernel) (by decide +kernel) rfl hs ?_
    refine h_ldr (w := 259) (pc2 := 12) (by decide +kernel) (by decide +kernel) rfl (bR_ref hS.2.1.2.2 (by omega)) ?_
    refine s_getHr (w := 22969645913191650433696534) (pc2 := 15) (by decide +kernel) (c := 3) (k := 2) (by decide +kernel) hS.1 hS.2.1 (by decide) ?_
    refine h_ldi (w := 131330) (pc2 := 16) (by decide +kernel) (by decide +kernel) rfl (by omega) ?_
    refine s_aldL (w := 286) (pc2 := 17) (by decide +kernel) (by decide +kernel) hS.1 hS.2.1 hq ?_
    refine s_getLx (w := 166831800000869923489186582) (pc2 := 20) (by decide +kernel) (c := 2) (by decide +kernel) hS.1 hS.2.1 (q := q) hq (x := 300 + 30 * q + 0) (by omega) ?_
    refine h_add (w := 263) (pc2 := 21) (by decide +kernel) (by decide +kernel) hs (hS.2.1.2.1.1 _) (c := add1 s (a (300 + 30 * q + 0))) add1_eq ?_
    refine h_sti (w := 65796) (pc2 := 22) (by decide +kernel) (n := 3) (by decide +kernel) rfl add1_lt (ls2 := [bR b 0, add1 s (a (300 + 30 * q + 0)), q]) rfl ?_
    refine h_inc (w := 562949953487622) (pc2 := 25) (by decide +kernel) (by decide +kernel) rfl (by omega) (c2 := (q + 1)) (by show (_ + 1) % 4294967296 = _; omega) (ls2 := [bR b 0, add1 s (a (300 + 30 * q + 0)), (q + 1)]) rfl ?_
    refine h_goto (w := 262931) (pc2 := 4) (by decide +kernel) (by decide +kernel) ?_
    exact IH (q + 1) _ (by omega) add1_lt g
theorem m26 {x y : Nat} (hS : bS b p a m0 m) (g : gFin1 sc Q frs 26 (mWt a 12 0 0) m) : gFin sc Q frs 26 0 [bR b 0, x, y] [] m := by
  refine h_con (w := 257) (pc2 := 1) (by decide +kernel) (v := 0) (by decide +kernel) ?_
  refine h_sti (w := 65796) (pc2 := 2) (by decide +kernel) (n := 3) (by decide +kernel) rfl (by decide) (ls2 := [bR b 0, 0, y]) rfl ?_
  refine h_con (w := 257) (pc2 := 3) (by decide +kernel) (v := 0) (by decide +kernel) ?_
  refine h_sti (w := 131332) (pc2 := 4) (by decide +kernel) (n := 3) (by decide +kernel) rfl (by decide) (ls2 := [bR b 0, 0, 0]) rfl ?_
  exact m26_loop hS 12 0 0 (Nat.zero_add _) (by decide) g
def mSo1 (a : Nat → Nat) (i v : Nat) : Nat → Nat := bU a (100 + 8 * i + 1) v
def mSo2 (a : Nat → Nat) (i : Nat) : Nat → Nat := bU a (100 + 8 * i + 2) 2
def mSo3 (a : Nat → Nat) (i v : Nat) : Nat → Nat := bU a (100 + 8 * i + 3) v
def mSo4 (a : Nat → Nat) (i : Nat) : Nat → Nat := bU a (100 + 8 * i + 6) (inc1 (a (100 + 8 * i + 6)))
def mSo5 (a : Nat → Nat) (i : Nat) : Nat → Nat := bU a (100 + 8 * i + 7) 0
def mSo (a : Nat → Nat) (i q l : Nat) : Nat → Nat := mSo5 (mSo4 (mSo3 (mSo2 (mSo1 a i q) i) i l) i) i
theorem mSo1_d {i v : Nat} : mSo1 a i v = bU a (100 + 8 * i + 1) v := rfl
theorem mSo2_d {i : Nat} : mSo2 a i = bU a (100 + 8 * i + 2) 2 := rfl
theorem mSo3_d {i v : Nat} : mSo3 a i v = bU a (100 + 8 * i + 3) v := rfl
theorem mSo4_d {i : Nat} : mSo4 a i = bU a (100 + 8 * i + 6) (inc1 (a (100 + 8 * i + 6))) := rfl
theorem mSo5_d {i : Nat} : mSo5 a i = bU a (100 + 8 * i + 7) 0 := rfl
theorem mSo_d {i q l : Nat} : mSo a i q l = mSo5 (mSo4 (mSo3 (mSo2 (mSo1 a i q) i) i l) i) i := rfl
theorem m3 {i qv lv : Nat} (hS : bS b p a m0 m) (hi : i < a 1) (hqv : qv < 4294967296) (hlv : lv < 4294967296) (g : ∀ m', bS b p (mSo a i qv lv) m0 m' → gFin1 sc Q frs 3 0 m') : gFin sc Q frs 3 0 [bR b (8 + p i), qv, lv] [] m := by
  have h17 := hS.2.1.2.1.2
  have hp := hS.2.1.1.1 i (by omega)
  refine h_ldr (w := 259) (pc2 := 1) (by decide +kernel) (by decide +kernel) rfl (bR_ref hS.2.1.2.2 (by omega)) ?_
  refine h_ldi (w := 65794) (pc2 := 2) (by decide +kernel) (by decide +kernel) rfl hqv ?_
  refine s_putA (w := 18133905740963511334404887) (pc2 := 5) (by decide +kernel) (c := 1) (by decide +kernel) hS hi hqv (fun h => absurd h (by decide)) ?_
  intro m1 hS1
  rw [← mSo1_d] at hS1
  have hi1 : i < (mSo1 a i qv) 1 := by rw [mSo1_d, bU_n (by omega)]; exact hi
  refine h_ldr (w := 259) (pc2 := 6) (by decide +kernel) (by decide +kernel) rfl (bR_ref hS1.2.1.2.2 (by omega)) ?_
  refine h_con (w := 131329) (pc2 := 7) (by decide +kernel) (v := 2) (by decide +kernel) ?_
  refine s_putA (w := 21760701646551472568271639) (pc2 := 10) (by decide +kernel) (c := 2) (by decide +kernel) hS1 hi1 (by decide) (fun h => absurd h (by decide)) ?_
  intro m2 hS2
  rw [← mSo2_d] at hS2
  have hi2 : i < (mSo2 (mSo1 a i qv) i) 1 := by rw [mSo2_d, bU_n (by omega)]; exact hi1
  refine h_ldr (w := 259) (pc2 := 11) (by decide +kernel) (by decide +kernel) rfl (bR_ref hS2.2.1.2.2 (by omega)) ?_
  refine h_ldi (w := 131330) (pc2 := 12) (by decide +kernel) (by decide +kernel) rfl hlv ?_
  refine s_putA (w := 25387497552139433802138391) (pc2 := 15) (by decide +kernel) (c := 3) (by decide +kernel) hS2 hi2 hlv (fun h => absurd h (by decide)) ?_
  intro m3 hS3
  rw [← mSo3_d] at hS3
  have hi3 : i < (mSo3 (mSo2 (mSo1 a i qv) i) i lv) 1 := by rw [mSo3_d, bU_n (by omega)]; exact hi2
  refine h_ldr (w := 259) (pc2 := 16) (by decide +kernel) (by decide +kernel) rfl (bR_ref hS3.2.1.2.2 (by omega)) ?_
  refine h_dup (w := 270) (pc2 := 17) (by decide +kernel) (by decide +kernel) (bR_ref hS3.2.1.2.2 (by omega)).2 ?_
  refine s_getA (w := 37476811088517946678444822) (pc2 := 20) (by decide +kernel) (c := 6) (by decide +kernel) hS3.1 hS3.2.1 hi3 ?_
  refine h_con (w := 65793) (pc2 := 21) (by decide +kernel) (v := 1) (by decide +kernel) ?_
  refine h_add (w := 263) (pc2 := 22) (by decide +kernel) (by decide +kernel) (hS3.2.1.2.1.1 _) (by decide) (c := inc1 ((mSo3 (mSo2 (mSo1 a i qv) i) i lv) (100 + 8 * i + 6))) inc1_eq ?_
  refine s_putA (w := 37476811088517946678444823) (pc2 := 25) (by decide +kernel) (c := 6) (by decide +kernel) hS3 hi3 inc1_lt (fun h => absurd h (by decide)) ?_
  intro m4 hS4
  rw [← mSo4_d] at hS4
  have hi4 : i < (mSo4 (mSo3 (mSo2 (mSo1 a i qv) i) i lv) i) 1 := by rw [mSo4_d, bU_n (by omega)]; exact hi3
  refine h_ldr (w := 259) (pc2 := 26) (by decide +kernel) (by decide +kernel) rfl (bR_ref hS4.2.1.2.2 (by omega)) ?_
  refine h_con (w := 257) (pc2 := 27) (by decide +kernel) (v := 0) (by decide +kernel) ?_
  refine s_putA (w := 41103606994105907912246039) (pc2 := 30) (by decide +kernel) (c := 7) (by decide +kernel) hS4 hi4 (by decide) (fun h => absurd h (by decide)) ?_
  intro m5 hS5
  rw [← mSo5_d] at hS5
  have hi5 : i < (mSo5 (mSo4 (mSo3 (mSo2 (mSo1 a i qv) i) i lv) i) i) 1 := by rw [mSo5_d, bU_n (by omega)]; exact hi4
  rw [← mSo_d] at hS5
  exact h_ret0 (w := 302) (by decide +kernel) (by decide +kernel) (g _ hS5)
end BG
