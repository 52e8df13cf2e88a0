/-! ===== what waits, what is idle: methods that only read (printed by wip/gen/m76.py) ===== -/
section BG
variable {sc : List Nat} {Q : Nat → zM → Prop} {frs : gCf} {m m0 : zM} {b : Nat} {p a : Nat → Nat}
def sub1 (x y : Nat) : Nat := (x + 4294967296 - y) % 4294967296
theorem sub1_eq {x y : Nat} : (x + 4294967296 - y) % 4294967296 = sub1 x y := rfl
theorem sub1_lt {x y : Nat} : sub1 x y < 4294967296 := Nat.mod_lt _ (by decide)
def add1 (x y : Nat) : Nat := (x + y) % 4294967296
theorem add1_eq {x y : Nat} : (x + y) % 4294967296 = add1 x y := rfl
theorem add1_lt {x y : Nat} : add1 x y < 4294967296 := Nat.mod_lt _ (by decide)
/-- the loads of a quay that no arm comes for -/
def mOpen (a : Nat → Nat) (q : Nat) : Nat := sub1 (a (300 + 30 * q + 0)) (a (300 + 30 * q + 2))
/-- whether an arm is idle away from home -/
def mAw (a : Nat → Nat) (i : Nat) : Nat := bif Nat.beq (a (100 + 8 * i + 2)) 0 then (bif Nat.beq (a (100 + 8 * i + 1)) (a (100 + 8 * i + 0)) then 0 else 1) else 0
/-- the work of k more loads behind j -/
def mSum (a : Nat → Nat) (q : Nat) : Nat → Nat → Nat → Nat
  | 0, _, s => s
  | d + 1, j, s => mSum a q d (j + 1) (add1 s (a (303 + 30 * q + j)))
theorem m36 {q : Nat} (hS : bS b p a m0 m) (hq : q < 12) (g : gFin1 sc Q frs 36 (mOpen a q) m) : gFin sc Q frs 36 0 [bR b (25 + 3 * q)] [] m := by
  refine h_ldr (w := 259) (pc2 := 1) (by decide +kernel) (by decide +kernel) rfl (bR_ref hS.2.1.2.2 (by omega)) ?_
  refine s_getLx (w := 29014256564802197572551446) (pc2 := 4) (by decide +kernel) (c := 2) (by decide +kernel) hS.1 hS.2.1 (q := q) hq (x := 300 + 30 * q + 0) (by omega) ?_
  refine h_ldr (w := 259) (pc2 := 5) (by decide +kernel) (by decide +kernel) rfl (bR_ref hS.2.1.2.2 (by omega)) ?_
  refine s_getLx (w := 37476774195592749214991126) (pc2 := 8) (by decide +kernel) (c := 4) (by decide +kernel) hS.1 hS.2.1 (q := q) hq (x := 300 + 30 * q + 2) (by omega) ?_
  refine h_sub (w := 264) (pc2 := 9) (by decide +kernel) (by decide +kernel) (hS.2.1.2.1.1 _) (hS.2.1.2.1.1 _) (c := mOpen a q) sub1_eq ?_
  exact h_ret (w := 301) (by decide +kernel) (by decide +kernel) sub1_lt (fun h => absurd h (by decide +kernel)) g
theorem m4 {i : Nat} (hS : bS b p a m0 m) (hi : i < a 1) (g : gFin1 sc Q frs 4 (mAw a i) m) : gFin sc Q frs 4 0 [bR b (8 + p i)] [] m := by
  have h17 := hS.2.1.2.1.2
  have hp := hS.2.1.1.1 i (by omega)
  have t4 := hS.2.1.2.1.1 (100 + 8 * i + 2)
  have t1 := hS.2.1.2.1.1 (100 + 8 * i + 1)
  have t0 := hS.2.1.2.1.1 (100 + 8 * i + 0)
  refine h_ldr (w := 259) (pc2 := 1) (by decide +kernel) (by decide +kernel) rfl (bR_ref hS.2.1.2.2 (by omega)) ?_
  refine s_getA (w := 21760701646551472568271638) (pc2 := 4) (by decide +kernel) (c := 2) (by decide +kernel) hS.1 hS.2.1 hi ?_
  by_cases q4 : a (100 + 8 * i + 2) = 0
  · skip
    refine h_if (w := 281474978153233) (pc2 := 7) (by decide +kernel) (b := false) (by decide +kernel) (by omega) (zc_ne_f q4) ?_
    refine h_ldr (w := 259) (pc2 := 8) (by decide +kernel) (by decide +kernel) rfl (bR_ref hS.2.1.2.2 (by omega)) ?_
    refine s_getA (w := 18133905740963511334404886) (pc2 := 11) (by decide +kernel) (c := 1) (by decide +kernel) hS.1 hS.2.1 hi ?_
    refine h_ldr (w := 259) (pc2 := 12) (by decide +kernel) (by decide +kernel) rfl (bR_ref hS.2.1.2.2 (by omega)) ?_
    refine s_getA (w := 10880332376531662576419606) (pc2 := 15) (by decide +kernel) (c := 0) (by decide +kernel) hS.1 hS.2.1 hi ?_
    by_cases q1 : a (100 + 8 * i + 1) = a (100 + 8 * i + 0)
    · have e0 : mAw a i = 0 := by
        unfold mAw
        rw [nb_eq.mpr q4, cond_true, nb_eq.mpr q1, cond_true]
      rw [e0] at g
      refine h_icmp (w := 1442578) (pc2 := 22) (by decide +kernel) (b := true) (by decide +kernel) (by omega) (by omega) (zc_eq_t q1) ?_
      refine h_con (w := 257) (pc2 := 23) (by decide +kernel) (v := 0) (by decide +kernel) ?_
      exact h_ret (w := 301) (by decide +kernel) (by decide +kernel) (by decide) (fun _ => by decide) g
    · have e0 : mAw a i = 1 := by
        unfold mAw
        rw [nb_eq.mpr q4, cond_true, nb_ne.mpr q1, cond_false]
      rw [e0] at g
      refine h_icmp (w := 1442578) (pc2 := 18) (by decide +kernel) (b := false) (by decide +kernel) (by omega) (by omega) (zc_eq_f q1) ?_
      refine h_con (w := 65793) (pc2 := 19) (by decide +kernel) (v := 1) (by decide +kernel) ?_
      refine h_goto (w := 1508115) (pc2 := 23) (by decide +kernel) (by decide +kernel) ?_
      exact h_ret (w := 301) (by decide +kernel) (by decide +kernel) (by decide) (fun _ => by decide) g
  · have e0 : mAw a i = 0 := by
      unfold mAw
      rw [nb_ne.mpr q4, cond_false]
    rw [e0] at g
    refine h_if (w := 281474978153233) (pc2 := 22) (by decide +kernel) (b := true) (by decide +kernel) (by omega) (zc_ne_t q4) ?_
    refine h_con (w := 257) (pc2 := 23) (by decide +kernel) (v := 0) (by decide +kernel) ?_
    exact h_ret (w := 301) (by decide +kernel) (by decide +kernel) (by decide) (fun _ => by decide) g
theorem m37_loop {q : Nat} (hS : bS b p a m0 m) (hq : q < 12) (h9 : a (300 + 30 * q + 0) ≤ 9) : ∀ (d j s : Nat), j + d = a (300 + 30 * q + 0) → s < 4294967296 → gFin1 sc Q frs 37 (mSum a q d j s) m → gFin sc Q frs 37 4 [bR b (25 + 3 * q), s, j] [] m := by
  intro d
  induction d with
  | zero =>
    intro j s hj hs g
    refine h_ldi (w := 131330) (pc2 := 5) (by decide +kernel) (by decide +kernel) rfl (by omega) ?_
    refine h_ldr (w := 259) (pc2 := 6) (by decide +kernel) (by decide +kernel) rfl (bR_ref hS.2.1.2.2 (by omega)) ?_
    refine s_getLx (w := 29014256564802197572551446) (pc2 := 9) (by decide +kernel) (c := 2) (by decide +kernel) hS.1 hS.2.1 (q := q) hq (x := 300 + 30 * q + 0) (by omega) ?_
    refine h_icmp (w := 844424931902226) (pc2 := 27) (by decide +kernel) (b := true) (by decide +kernel) (by omega) (by omega) (zc_ge_t (by omega) (by omega) (by omega)) ?_
    refine h_ldi (w := 65794) (pc2 := 28) (by decide +kernel) (by decide +kernel) rfl hs ?_
    exact h_ret (w := 301) (by decide +kernel) (by decide +kernel) hs (fun h => absurd h (by decide +kernel)) g
  | succ d IH =>
    intro j s hj hs g
    refine h_ldi (w := 131330) (pc2 := 5) (by decide +kernel) (by decide +kernel) rfl (by omega) ?_
    refine h_ldr (w := 259) (pc2 := 6) (by decide +kernel) (by decide +kernel) rfl (bR_ref hS.2.1.2.2 (by omega)) ?_
    refine s_getLx (w := 29014256564802197572551446) (pc2 := 9) (by decide +kernel) (c := 2) (by decide +kernel) hS.1 hS.2.1 (q := q) hq (x := 300 + 30 * q + 0) (by omega) ?_
    refine h_icmp (w := 844424931902226) (pc2 := 12) (by decide +kernel) (b := false) (by decide +kernel) (by omega) (by omega) (zc_ge_f (by omega) (by omega) (by omega)) ?_
    refine h_ldi (w := 65794) (pc2 := 13) (by decide +kernel) (by decide +kernel) rfl hs ?_
    refine h_ldr (w := 259) (pc2 := 14) (by decide +kernel) (by decide +kernel) rfl (bR_ref hS.2.1.2.2 (by omega)) ?_
    refine s_getL (w := 10880332377094612532724502) (pc2 := 17) (by decide +kernel) (c := 0) (by decide +kernel) hS.1 hS.2.1 (q := q) hq (v := bR b (25 + 3 * q + 1)) rfl ?_
    refine h_ldi (w := 131330) (pc2 := 18) (by decide +kernel) (by decide +kernel) rfl (by omega) ?_
    refine s_aldW (w := 282) (pc2 := 19) (by decide +kernel) (by decide +kernel) hS.1 hS.2.1 hq (by omega) ?_
    refine h_add (w := 263) (pc2 := 20) (by decide +kernel) (by decide +kernel) hs (hS.2.1.2.1.1 _) (c := add1 s (a (303 + 30 * q + j))) add1_eq ?_
    refine h_sti (w := 65796) (pc2 := 21) (by decide +kernel) (n := 3) (by decide +kernel) rfl add1_lt (ls2 := [(bR b (25 + 3 * q)), add1 s (a (303 + 30 * q + j)), j]) rfl ?_
    refine h_inc (w := 562949953487622) (pc2 := 24) (by decide +kernel) (by decide +kernel) rfl (by omega) (c2 := (j + 1)) (by show (_ + 1) % 4294967296 = _; omega) (ls2 := [(bR b (25 + 3 * q)), add1 s (a (303 + 30 * q + j)), (j + 1)]) rfl ?_
    refine h_goto (w := 262931) (pc2 := 4) (by decide +kernel) (by decide +kernel) ?_
    exact IH (j + 1) _ (by omega) add1_lt g
theorem m37 {q x y : Nat} (hS : bS b p a m0 m) (hq : q < 12) (h9 : a (300 + 30 * q + 0) ≤ 9) (g : gFin1 sc Q frs 37 (mSum a q (a (300 + 30 * q + 0)) 0 0) m) : gFin sc Q frs 37 0 [bR b (25 + 3 * q), x, y] [] m := by
  refine h_con (w := 257) (pc2 := 1) (by decide +kernel) (v := 0) (by decide +kernel) ?_
  refine h_sti (w := 65796) (pc2 := 2) (by decide +kernel) (n := 3) (by decide +kernel) rfl (by decide) (ls2 := [(bR b (25 + 3 * q)), 0, y]) rfl ?_
  refine h_con (w := 257) (pc2 := 3) (by decide +kernel) (v := 0) (by decide +kernel) ?_
  refine h_sti (w := 131332) (pc2 := 4) (by decide +kernel) (n := 3) (by decide +kernel) rfl (by decide) (ls2 := [(bR b (25 + 3 * q)), 0, 0]) rfl ?_
  exact m37_loop hS hq h9 _ 0 0 (Nat.zero_add _) (by decide) g
end BG
