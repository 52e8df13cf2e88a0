/-! ===== what is told (printed by wip/gen/m897.py) ===== -/
theorem zc_gt_f {x y : Nat} (hx : x < 2147483648) (hy : y < 2147483648) (h : x ≤ y) : zCmp 4 x y = false := by
  show zlt y x = false
  rw [zlt_iff hy hx, decide_eq_false (by omega)]
theorem zc_gt_t {x y : Nat} (hx : x < 2147483648) (hy : y < 2147483648) (h : y < x) : zCmp 4 x y = true := by
  show zlt y x = true
  rw [zlt_iff hy hx, decide_eq_true h]
section BG
variable {sc : List Nat} {Q : Nat → zM → Prop} {frs : gCf} {m : zM} {a : Nat → Nat} {u B : Nat}
theorem m52_1 {k x : Nat} (hW : oW a u m) (hk : k < a 1) (g : gFin1 sc Q frs 52 (a (100 + 8 * k + 1)) m) : gFin sc Q frs 52 0 [bR 0 0, k, 1, x] [] m := by
  obtain ⟨p, hS⟩ := hW.1
  have h17 := hS.2.1.2.1.2
  have hp := hS.2.1.1.1 k (by omega)
  refine h_ldr (w := 259) (pc2 := 1) (by decide +kernel) (by decide +kernel) rfl r00 ?_
  refine s_getO (w := 12089258197553666643919638) (pc2 := 4) (by decide +kernel) (c := 0) (by decide +kernel) hW (v := bR 1 0) (Or.inl ⟨rfl, rfl⟩) ?_
  refine h_ldi (w := 65794) (pc2 := 5) (by decide +kernel) (by decide +kernel) rfl (by omega) ?_
  refine h_cv (w := 66497634694210384839574309) (c := 8) (n := 1) (by decide +kernel) (by decide +kernel) rfl (zA_H hS) ⟨Nat.le_of_ble_eq_true rfl, Nat.le_of_ble_eq_true rfl⟩ (show ∀ cx ∈ [k, bR 1 0], cx < 8589934592 from zl_c (zlo (by omega)) (zl_c (bR_ref (o := 0) hS.2.1.2.2 (by omega)).2 zl_n)) (st2 := []) rfl (l2 := [bR 1 0, k]) (by show (List.take 2 _).reverse ++ List.replicate (zMaxL 8 - 2) _ = _; rw [show zMaxL 8 = 2 by decide +kernel]; rfl) ?_
  refine m8 hS (by omega) (gF_v (by decide +kernel) ?_)
  rw [show i1 (decide (k < a 1)) = 1 from by rw [decide_eq_true hk]; rfl]
  refine h_if (w := 281474977563409) (pc2 := 13) (by decide +kernel) (b := true) (by decide +kernel) (by decide)  (by decide +kernel) ?_
  refine h_ldr (w := 259) (pc2 := 14) (by decide +kernel) (by decide +kernel) rfl r00 ?_
  refine s_getO (w := 12089258197553666643919638) (pc2 := 17) (by decide +kernel) (c := 0) (by decide +kernel) hW (v := bR 1 0) (Or.inl ⟨rfl, rfl⟩) ?_
  refine s_getHr (w := 70117734431418114537620246) (pc2 := 20) (by decide +kernel) (c := 2) (k := 1) (by decide +kernel) hS.1 hS.2.1 (by decide) ?_
  refine h_ldi (w := 65794) (pc2 := 21) (by decide +kernel) (by decide +kernel) rfl (by omega) ?_
  refine s_aldA (w := 286) (pc2 := 22) (by decide +kernel) (by decide +kernel) hS.1 hS.2.1 (by omega) ?_
  refine h_str (w := 196869) (pc2 := 23) (by decide +kernel) (n := 4) (by decide +kernel) rfl (bR_ref (o := (8 + p k)) hS.2.1.2.2 (by omega)) (ls2 := [bR 0 0, k, 1, (bR 1 (8 + p k))]) rfl ?_
  refine h_ldi (w := 131330) (pc2 := 24) (by decide +kernel) (by decide +kernel) rfl (by decide) ?_
  refine h_sw (w := 12308) (pc2 := 77) (by decide +kernel) (by decide +kernel) (by decide) ?_
  refine h_ldr (w := 196867) (pc2 := 78) (by decide +kernel) (by decide +kernel) rfl (bR_ref (o := (8 + p k)) hS.2.1.2.2 (by omega)) ?_
  refine s_getA (w := 85833751639382745118016278) (pc2 := 81) (by decide +kernel) (c := 1) (by decide +kernel) hS.1 hS.2.1 hk ?_
  exact h_ret (w := 301) (by decide +kernel) (by decide +kernel) (hS.2.1.2.1.1 _) (fun h => absurd h (by decide +kernel)) g
theorem m52_2 {k x : Nat} (hW : oW a u m) (hk : k < a 1) (g : gFin1 sc Q frs 52 (a (100 + 8 * k + 2)) m) : gFin sc Q frs 52 0 [bR 0 0, k, 2, x] [] m := by
  obtain ⟨p, hS⟩ := hW.1
  have h17 := hS.2.1.2.1.2
  have hp := hS.2.1.1.1 k (by omega)
  refine h_ldr (w := 259) (pc2 := 1) (by decide +kernel) (by decide +kernel) rfl r00 ?_
  refine s_getO (w := 12089258197553666643919638) (pc2 := 4) (by decide +kernel) (c := 0) (by decide +kernel) hW (v := bR 1 0) (Or.inl ⟨rfl, rfl⟩) ?_
  refine h_ldi (w := 65794) (pc2 := 5) (by decide +kernel) (by decide +kernel) rfl (by omega) ?_
  refine h_cv (w := 66497634694210384839574309) (c := 8) (n := 1) (by decide +kernel) (by decide +kernel) rfl (zA_H hS) ⟨Nat.le_of_ble_eq_true rfl, Nat.le_of_ble_eq_true rfl⟩ (show ∀ cx ∈ [k, bR 1 0], cx < 8589934592 from zl_c (zlo (by omega)) (zl_c (bR_ref (o := 0) hS.2.1.2.2 (by omega)).2 zl_n)) (st2 := []) rfl (l2 := [bR 1 0, k]) (by show (List.take 2 _).reverse ++ List.replicate (zMaxL 8 - 2) _ = _; rw [show zMaxL 8 = 2 by decide +kernel]; rfl) ?_
  refine m8 hS (by omega) (gF_v (by decide +kernel) ?_)
  rw [show i1 (decide (k < a 1)) = 1 from by rw [decide_eq_true hk]; rfl]
  refine h_if (w := 281474977563409) (pc2 := 13) (by decide +kernel) (b := true) (by decide +kernel) (by decide)  (by decide +kernel) ?_
  refine h_ldr (w := 259) (pc2 := 14) (by decide +kernel) (by decide +kernel) rfl r00 ?_
  refine s_getO (w := 12089258197553666643919638) (pc2 := 17) (by decide +kernel) (c := 0) (by decide +kernel) hW (v := bR 1 0) (Or.inl ⟨rfl, rfl⟩) ?_
  refine s_getHr (w := 70117734431418114537620246) (pc2 := 20) (by decide +kernel) (c := 2) (k := 1) (by decide +kernel) hS.1 hS.2.1 (by decide) ?_
  refine h_ldi (w := 65794) (pc2 := 21) (by decide +kernel) (by decide +kernel) rfl (by omega) ?_
  refine s_aldA (w := 286) (pc2 := 22) (by decide +kernel) (by decide +kernel) hS.1 hS.2.1 (by omega) ?_
  refine h_str (w := 196869) (pc2 := 23) (by decide +kernel) (n := 4) (by decide +kernel) rfl (bR_ref (o := (8 + p k)) hS.2.1.2.2 (by omega)) (ls2 := [bR 0 0, k, 2, (bR 1 (8 + p k))]) rfl ?_
  refine h_ldi (w := 131330) (pc2 := 24) (by decide +kernel) (by decide +kernel) rfl (by decide) ?_
  refine h_sw (w := 12308) (pc2 := 82) (by decide +kernel) (by decide +kernel) (by decide) ?_
  refine h_ldr (w := 196867) (pc2 := 83) (by decide +kernel) (by decide +kernel) rfl (bR_ref (o := (8 + p k)) hS.2.1.2.2 (by omega)) ?_
  refine s_getA (w := 74953437709595156255408918) (pc2 := 86) (by decide +kernel) (c := 2) (by decide +kernel) hS.1 hS.2.1 hk ?_
  exact h_ret (w := 301) (by decide +kernel) (by decide +kernel) (hS.2.1.2.1.1 _) (fun h => absurd h (by decide +kernel)) g
theorem m52_3 {k x : Nat} (hW : oW a u m) (hk : k < a 1) (g : gFin1 sc Q frs 52 (a (100 + 8 * k + 3)) m) : gFin sc Q frs 52 0 [bR 0 0, k, 3, x] [] m := by
  obtain ⟨p, hS⟩ := hW.1
  have h17 := hS.2.1.2.1.2
  have hp := hS.2.1.1.1 k (by omega)
  refine h_ldr (w := 259) (pc2 := 1) (by decide +kernel) (by decide +kernel) rfl r00 ?_
  refine s_getO (w := 12089258197553666643919638) (pc2 := 4) (by decide +kernel) (c := 0) (by decide +kernel) hW (v := bR 1 0) (Or.inl ⟨rfl, rfl⟩) ?_
  refine h_ldi (w := 65794) (pc2 := 5) (by decide +kernel) (by decide +kernel) rfl (by omega) ?_
  refine h_cv (w := 66497634694210384839574309) (c := 8) (n := 1) (by decide +kernel) (by decide +kernel) rfl (zA_H hS) ⟨Nat.le_of_ble_eq_true rfl, Nat.le_of_ble_eq_true rfl⟩ (show ∀ cx ∈ [k, bR 1 0], cx < 8589934592 from zl_c (zlo (by omega)) (zl_c (bR_ref (o := 0) hS.2.1.2.2 (by omega)).2 zl_n)) (st2 := []) rfl (l2 := [bR 1 0, k]) (by show (List.take 2 _).reverse ++ List.replicate (zMaxL 8 - 2) _ = _; rw [show zMaxL 8 = 2 by decide +kernel]; rfl) ?_
  refine m8 hS (by omega) (gF_v (by decide +kernel) ?_)
  rw [show i1 (decide (k < a 1)) = 1 from by rw [decide_eq_true hk]; rfl]
  refine h_if (w := 281474977563409) (pc2 := 13) (by decide +kernel) (b := true) (by decide +kernel) (by decide)  (by decide +kernel) ?_
  refine h_ldr (w := 259) (pc2 := 14) (by decide +kernel) (by decide +kernel) rfl r00 ?_
  refine s_getO (w := 12089258197553666643919638) (pc2 := 17) (by decide +kernel) (c := 0) (by decide +kernel) hW (v := bR 1 0) (Or.inl ⟨rfl, rfl⟩) ?_
  refine s_getHr (w := 70117734431418114537620246) (pc2 := 20) (by decide +kernel) (c := 2) (k := 1) (by decide +kernel) hS.1 hS.2.1 (by decide) ?_
  refine h_ldi (w := 65794) (pc2 := 21) (by decide +kernel) (by decide +kernel) rfl (by omega) ?_
  refine s_aldA (w := 286) (pc2 := 22) (by decide +kernel) (by decide +kernel) hS.1 hS.2.1 (by omega) ?_
  refine h_str (w := 196869) (pc2 := 23) (by decide +kernel) (n := 4) (by decide +kernel) rfl (bR_ref (o := (8 + p k)) hS.2.1.2.2 (by omega)) (ls2 := [bR 0 0, k, 3, (bR 1 (8 + p k))]) rfl ?_
  refine h_ldi (w := 131330) (pc2 := 24) (by decide +kernel) (by decide +kernel) rfl (by decide) ?_
  refine h_sw (w := 12308) (pc2 := 87) (by decide +kernel) (by decide +kernel) (by decide) ?_
  refine h_ldr (w := 196867) (pc2 := 88) (by decide +kernel) (by decide +kernel) rfl (bR_ref (o := (8 + p k)) hS.2.1.2.2 (by omega)) ?_
  refine s_getA (w := 117265859842851251079938838) (pc2 := 91) (by decide +kernel) (c := 3) (by decide +kernel) hS.1 hS.2.1 hk ?_
  exact h_ret (w := 301) (by decide +kernel) (by decide +kernel) (hS.2.1.2.1.1 _) (fun h => absurd h (by decide +kernel)) g
theorem m52_4 {k x : Nat} (hW : oW a u m) (hk : k < a 1) (g : gFin1 sc Q frs 52 (i1 (!Nat.beq (a (100 + 8 * k + 4)) 0)) m) : gFin sc Q frs 52 0 [bR 0 0, k, 4, x] [] m := by
  obtain ⟨p, hS⟩ := hW.1
  have h17 := hS.2.1.2.1.2
  have hp := hS.2.1.1.1 k (by omega)
  refine h_ldr (w := 259) (pc2 := 1) (by decide +kernel) (by decide +kernel) rfl r00 ?_
  refine s_getO (w := 12089258197553666643919638) (pc2 := 4) (by decide +kernel) (c := 0) (by decide +kernel) hW (v := bR 1 0) (Or.inl ⟨rfl, rfl⟩) ?_
  refine h_ldi (w := 65794) (pc2 := 5) (by decide +kernel) (by decide +kernel) rfl (by omega) ?_
  refine h_cv (w := 66497634694210384839574309) (c := 8) (n := 1) (by decide +kernel) (by decide +kernel) rfl (zA_H hS) ⟨Nat.le_of_ble_eq_true rfl, Nat.le_of_ble_eq_true rfl⟩ (show ∀ cx ∈ [k, bR 1 0], cx < 8589934592 from zl_c (zlo (by omega)) (zl_c (bR_ref (o := 0) hS.2.1.2.2 (by omega)).2 zl_n)) (st2 := []) rfl (l2 := [bR 1 0, k]) (by show (List.take 2 _).reverse ++ List.replicate (zMaxL 8 - 2) _ = _; rw [show zMaxL 8 = 2 by decide +kernel]; rfl) ?_
  refine m8 hS (by omega) (gF_v (by decide +kernel) ?_)
  rw [show i1 (decide (k < a 1)) = 1 from by rw [decide_eq_true hk]; rfl]
  refine h_if (w := 281474977563409) (pc2 := 13) (by decide +kernel) (b := true) (by decide +kernel) (by decide)  (by decide +kernel) ?_
  refine h_ldr (w := 259) (pc2 := 14) (by decide +kernel) (by decide +kernel) rfl r00 ?_
  refine s_getO (w := 12089258197553666643919638) (pc2 := 17) (by decide +kernel) (c := 0) (by decide +kernel) hW (v := bR 1 0) (Or.inl ⟨rfl, rfl⟩) ?_
  refine s_getHr (w := 70117734431418114537620246) (pc2 := 20) (by decide +kernel) (c := 2) (k := 1) (by decide +kernel) hS.1 hS.2.1 (by decide) ?_
  refine h_ldi (w := 65794) (pc2 := 21) (by decide +kernel) (by decide +kernel) rfl (by omega) ?_
  refine s_aldA (w := 286) (pc2 := 22) (by decide +kernel) (by decide +kernel) hS.1 hS.2.1 (by omega) ?_
  refine h_str (w := 196869) (pc2 := 23) (by decide +kernel) (n := 4) (by decide +kernel) rfl (bR_ref (o := (8 + p k)) hS.2.1.2.2 (by omega)) (ls2 := [bR 0 0, k, 4, (bR 1 (8 + p k))]) rfl ?_
  refine h_ldi (w := 131330) (pc2 := 24) (by decide +kernel) (by decide +kernel) rfl (by decide) ?_
  refine h_sw (w := 12308) (pc2 := 92) (by decide +kernel) (by decide +kernel) (by decide) ?_
  refine h_ldr (w := 196867) (pc2 := 93) (by decide +kernel) (by decide +kernel) rfl (bR_ref (o := (8 + p k)) hS.2.1.2.2 (by omega)) ?_
  refine s_getA (w := 100340916814990516343735062) (pc2 := 96) (by decide +kernel) (c := 4) (by decide +kernel) hS.1 hS.2.1 hk ?_
  by_cases q0 : a (100 + 8 * k + 4) = 0
  · rw [nb_eq.mpr q0] at g
    refine h_if (w := 6750993) (pc2 := 103) (by decide +kernel) (b := true) (by decide +kernel) (hS.2.1.2.1.1 _)  (zc_eq_t q0) ?_
    refine h_con (w := 257) (pc2 := 104) (by decide +kernel) (v := 0) (by decide +kernel) ?_
    exact h_ret (w := 301) (by decide +kernel) (by decide +kernel) (by decide) (fun h => absurd h (by decide +kernel)) g
  · rw [nb_ne.mpr q0] at g
    refine h_if (w := 6750993) (pc2 := 99) (by decide +kernel) (b := false) (by decide +kernel) (hS.2.1.2.1.1 _)  (zc_eq_f q0) ?_
    refine h_con (w := 65793) (pc2 := 100) (by decide +kernel) (v := 1) (by decide +kernel) ?_
    refine h_goto (w := 6816531) (pc2 := 104) (by decide +kernel) (by decide +kernel) ?_
    exact h_ret (w := 301) (by decide +kernel) (by decide +kernel) (by decide) (fun h => absurd h (by decide +kernel)) g
theorem m52_5 {k x : Nat} (hW : oW a u m) (hk : k < a 1) (g : gFin1 sc Q frs 52 (a (100 + 8 * k + 5)) m) : gFin sc Q frs 52 0 [bR 0 0, k, 5, x] [] m := by
  obtain ⟨p, hS⟩ := hW.1
  have h17 := hS.2.1.2.1.2
  have hp := hS.2.1.1.1 k (by omega)
  refine h_ldr (w := 259) (pc2 := 1) (by decide +kernel) (by decide +kernel) rfl r00 ?_
  refine s_getO (w := 12089258197553666643919638) (pc2 := 4) (by decide +kernel) (c := 0) (by decide +kernel) hW (v := bR 1 0) (Or.inl ⟨rfl, rfl⟩) ?_
  refine h_ldi (w := 65794) (pc2 := 5) (by decide +kernel) (by decide +kernel) rfl (by omega) ?_
  refine h_cv (w := 66497634694210384839574309) (c := 8) (n := 1) (by decide +kernel) (by decide +kernel) rfl (zA_H hS) ⟨Nat.le_of_ble_eq_true rfl, Nat.le_of_ble_eq_true rfl⟩ (show ∀ cx ∈ [k, bR 1 0], cx < 8589934592 from zl_c (zlo (by omega)) (zl_c (bR_ref (o := 0) hS.2.1.2.2 (by omega)).2 zl_n)) (st2 := []) rfl (l2 := [bR 1 0, k]) (by show (List.take 2 _).reverse ++ List.replicate (zMaxL 8 - 2) _ = _; rw [show zMaxL 8 = 2 by decide +kernel]; rfl) ?_
  refine m8 hS (by omega) (gF_v (by decide +kernel) ?_)
  rw [show i1 (decide (k < a 1)) = 1 from by rw [decide_eq_true hk]; rfl]
  refine h_if (w := 281474977563409) (pc2 := 13) (by decide +kernel) (b := true) (by decide +kernel) (by decide)  (by decide +kernel) ?_
  refine h_ldr (w := 259) (pc2 := 14) (by decide +kernel) (by decide +kernel) rfl r00 ?_
  refine s_getO (w := 12089258197553666643919638) (pc2 := 17) (by decide +kernel) (c := 0) (by decide +kernel) hW (v := bR 1 0) (Or.inl ⟨rfl, rfl⟩) ?_
  refine s_getHr (w := 70117734431418114537620246) (pc2 := 20) (by decide +kernel) (c := 2) (k := 1) (by decide +kernel) hS.1 hS.2.1 (by decide) ?_
  refine h_ldi (w := 65794) (pc2 := 21) (by decide +kernel) (by decide +kernel) rfl (by omega) ?_
  refine s_aldA (w := 286) (pc2 := 22) (by decide +kernel) (by decide +kernel) hS.1 hS.2.1 (by omega) ?_
  refine h_str (w := 196869) (pc2 := 23) (by decide +kernel) (n := 4) (by decide +kernel) rfl (bR_ref (o := (8 + p k)) hS.2.1.2.2 (by omega)) (ls2 := [bR 0 0, k, 5, (bR 1 (8 + p k))]) rfl ?_
  refine h_ldi (w := 131330) (pc2 := 24) (by decide +kernel) (by decide +kernel) rfl (by decide) ?_
  refine h_sw (w := 12308) (pc2 := 105) (by decide +kernel) (by decide +kernel) (by decide) ?_
  refine h_ldr (w := 196867) (pc2 := 106) (by decide +kernel) (by decide +kernel) rfl (bR_ref (o := (8 + p k)) hS.2.1.2.2 (by omega)) ?_
  refine s_getA (w := 188592520093602519807099670) (pc2 := 109) (by decide +kernel) (c := 5) (by decide +kernel) hS.1 hS.2.1 hk ?_
  exact h_ret (w := 301) (by decide +kernel) (by decide +kernel) (hS.2.1.2.1.1 _) (fun h => absurd h (by decide +kernel)) g
theorem m52_7 {k x : Nat} (hW : oW a u m) (hk : k < a 1) (g : gFin1 sc Q frs 52 (mIt a k) m) : gFin sc Q frs 52 0 [bR 0 0, k, 7, x] [] m := by
  obtain ⟨p, hS⟩ := hW.1
  have h17 := hS.2.1.2.1.2
  have hp := hS.2.1.1.1 k (by omega)
  refine h_ldr (w := 259) (pc2 := 1) (by decide +kernel) (by decide +kernel) rfl r00 ?_
  refine s_getO (w := 12089258197553666643919638) (pc2 := 4) (by decide +kernel) (c := 0) (by decide +kernel) hW (v := bR 1 0) (Or.inl ⟨rfl, rfl⟩) ?_
  refine h_ldi (w := 65794) (pc2 := 5) (by decide +kernel) (by decide +kernel) rfl (by omega) ?_
  refine h_cv (w := 66497634694210384839574309) (c := 8) (n := 1) (by decide +kernel) (by decide +kernel) rfl (zA_H hS) ⟨Nat.le_of_ble_eq_true rfl, Nat.le_of_ble_eq_true rfl⟩ (show ∀ cx ∈ [k, bR 1 0], cx < 8589934592 from zl_c (zlo (by omega)) (zl_c (bR_ref (o := 0) hS.2.1.2.2 (by omega)).2 zl_n)) (st2 := []) rfl (l2 := [bR 1 0, k]) (by show (List.take 2 _).reverse ++ List.replicate (zMaxL 8 - 2) _ = _; rw [show zMaxL 8 = 2 by decide +kernel]; rfl) ?_
  refine m8 hS (by omega) (gF_v (by decide +kernel) ?_)
  rw [show i1 (decide (k < a 1)) = 1 from by rw [decide_eq_true hk]; rfl]
  refine h_if (w := 281474977563409) (pc2 := 13) (by decide +kernel) (b := true) (by decide +kernel) (by decide)  (by decide +kernel) ?_
  refine h_ldr (w := 259) (pc2 := 14) (by decide +kernel) (by decide +kernel) rfl r00 ?_
  refine s_getO (w := 12089258197553666643919638) (pc2 := 17) (by decide +kernel) (c := 0) (by decide +kernel) hW (v := bR 1 0) (Or.inl ⟨rfl, rfl⟩) ?_
  refine s_getHr (w := 70117734431418114537620246) (pc2 := 20) (by decide +kernel) (c := 2) (k := 1) (by decide +kernel) hS.1 hS.2.1 (by decide) ?_
  refine h_ldi (w := 65794) (pc2 := 21) (by decide +kernel) (by decide +kernel) rfl (by omega) ?_
  refine s_aldA (w := 286) (pc2 := 22) (by decide +kernel) (by decide +kernel) hS.1 hS.2.1 (by omega) ?_
  refine h_str (w := 196869) (pc2 := 23) (by decide +kernel) (n := 4) (by decide +kernel) rfl (bR_ref (o := (8 + p k)) hS.2.1.2.2 (by omega)) (ls2 := [bR 0 0, k, 7, (bR 1 (8 + p k))]) rfl ?_
  refine h_ldi (w := 131330) (pc2 := 24) (by decide +kernel) (by decide +kernel) rfl (by decide) ?_
  refine h_sw (w := 12308) (pc2 := 115) (by decide +kernel) (by decide +kernel) (by decide) ?_
  refine h_ldr (w := 196867) (pc2 := 116) (by decide +kernel) (by decide +kernel) rfl (bR_ref (o := (8 + p k)) hS.2.1.2.2 (by omega)) ?_
  have hm : mIt a k < 4294967296 := by unfold mIt; cases Nat.beq (mAw a k) 0; exact hS.2.1.2.1.1 _; exact (show 0 < 4294967296 by decide)
  refine h_cv (w := 193434919540441268045021989) (c := 5) (n := 0) (by decide +kernel) (by decide +kernel) rfl (zA_A hS (by omega)) ⟨Nat.le_of_ble_eq_true rfl, Nat.le_of_ble_eq_true rfl⟩ (show ∀ cx ∈ [(bR 1 (8 + p k))], cx < 8589934592 from zl_c (bR_ref (o := (8 + p k)) hS.2.1.2.2 (by omega)).2 zl_n) (st2 := []) rfl (l2 := [(bR 1 (8 + p k))]) (by show (List.take 1 _).reverse ++ List.replicate (zMaxL 5 - 1) _ = _; rw [show zMaxL 5 = 1 by decide +kernel]; rfl) ?_
  refine m5 hS hk (gF_v (by decide +kernel) ?_)
  exact h_ret (w := 301) (by decide +kernel) (by decide +kernel) hm (fun h => absurd h (by decide +kernel)) g
theorem m53_0 {q x : Nat} (hW : oW a u m) (hq : q < 12) (g : gFin1 sc Q frs 53 (sm (a 1) (fAt a q 0) + sm (a 1) (fAt a q 1)) m) : gFin sc Q frs 53 0 [bR 0 0, q, 0, x] [] m := by
  obtain ⟨p, hS⟩ := hW.1
  have h17 := hS.2.1.2.1.2
  refine h_ldi (w := 65794) (pc2 := 1) (by decide +kernel) (by decide +kernel) rfl (by omega) ?_
  refine h_c8 (w := 49572913026997059644293926) (c := 56) (n := 1) (by decide +kernel) (by decide +kernel) ⟨Nat.le_of_ble_eq_true rfl, Nat.le_of_ble_eq_true rfl⟩ (show ∀ cx ∈ [q], cx < 8589934592 from zl_c (zlo (by omega)) zl_n) (st2 := []) rfl (l2 := [q]) (by show (List.take 1 _).reverse ++ List.replicate (zMaxL 56 - 1) _ = _; rw [show zMaxL 56 = 1 by decide +kernel]; rfl) ?_
  refine m56 hq (gF_v (by decide +kernel) ?_)
  refine h_if (w := 281474977301265) (pc2 := 9) (by decide +kernel) (b := true) (by decide +kernel) (by decide)  (by decide +kernel) ?_
  refine h_ldr (w := 259) (pc2 := 10) (by decide +kernel) (by decide +kernel) rfl r00 ?_
  refine s_getO (w := 12089258197553666643919638) (pc2 := 13) (by decide +kernel) (c := 0) (by decide +kernel) hW (v := bR 1 0) (Or.inl ⟨rfl, rfl⟩) ?_
  refine s_getHr (w := 80998085254693850819658518) (pc2 := 16) (by decide +kernel) (c := 3) (k := 2) (by decide +kernel) hS.1 hS.2.1 (by decide) ?_
  refine h_ldi (w := 65794) (pc2 := 17) (by decide +kernel) (by decide +kernel) rfl (by omega) ?_
  refine s_aldL (w := 286) (pc2 := 18) (by decide +kernel) (by decide +kernel) hS.1 hS.2.1 hq ?_
  refine h_str (w := 196869) (pc2 := 19) (by decide +kernel) (n := 4) (by decide +kernel) rfl (bR_ref (o := (25 + 3 * q)) hS.2.1.2.2 (by omega)) (ls2 := [bR 0 0, q, 0, (bR 1 (25 + 3 * q))]) rfl ?_
  refine h_ldi (w := 131330) (pc2 := 20) (by decide +kernel) (by decide +kernel) rfl (by decide) ?_
  refine h_sw (w := 76820) (pc2 := 64) (by decide +kernel) (by decide +kernel) (by decide) ?_
  refine h_ldr (w := 259) (pc2 := 65) (by decide +kernel) (by decide +kernel) rfl r00 ?_
  refine s_getO (w := 12089258197553666643919638) (pc2 := 68) (by decide +kernel) (c := 0) (by decide +kernel) hW (v := bR 1 0) (Or.inl ⟨rfl, rfl⟩) ?_
  refine h_ldi (w := 65794) (pc2 := 69) (by decide +kernel) (by decide +kernel) rfl (by omega) ?_
  refine h_con (w := 257) (pc2 := 70) (by decide +kernel) (v := 0) (by decide +kernel) ?_
  have s0 := sm_le (f := fAt a q 0) (fun _ => i1_le) (a 1)
  have s1 := sm_le (f := fAt a q 1) (fun _ => i1_le) (a 1)
  refine h_cv (w := 197061918360776990038688549) (c := 28) (n := 2) (by decide +kernel) (by decide +kernel) rfl (zA_H hS) ⟨Nat.le_of_ble_eq_true rfl, Nat.le_of_ble_eq_true rfl⟩ (show ∀ cx ∈ [0, q, bR 1 0], cx < 8589934592 from zl_c (zlo (by decide)) (zl_c (zlo (by omega)) (zl_c (bR_ref (o := 0) hS.2.1.2.2 (by omega)).2 zl_n))) (st2 := []) rfl (l2 := [bR 1 0, q, 0, 1099511627776, 1099511627776]) (by show (List.take 3 _).reverse ++ List.replicate (zMaxL 28 - 3) _ = _; rw [show zMaxL 28 = 5 by decide +kernel]; rfl) ?_
  refine m28 hS (by omega) (by decide) (gF_v (by decide +kernel) ?_)
  refine h_ldr (w := 259) (pc2 := 74) (by decide +kernel) (by decide +kernel) rfl r00 ?_
  refine s_getO (w := 12089258197553666643919638) (pc2 := 77) (by decide +kernel) (c := 0) (by decide +kernel) hW (v := bR 1 0) (Or.inl ⟨rfl, rfl⟩) ?_
  refine h_ldi (w := 65794) (pc2 := 78) (by decide +kernel) (by decide +kernel) rfl (by omega) ?_
  refine h_con (w := 65793) (pc2 := 79) (by decide +kernel) (v := 1) (by decide +kernel) ?_
  refine h_cv (w := 197061918360776990038688549) (c := 28) (n := 2) (by decide +kernel) (by decide +kernel) rfl (zA_H hS) ⟨Nat.le_of_ble_eq_true rfl, Nat.le_of_ble_eq_true rfl⟩ (show ∀ cx ∈ [1, q, bR 1 0], cx < 8589934592 from zl_c (zlo (by decide)) (zl_c (zlo (by omega)) (zl_c (bR_ref (o := 0) hS.2.1.2.2 (by omega)).2 zl_n))) (st2 := [(sm (a 1) (fAt a q 0))]) rfl (l2 := [bR 1 0, q, 1, 1099511627776, 1099511627776]) (by show (List.take 3 _).reverse ++ List.replicate (zMaxL 28 - 3) _ = _; rw [show zMaxL 28 = 5 by decide +kernel]; rfl) ?_
  refine m28 hS (by omega) (by decide) (gF_v (by decide +kernel) ?_)
  refine h_add (w := 263) (pc2 := 83) (by decide +kernel) (by decide +kernel) (by omega) (by omega) (c := (sm (a 1) (fAt a q 0) + sm (a 1) (fAt a q 1))) (Nat.mod_eq_of_lt (by omega)) ?_
  exact h_ret (w := 301) (by decide +kernel) (by decide +kernel) (by omega) (fun h => absurd h (by decide +kernel)) g
theorem m53_1 {q x : Nat} (hW : oW a u m) (hq : q < 12) (g : gFin1 sc Q frs 53 (sm (a 1) (fAt a q 0)) m) : gFin sc Q frs 53 0 [bR 0 0, q, 1, x] [] m := by
  obtain ⟨p, hS⟩ := hW.1
  have h17 := hS.2.1.2.1.2
  refine h_ldi (w := 65794) (pc2 := 1) (by decide +kernel) (by decide +kernel) rfl (by omega) ?_
  refine h_c8 (w := 49572913026997059644293926) (c := 56) (n := 1) (by decide +kernel) (by decide +kernel) ⟨Nat.le_of_ble_eq_true rfl, Nat.le_of_ble_eq_true rfl⟩ (show ∀ cx ∈ [q], cx < 8589934592 from zl_c (zlo (by omega)) zl_n) (st2 := []) rfl (l2 := [q]) (by show (List.take 1 _).reverse ++ List.replicate (zMaxL 56 - 1) _ = _; rw [show zMaxL 56 = 1 by decide +kernel]; rfl) ?_
  refine m56 hq (gF_v (by decide +kernel) ?_)
  refine h_if (w := 281474977301265) (pc2 := 9) (by decide +kernel) (b := true) (by decide +kernel) (by decide)  (by decide +kernel) ?_
  refine h_ldr (w := 259) (pc2 := 10) (by decide +kernel) (by decide +kernel) rfl r00 ?_
  refine s_getO (w := 12089258197553666643919638) (pc2 := 13) (by decide +kernel) (c := 0) (by decide +kernel) hW (v := bR 1 0) (Or.inl ⟨rfl, rfl⟩) ?_
  refine s_getHr (w := 80998085254693850819658518) (pc2 := 16) (by decide +kernel) (c := 3) (k := 2) (by decide +kernel) hS.1 hS.2.1 (by decide) ?_
  refine h_ldi (w := 65794) (pc2 := 17) (by decide +kernel) (by decide +kernel) rfl (by omega) ?_
  refine s_aldL (w := 286) (pc2 := 18) (by decide +kernel) (by decide +kernel) hS.1 hS.2.1 hq ?_
  refine h_str (w := 196869) (pc2 := 19) (by decide +kernel) (n := 4) (by decide +kernel) rfl (bR_ref (o := (25 + 3 * q)) hS.2.1.2.2 (by omega)) (ls2 := [bR 0 0, q, 1, (bR 1 (25 + 3 * q))]) rfl ?_
  refine h_ldi (w := 131330) (pc2 := 20) (by decide +kernel) (by decide +kernel) rfl (by decide) ?_
  refine h_sw (w := 76820) (pc2 := 84) (by decide +kernel) (by decide +kernel) (by decide) ?_
  refine h_ldr (w := 259) (pc2 := 85) (by decide +kernel) (by decide +kernel) rfl r00 ?_
  refine s_getO (w := 12089258197553666643919638) (pc2 := 88) (by decide +kernel) (c := 0) (by decide +kernel) hW (v := bR 1 0) (Or.inl ⟨rfl, rfl⟩) ?_
  refine h_ldi (w := 65794) (pc2 := 89) (by decide +kernel) (by decide +kernel) rfl (by omega) ?_
  refine h_con (w := 257) (pc2 := 90) (by decide +kernel) (v := 0) (by decide +kernel) ?_
  have s0 := sm_le (f := fAt a q 0) (fun _ => i1_le) (a 1)
  refine h_cv (w := 197061918360776990038688549) (c := 28) (n := 2) (by decide +kernel) (by decide +kernel) rfl (zA_H hS) ⟨Nat.le_of_ble_eq_true rfl, Nat.le_of_ble_eq_true rfl⟩ (show ∀ cx ∈ [0, q, bR 1 0], cx < 8589934592 from zl_c (zlo (by decide)) (zl_c (zlo (by omega)) (zl_c (bR_ref (o := 0) hS.2.1.2.2 (by omega)).2 zl_n))) (st2 := []) rfl (l2 := [bR 1 0, q, 0, 1099511627776, 1099511627776]) (by show (List.take 3 _).reverse ++ List.replicate (zMaxL 28 - 3) _ = _; rw [show zMaxL 28 = 5 by decide +kernel]; rfl) ?_
  refine m28 hS (by omega) (by decide) (gF_v (by decide +kernel) ?_)
  exact h_ret (w := 301) (by decide +kernel) (by decide +kernel) (by omega) (fun h => absurd h (by decide +kernel)) g
theorem m53_2 {q x : Nat} (hW : oW a u m) (hq : q < 12) (g : gFin1 sc Q frs 53 (a (300 + 30 * q + 2)) m) : gFin sc Q frs 53 0 [bR 0 0, q, 2, x] [] m := by
  obtain ⟨p, hS⟩ := hW.1
  have h17 := hS.2.1.2.1.2
  refine h_ldi (w := 65794) (pc2 := 1) (by decide +kernel) (by decide +kernel) rfl (by omega) ?_
  refine h_c8 (w := 49572913026997059644293926) (c := 56) (n := 1) (by decide +kernel) (by decide +kernel) ⟨Nat.le_of_ble_eq_true rfl, Nat.le_of_ble_eq_true rfl⟩ (show ∀ cx ∈ [q], cx < 8589934592 from zl_c (zlo (by omega)) zl_n) (st2 := []) rfl (l2 := [q]) (by show (List.take 1 _).reverse ++ List.replicate (zMaxL 56 - 1) _ = _; rw [show zMaxL 56 = 1 by decide +kernel]; rfl) ?_
  refine m56 hq (gF_v (by decide +kernel) ?_)
  refine h_if (w := 281474977301265) (pc2 := 9) (by decide +kernel) (b := true) (by decide +kernel) (by decide)  (by decide +kernel) ?_
  refine h_ldr (w := 259) (pc2 := 10) (by decide +kernel) (by decide +kernel) rfl r00 ?_
  refine s_getO (w := 12089258197553666643919638) (pc2 := 13) (by decide +kernel) (c := 0) (by decide +kernel) hW (v := bR 1 0) (Or.inl ⟨rfl, rfl⟩) ?_
  refine s_getHr (w := 80998085254693850819658518) (pc2 := 16) (by decide +kernel) (c := 3) (k := 2) (by decide +kernel) hS.1 hS.2.1 (by decide) ?_
  refine h_ldi (w := 65794) (pc2 := 17) (by decide +kernel) (by decide +kernel) rfl (by omega) ?_
  refine s_aldL (w := 286) (pc2 := 18) (by decide +kernel) (by decide +kernel) hS.1 hS.2.1 hq ?_
  refine h_str (w := 196869) (pc2 := 19) (by decide +kernel) (n := 4) (by decide +kernel) rfl (bR_ref (o := (25 + 3 * q)) hS.2.1.2.2 (by omega)) (ls2 := [bR 0 0, q, 2, (bR 1 (25 + 3 * q))]) rfl ?_
  refine h_ldi (w := 131330) (pc2 := 20) (by decide +kernel) (by decide +kernel) rfl (by decide) ?_
  refine h_sw (w := 76820) (pc2 := 94) (by decide +kernel) (by decide +kernel) (by decide) ?_
  refine h_ldr (w := 196867) (pc2 := 95) (by decide +kernel) (by decide +kernel) rfl (bR_ref (o := (25 + 3 * q)) hS.2.1.2.2 (by omega)) ?_
  refine s_getLx (w := 201890685663182316975162134) (pc2 := 98) (by decide +kernel) (c := 4) (by decide +kernel) hS.1 hS.2.1 (q := q) hq (x := 300 + 30 * q + 2) (by omega) ?_
  exact h_ret (w := 301) (by decide +kernel) (by decide +kernel) (hS.2.1.2.1.1 _) (fun h => absurd h (by decide +kernel)) g
theorem m53_3 {q x : Nat} (hW : oW a u m) (hq : q < 12) (g : gFin1 sc Q frs 53 (a (300 + 30 * q + 0)) m) : gFin sc Q frs 53 0 [bR 0 0, q, 3, x] [] m := by
  obtain ⟨p, hS⟩ := hW.1
  have h17 := hS.2.1.2.1.2
  refine h_ldi (w := 65794) (pc2 := 1) (by decide +kernel) (by decide +kernel) rfl (by omega) ?_
  refine h_c8 (w := 49572913026997059644293926) (c := 56) (n := 1) (by decide +kernel) (by decide +kernel) ⟨Nat.le_of_ble_eq_true rfl, Nat.le_of_ble_eq_true rfl⟩ (show ∀ cx ∈ [q], cx < 8589934592 from zl_c (zlo (by omega)) zl_n) (st2 := []) rfl (l2 := [q]) (by show (List.take 1 _).reverse ++ List.replicate (zMaxL 56 - 1) _ = _; rw [show zMaxL 56 = 1 by decide +kernel]; rfl) ?_
  refine m56 hq (gF_v (by decide +kernel) ?_)
  refine h_if (w := 281474977301265) (pc2 := 9) (by decide +kernel) (b := true) (by decide +kernel) (by decide)  (by decide +kernel) ?_
  refine h_ldr (w := 259) (pc2 := 10) (by decide +kernel) (by decide +kernel) rfl r00 ?_
  refine s_getO (w := 12089258197553666643919638) (pc2 := 13) (by decide +kernel) (c := 0) (by decide +kernel) hW (v := bR 1 0) (Or.inl ⟨rfl, rfl⟩) ?_
  refine s_getHr (w := 80998085254693850819658518) (pc2 := 16) (by decide +kernel) (c := 3) (k := 2) (by decide +kernel) hS.1 hS.2.1 (by decide) ?_
  refine h_ldi (w := 65794) (pc2 := 17) (by decide +kernel) (by decide +kernel) rfl (by omega) ?_
  refine s_aldL (w := 286) (pc2 := 18) (by decide +kernel) (by decide +kernel) hS.1 hS.2.1 hq ?_
  refine h_str (w := 196869) (pc2 := 19) (by decide +kernel) (n := 4) (by decide +kernel) rfl (bR_ref (o := (25 + 3 * q)) hS.2.1.2.2 (by omega)) (ls2 := [bR 0 0, q, 3, (bR 1 (25 + 3 * q))]) rfl ?_
  refine h_ldi (w := 131330) (pc2 := 20) (by decide +kernel) (by decide +kernel) rfl (by decide) ?_
  refine h_sw (w := 76820) (pc2 := 99) (by decide +kernel) (by decide +kernel) (by decide) ?_
  refine h_ldr (w := 196867) (pc2 := 100) (by decide +kernel) (by decide +kernel) rfl (bR_ref (o := (25 + 3 * q)) hS.2.1.2.2 (by omega)) ?_
  refine s_getLx (w := 89460547545533656307925782) (pc2 := 103) (by decide +kernel) (c := 2) (by decide +kernel) hS.1 hS.2.1 (q := q) hq (x := 300 + 30 * q + 0) (by omega) ?_
  exact h_ret (w := 301) (by decide +kernel) (by decide +kernel) (hS.2.1.2.1.1 _) (fun h => absurd h (by decide +kernel)) g
theorem mSum_lt {q : Nat} : ∀ (d j s : Nat), s < 4294967296 → mSum a q d j s < 4294967296
  | 0, _, _, h => h
  | d + 1, j, s, _ => mSum_lt d (j + 1) _ add1_lt
theorem m53_4 {q x : Nat} (hW : oW a u m) (hq : q < 12) (h9 : a (300 + 30 * q + 0) ≤ 9) (g : gFin1 sc Q frs 53 (mSum a q (a (300 + 30 * q + 0)) 0 0) m) : gFin sc Q frs 53 0 [bR 0 0, q, 4, x] [] m := by
  obtain ⟨p, hS⟩ := hW.1
  have h17 := hS.2.1.2.1.2
  refine h_ldi (w := 65794) (pc2 := 1) (by decide +kernel) (by decide +kernel) rfl (by omega) ?_
  refine h_c8 (w := 49572913026997059644293926) (c := 56) (n := 1) (by decide +kernel) (by decide +kernel) ⟨Nat.le_of_ble_eq_true rfl, Nat.le_of_ble_eq_true rfl⟩ (show ∀ cx ∈ [q], cx < 8589934592 from zl_c (zlo (by omega)) zl_n) (st2 := []) rfl (l2 := [q]) (by show (List.take 1 _).reverse ++ List.replicate (zMaxL 56 - 1) _ = _; rw [show zMaxL 56 = 1 by decide +kernel]; rfl) ?_
  refine m56 hq (gF_v (by decide +kernel) ?_)
  refine h_if (w := 281474977301265) (pc2 := 9) (by decide +kernel) (b := true) (by decide +kernel) (by decide)  (by decide +kernel) ?_
  refine h_ldr (w := 259) (pc2 := 10) (by decide +kernel) (by decide +kernel) rfl r00 ?_
  refine s_getO (w := 12089258197553666643919638) (pc2 := 13) (by decide +kernel) (c := 0) (by decide +kernel) hW (v := bR 1 0) (Or.inl ⟨rfl, rfl⟩) ?_
  refine s_getHr (w := 80998085254693850819658518) (pc2 := 16) (by decide +kernel) (c := 3) (k := 2) (by decide +kernel) hS.1 hS.2.1 (by decide) ?_
  refine h_ldi (w := 65794) (pc2 := 17) (by decide +kernel) (by decide +kernel) rfl (by omega) ?_
  refine s_aldL (w := 286) (pc2 := 18) (by decide +kernel) (by decide +kernel) hS.1 hS.2.1 hq ?_
  refine h_str (w := 196869) (pc2 := 19) (by decide +kernel) (n := 4) (by decide +kernel) rfl (bR_ref (o := (25 + 3 * q)) hS.2.1.2.2 (by omega)) (ls2 := [bR 0 0, q, 4, (bR 1 (25 + 3 * q))]) rfl ?_
  refine h_ldi (w := 131330) (pc2 := 20) (by decide +kernel) (by decide +kernel) rfl (by decide) ?_
  refine h_sw (w := 76820) (pc2 := 104) (by decide +kernel) (by decide +kernel) (by decide) ?_
  refine h_ldr (w := 196867) (pc2 := 105) (by decide +kernel) (by decide +kernel) rfl (bR_ref (o := (25 + 3 * q)) hS.2.1.2.2 (by omega)) ?_
  have hm := mSum_lt (a := a) (q := q) (a (300 + 30 * q + 0)) 0 0 (by decide)
  refine h_cv (w := 205524472884492739147006757) (c := 37) (n := 0) (by decide +kernel) (by decide +kernel) rfl (zA_L hS (by omega)) ⟨Nat.le_of_ble_eq_true rfl, Nat.le_of_ble_eq_true rfl⟩ (show ∀ cx ∈ [(bR 1 (25 + 3 * q))], cx < 8589934592 from zl_c (bR_ref (o := (25 + 3 * q)) hS.2.1.2.2 (by omega)).2 zl_n) (st2 := []) rfl (l2 := [(bR 1 (25 + 3 * q)), 1099511627776, 1099511627776]) (by show (List.take 1 _).reverse ++ List.replicate (zMaxL 37 - 1) _ = _; rw [show zMaxL 37 = 3 by decide +kernel]; rfl) ?_
  refine m37 hS hq h9 (gF_v (by decide +kernel) ?_)
  exact h_ret (w := 301) (by decide +kernel) (by decide +kernel) hm (fun h => absurd h (by decide +kernel)) g
theorem m53_5 {q x : Nat} (hW : oW a u m) (hq : q < 12) (g : gFin1 sc Q frs 53 (a (300 + 30 * q + 1)) m) : gFin sc Q frs 53 0 [bR 0 0, q, 5, x] [] m := by
  obtain ⟨p, hS⟩ := hW.1
  have h17 := hS.2.1.2.1.2
  refine h_ldi (w := 65794) (pc2 := 1) (by decide +kernel) (by decide +kernel) rfl (by omega) ?_
  refine h_c8 (w := 49572913026997059644293926) (c := 56) (n := 1) (by decide +kernel) (by decide +kernel) ⟨Nat.le_of_ble_eq_true rfl, Nat.le_of_ble_eq_true rfl⟩ (show ∀ cx ∈ [q], cx < 8589934592 from zl_c (zlo (by omega)) zl_n) (st2 := []) rfl (l2 := [q]) (by show (List.take 1 _).reverse ++ List.replicate (zMaxL 56 - 1) _ = _; rw [show zMaxL 56 = 1 by decide +kernel]; rfl) ?_
  refine m56 hq (gF_v (by decide +kernel) ?_)
  refine h_if (w := 281474977301265) (pc2 := 9) (by decide +kernel) (b := true) (by decide +kernel) (by decide)  (by decide +kernel) ?_
  refine h_ldr (w := 259) (pc2 := 10) (by decide +kernel) (by decide +kernel) rfl r00 ?_
  refine s_getO (w := 12089258197553666643919638) (pc2 := 13) (by decide +kernel) (c := 0) (by decide +kernel) hW (v := bR 1 0) (Or.inl ⟨rfl, rfl⟩) ?_
  refine s_getHr (w := 80998085254693850819658518) (pc2 := 16) (by decide +kernel) (c := 3) (k := 2) (by decide +kernel) hS.1 hS.2.1 (by decide) ?_
  refine h_ldi (w := 65794) (pc2 := 17) (by decide +kernel) (by decide +kernel) rfl (by omega) ?_
  refine s_aldL (w := 286) (pc2 := 18) (by decide +kernel) (by decide +kernel) hS.1 hS.2.1 hq ?_
  refine h_str (w := 196869) (pc2 := 19) (by decide +kernel) (n := 4) (by decide +kernel) rfl (bR_ref (o := (25 + 3 * q)) hS.2.1.2.2 (by omega)) (ls2 := [bR 0 0, q, 5, (bR 1 (25 + 3 * q))]) rfl ?_
  refine h_ldi (w := 131330) (pc2 := 20) (by decide +kernel) (by decide +kernel) rfl (by decide) ?_
  refine h_sw (w := 76820) (pc2 := 109) (by decide +kernel) (by decide +kernel) (by decide) ?_
  refine h_ldr (w := 196867) (pc2 := 110) (by decide +kernel) (by decide +kernel) rfl (bR_ref (o := (25 + 3 * q)) hS.2.1.2.2 (by omega)) ?_
  refine s_getLx (w := 209144222134126018313650966) (pc2 := 113) (by decide +kernel) (c := 3) (by decide +kernel) hS.1 hS.2.1 (q := q) hq (x := 300 + 30 * q + 1) (by omega) ?_
  exact h_ret (w := 301) (by decide +kernel) (by decide +kernel) (hS.2.1.2.1.1 _) (fun h => absurd h (by decide +kernel)) g
theorem m53_6 {q x : Nat} (hW : oW a u m) (hq : q < 12) (h9 : a (300 + 30 * q + 0) ≤ 9) (g : ∀ v, (a (300 + 30 * q + 0) = 0 → v = 4294967291) → (a (300 + 30 * q + 0) ≠ 0 → v < 2147483648) → gFin1 sc Q frs 53 v m) : gFin sc Q frs 53 0 [bR 0 0, q, 6, x] [] m := by
  obtain ⟨p, hS⟩ := hW.1
  have h17 := hS.2.1.2.1.2
  refine h_ldi (w := 65794) (pc2 := 1) (by decide +kernel) (by decide +kernel) rfl (by omega) ?_
  refine h_c8 (w := 49572913026997059644293926) (c := 56) (n := 1) (by decide +kernel) (by decide +kernel) ⟨Nat.le_of_ble_eq_true rfl, Nat.le_of_ble_eq_true rfl⟩ (show ∀ cx ∈ [q], cx < 8589934592 from zl_c (zlo (by omega)) zl_n) (st2 := []) rfl (l2 := [q]) (by show (List.take 1 _).reverse ++ List.replicate (zMaxL 56 - 1) _ = _; rw [show zMaxL 56 = 1 by decide +kernel]; rfl) ?_
  refine m56 hq (gF_v (by decide +kernel) ?_)
  refine h_if (w := 281474977301265) (pc2 := 9) (by decide +kernel) (b := true) (by decide +kernel) (by decide)  (by decide +kernel) ?_
  refine h_ldr (w := 259) (pc2 := 10) (by decide +kernel) (by decide +kernel) rfl r00 ?_
  refine s_getO (w := 12089258197553666643919638) (pc2 := 13) (by decide +kernel) (c := 0) (by decide +kernel) hW (v := bR 1 0) (Or.inl ⟨rfl, rfl⟩) ?_
  refine s_getHr (w := 80998085254693850819658518) (pc2 := 16) (by decide +kernel) (c := 3) (k := 2) (by decide +kernel) hS.1 hS.2.1 (by decide) ?_
  refine h_ldi (w := 65794) (pc2 := 17) (by decide +kernel) (by decide +kernel) rfl (by omega) ?_
  refine s_aldL (w := 286) (pc2 := 18) (by decide +kernel) (by decide +kernel) hS.1 hS.2.1 hq ?_
  refine h_str (w := 196869) (pc2 := 19) (by decide +kernel) (n := 4) (by decide +kernel) rfl (bR_ref (o := (25 + 3 * q)) hS.2.1.2.2 (by omega)) (ls2 := [bR 0 0, q, 6, (bR 1 (25 + 3 * q))]) rfl ?_
  refine h_ldi (w := 131330) (pc2 := 20) (by decide +kernel) (by decide +kernel) rfl (by decide) ?_
  refine h_sw (w := 76820) (pc2 := 114) (by decide +kernel) (by decide +kernel) (by decide) ?_
  refine h_ldr (w := 196867) (pc2 := 115) (by decide +kernel) (by decide +kernel) rfl (bR_ref (o := (25 + 3 * q)) hS.2.1.2.2 (by omega)) ?_
  refine s_getLx (w := 89460547545533656307925782) (pc2 := 118) (by decide +kernel) (c := 2) (by decide +kernel) hS.1 hS.2.1 (q := q) hq (x := 300 + 30 * q + 0) (by omega) ?_
  by_cases q0 : a (300 + 30 * q + 0) = 0
  · skip
    refine h_if (w := 281474984968977) (pc2 := 121) (by decide +kernel) (b := false) (by decide +kernel) (hS.2.1.2.1.1 _)  (zc_ne_f q0) ?_
    refine h_con (w := 562949953094145) (pc2 := 123) (by decide +kernel) (v := 4294967291) (by decide +kernel) ?_
    refine h_goto (w := 8979219) (pc2 := 137) (by decide +kernel) (by decide +kernel) ?_
    exact h_ret (w := 301) (by decide +kernel) (by decide +kernel) (by decide) (fun h => absurd h (by decide +kernel)) (g _ (fun _ => rfl) (fun z => absurd q0 z))
  · skip
    refine h_if (w := 281474984968977) (pc2 := 126) (by decide +kernel) (b := true) (by decide +kernel) (hS.2.1.2.1.1 _)  (zc_ne_t q0) ?_
    refine h_ldr (w := 196867) (pc2 := 127) (by decide +kernel) (by decide +kernel) rfl (bR_ref (o := (25 + 3 * q)) hS.2.1.2.2 (by omega)) ?_
    refine h_ldr (w := 259) (pc2 := 128) (by decide +kernel) (by decide +kernel) rfl r00 ?_
    refine s_getO (w := 12089258197553666643919638) (pc2 := 131) (by decide +kernel) (c := 0) (by decide +kernel) hW (v := bR 1 0) (Or.inl ⟨rfl, rfl⟩) ?_
    refine s_getHx (w := 120892581961744392455914262) (pc2 := 134) (by decide +kernel) (c := 0) (x := 0) (by decide +kernel) hS.1 hS.2.1 (by decide) ?_
    refine h_cv (w := 210360249950209025660814117) (c := 38) (n := 1) (by decide +kernel) (by decide +kernel) rfl (zA_L hS (by omega)) ⟨Nat.le_of_ble_eq_true rfl, Nat.le_of_ble_eq_true rfl⟩ (show ∀ cx ∈ [(a 0), (bR 1 (25 + 3 * q))], cx < 8589934592 from zl_c (zlo (hS.2.1.2.1.1 _)) (zl_c (bR_ref (o := (25 + 3 * q)) hS.2.1.2.2 (by omega)).2 zl_n)) (st2 := []) rfl (l2 := [(bR 1 (25 + 3 * q)), (a 0), 1099511627776, 1099511627776]) (by show (List.take 2 _).reverse ++ List.replicate (zMaxL 38 - 2) _ = _; rw [show zMaxL 38 = 4 by decide +kernel]; rfl) ?_
    refine m38 hS hq h9 (hS.2.1.2.1.1 _) (fun v hv => gF_v (by decide +kernel) ?_)
    exact h_ret (w := 301) (by decide +kernel) (by decide +kernel) (by omega) (fun h => absurd h (by decide +kernel)) (g v (fun z => absurd z q0) (fun _ => hv))
theorem m54_0 {t x : Nat} (hW : oW a u m) (hI : vI B a) (hB : B < 90000) (ht : 1 ≤ t ∧ t ≤ 60) (g : ∀ m', oW a u m' → gFin1 sc Q frs 54 (sub1 (mPs t a 2) (a 2)) m') : gFin sc Q frs 54 0 [bR 0 0, t, 0] [] m := by
  obtain ⟨p, hS⟩ := hW.1
  have hT := aT_v hI.1.2.1
  obtain ⟨r, e, hX⟩ := hW.2.2.2 124 (Or.inl rfl)
  refine h_ldi (w := 65794) (pc2 := 1) (by decide +kernel) (by decide +kernel) rfl (by omega) ?_
  refine h_con (w := 65793) (pc2 := 2) (by decide +kernel) (v := 1) (by decide +kernel) ?_
  refine h_icmp (w := 562949954798354) (pc2 := 5) (by decide +kernel) (b := false) (by decide +kernel) (by omega) (by decide) (zc_lt_f (by omega) (by decide) (by omega)) ?_
  refine h_ldi (w := 65794) (pc2 := 6) (by decide +kernel) (by decide +kernel) rfl (by omega) ?_
  refine h_con (w := 562949966529281) (pc2 := 9) (by decide +kernel) (v := 200) (by decide +kernel) ?_
  refine h_icmp (w := 1125899908219666) (pc2 := 12) (by decide +kernel) (b := false) (by decide +kernel) (by omega) (by decide) (zc_gt_f (by omega) (by decide) (by omega)) ?_
  refine h_ldi (w := 131330) (pc2 := 13) (by decide +kernel) (by decide +kernel) rfl (by decide) ?_
  refine h_if (w := 562949954798353) (pc2 := 16) (by decide +kernel) (b := false) (by decide +kernel) (by decide)  (by decide +kernel) ?_
  refine h_ldi (w := 131330) (pc2 := 17) (by decide +kernel) (by decide +kernel) rfl (by decide) ?_
  refine h_con (w := 196865) (pc2 := 18) (by decide +kernel) (v := 3) (by decide +kernel) ?_
  refine h_icmp (w := 1407374885126930) (pc2 := 24) (by decide +kernel) (b := true) (by decide +kernel) (by decide) (by decide) (by decide +kernel) ?_
  refine h_ldr (w := 259) (pc2 := 25) (by decide +kernel) (by decide +kernel) rfl r00 ?_
  refine s_getO (w := 37476792643181247860835094) (pc2 := 28) (by decide +kernel) (c := 5) (by decide +kernel) hW (v := bR 124 0) (Or.inr (Or.inr (Or.inr ⟨rfl, rfl⟩))) ?_
  refine h_ldr (w := 259) (pc2 := 29) (by decide +kernel) (by decide +kernel) rfl r00 ?_
  refine s_getO (w := 12089258197553666643919638) (pc2 := 32) (by decide +kernel) (c := 0) (by decide +kernel) hW (v := bR 1 0) (Or.inl ⟨rfl, rfl⟩) ?_
  refine h_cv (w := 183760948886379463996539685) (c := 7) (n := 1) (by decide +kernel) (by decide +kernel) rfl (zA_H hX) ⟨Nat.le_of_ble_eq_true rfl, Nat.le_of_ble_eq_true rfl⟩ (show ∀ cx ∈ [bR 1 0, bR 124 0], cx < 8589934592 from zl_c (bR_ref (o := 0) hS.2.1.2.2 (by omega)).2 (zl_c (bR_ref (o := 0) hX.2.1.2.2 (by omega)).2 zl_n)) (st2 := []) rfl (l2 := [bR 124 0, bR 1 0, 1099511627776]) (by show (List.take 2 _).reverse ++ List.replicate (zMaxL 7 - 2) _ = _; rw [show zMaxL 7 = 3 by decide +kernel]; rfl) ?_
  refine m7 (by decide) hS hT hX (fun m1 hX1 => gF_0 (by decide +kernel) ?_)
  have hS1 := bS_ot (by decide) hX1 hS
  have hW1 := oW_tr hW (Or.inl rfl) hX1
  refine h_ldr (w := 259) (pc2 := 36) (by decide +kernel) (by decide +kernel) rfl r00 ?_
  refine s_getO (w := 37476792643181247860835094) (pc2 := 39) (by decide +kernel) (c := 5) (by decide +kernel) hW1 (v := bR 124 0) (Or.inr (Or.inr (Or.inr ⟨rfl, rfl⟩))) ?_
  refine h_ldi (w := 65794) (pc2 := 40) (by decide +kernel) (by decide +kernel) rfl (by omega) ?_
  refine h_cv (w := 160791745695327057578099493) (c := 13) (n := 1) (by decide +kernel) (by decide +kernel) rfl (zA_H hX1) ⟨Nat.le_of_ble_eq_true rfl, Nat.le_of_ble_eq_true rfl⟩ (show ∀ cx ∈ [t, bR 124 0], cx < 8589934592 from zl_c (zlo (by omega)) (zl_c (bR_ref (o := 0) hX1.2.1.2.2 (by omega)).2 zl_n)) (st2 := []) rfl (l2 := [bR 124 0, t, 1099511627776]) (by show (List.take 2 _).reverse ++ List.replicate (zMaxL 13 - 2) _ = _; rw [show zMaxL 13 = 3 by decide +kernel]; rfl) ?_
  refine m13 hX1 (by omega) (run_ok hI (show B + t < 1000000 by omega)).1 (fun m2 hX2 => gF_0 (by decide +kernel) ?_)
  have hX3 : bS 124 r (mPs t a) m1 m2 := ⟨hX2.1, hX2.2.1, ⟨hX2.2.2.1.trans hX1.2.2.1.symm, fun k hk => (hX2.2.2.2 k hk).trans (hX1.2.2.2 k hk).symm⟩⟩
  have hS2 := bS_ot (by decide) hX3 hS1
  have hW2 := oW_tr hW1 (Or.inl rfl) hX3
  refine h_ldi (w := 131330) (pc2 := 44) (by decide +kernel) (by decide +kernel) rfl (by decide) ?_
  refine h_sw (w := 138260) (pc2 := 72) (by decide +kernel) (by decide +kernel) (by decide) ?_
  refine h_ldr (w := 259) (pc2 := 73) (by decide +kernel) (by decide +kernel) rfl r00 ?_
  refine s_getO (w := 37476792643181247860835094) (pc2 := 76) (by decide +kernel) (c := 5) (by decide +kernel) hW2 (v := bR 124 0) (Or.inr (Or.inr (Or.inr ⟨rfl, rfl⟩))) ?_
  refine s_getHx (w := 157160504124135857374561046) (pc2 := 79) (by decide +kernel) (c := 8) (x := 2) (by decide +kernel) hX3.1 hX3.2.1 (by decide) ?_
  refine h_ldr (w := 259) (pc2 := 80) (by decide +kernel) (by decide +kernel) rfl r00 ?_
  refine s_getO (w := 12089258197553666643919638) (pc2 := 83) (by decide +kernel) (c := 0) (by decide +kernel) hW2 (v := bR 1 0) (Or.inl ⟨rfl, rfl⟩) ?_
  refine s_getHx (w := 157160504124135857374561046) (pc2 := 86) (by decide +kernel) (c := 8) (x := 2) (by decide +kernel) hS2.1 hS2.2.1 (by decide) ?_
  refine h_sub (w := 264) (pc2 := 87) (by decide +kernel) (by decide +kernel) (hX3.2.1.2.1.1 _) (hS2.2.1.2.1.1 _) (c := (sub1 (mPs t a 2) (a 2))) sub1_eq ?_
  exact h_ret (w := 301) (by decide +kernel) (by decide +kernel) sub1_lt (fun h => absurd h (by decide +kernel)) (g _ hW2)
theorem m54_1 {t x : Nat} (hW : oW a u m) (hI : vI B a) (hB : B < 90000) (ht : 1 ≤ t ∧ t ≤ 60) (g : ∀ m', oW a u m' → gFin1 sc Q frs 54 (mWt (mPs t a) 12 0 0) m') : gFin sc Q frs 54 0 [bR 0 0, t, 1] [] m := by
  obtain ⟨p, hS⟩ := hW.1
  have hT := aT_v hI.1.2.1
  obtain ⟨r, e, hX⟩ := hW.2.2.2 124 (Or.inl rfl)
  refine h_ldi (w := 65794) (pc2 := 1) (by decide +kernel) (by decide +kernel) rfl (by omega) ?_
  refine h_con (w := 65793) (pc2 := 2) (by decide +kernel) (v := 1) (by decide +kernel) ?_
  refine h_icmp (w := 562949954798354) (pc2 := 5) (by decide +kernel) (b := false) (by decide +kernel) (by omega) (by decide) (zc_lt_f (by omega) (by decide) (by omega)) ?_
  refine h_ldi (w := 65794) (pc2 := 6) (by decide +kernel) (by decide +kernel) rfl (by omega) ?_
  refine h_con (w := 562949966529281) (pc2 := 9) (by decide +kernel) (v := 200) (by decide +kernel) ?_
  refine h_icmp (w := 1125899908219666) (pc2 := 12) (by decide +kernel) (b := false) (by decide +kernel) (by omega) (by decide) (zc_gt_f (by omega) (by decide) (by omega)) ?_
  refine h_ldi (w := 131330) (pc2 := 13) (by decide +kernel) (by decide +kernel) rfl (by decide) ?_
  refine h_if (w := 562949954798353) (pc2 := 16) (by decide +kernel) (b := false) (by decide +kernel) (by decide)  (by decide +kernel) ?_
  refine h_ldi (w := 131330) (pc2 := 17) (by decide +kernel) (by decide +kernel) rfl (by decide) ?_
  refine h_con (w := 196865) (pc2 := 18) (by decide +kernel) (v := 3) (by decide +kernel) ?_
  refine h_icmp (w := 1407374885126930) (pc2 := 24) (by decide +kernel) (b := true) (by decide +kernel) (by decide) (by decide) (by decide +kernel) ?_
  refine h_ldr (w := 259) (pc2 := 25) (by decide +kernel) (by decide +kernel) rfl r00 ?_
  refine s_getO (w := 37476792643181247860835094) (pc2 := 28) (by decide +kernel) (c := 5) (by decide +kernel) hW (v := bR 124 0) (Or.inr (Or.inr (Or.inr ⟨rfl, rfl⟩))) ?_
  refine h_ldr (w := 259) (pc2 := 29) (by decide +kernel) (by decide +kernel) rfl r00 ?_
  refine s_getO (w := 12089258197553666643919638) (pc2 := 32) (by decide +kernel) (c := 0) (by decide +kernel) hW (v := bR 1 0) (Or.inl ⟨rfl, rfl⟩) ?_
  refine h_cv (w := 183760948886379463996539685) (c := 7) (n := 1) (by decide +kernel) (by decide +kernel) rfl (zA_H hX) ⟨Nat.le_of_ble_eq_true rfl, Nat.le_of_ble_eq_true rfl⟩ (show ∀ cx ∈ [bR 1 0, bR 124 0], cx < 8589934592 from zl_c (bR_ref (o := 0) hS.2.1.2.2 (by omega)).2 (zl_c (bR_ref (o := 0) hX.2.1.2.2 (by omega)).2 zl_n)) (st2 := []) rfl (l2 := [bR 124 0, bR 1 0, 1099511627776]) (by show (List.take 2 _).reverse ++ List.replicate (zMaxL 7 - 2) _ = _; rw [show zMaxL 7 = 3 by decide +kernel]; rfl) ?_
  refine m7 (by decide) hS hT hX (fun m1 hX1 => gF_0 (by decide +kernel) ?_)
  have hS1 := bS_ot (by decide) hX1 hS
  have hW1 := oW_tr hW (Or.inl rfl) hX1
  refine h_ldr (w := 259) (pc2 := 36) (by decide +kernel) (by decide +kernel) rfl r00 ?_
  refine s_getO (w := 37476792643181247860835094) (pc2 := 39) (by decide +kernel) (c := 5) (by decide +kernel) hW1 (v := bR 124 0) (Or.inr (Or.inr (Or.inr ⟨rfl, rfl⟩))) ?_
  refine h_ldi (w := 65794) (pc2 := 40) (by decide +kernel) (by decide +kernel) rfl (by omega) ?_
  refine h_cv (w := 160791745695327057578099493) (c := 13) (n := 1) (by decide +kernel) (by decide +kernel) rfl (zA_H hX1) ⟨Nat.le_of_ble_eq_true rfl, Nat.le_of_ble_eq_true rfl⟩ (show ∀ cx ∈ [t, bR 124 0], cx < 8589934592 from zl_c (zlo (by omega)) (zl_c (bR_ref (o := 0) hX1.2.1.2.2 (by omega)).2 zl_n)) (st2 := []) rfl (l2 := [bR 124 0, t, 1099511627776]) (by show (List.take 2 _).reverse ++ List.replicate (zMaxL 13 - 2) _ = _; rw [show zMaxL 13 = 3 by decide +kernel]; rfl) ?_
  refine m13 hX1 (by omega) (run_ok hI (show B + t < 1000000 by omega)).1 (fun m2 hX2 => gF_0 (by decide +kernel) ?_)
  have hX3 : bS 124 r (mPs t a) m1 m2 := ⟨hX2.1, hX2.2.1, ⟨hX2.2.2.1.trans hX1.2.2.1.symm, fun k hk => (hX2.2.2.2 k hk).trans (hX1.2.2.2 k hk).symm⟩⟩
  have hS2 := bS_ot (by decide) hX3 hS1
  have hW2 := oW_tr hW1 (Or.inl rfl) hX3
  refine h_ldi (w := 131330) (pc2 := 44) (by decide +kernel) (by decide +kernel) rfl (by decide) ?_
  refine h_sw (w := 138260) (pc2 := 88) (by decide +kernel) (by decide +kernel) (by decide) ?_
  refine h_ldr (w := 259) (pc2 := 89) (by decide +kernel) (by decide +kernel) rfl r00 ?_
  refine s_getO (w := 37476792643181247860835094) (pc2 := 92) (by decide +kernel) (c := 5) (by decide +kernel) hW2 (v := bR 124 0) (Or.inr (Or.inr (Or.inr ⟨rfl, rfl⟩))) ?_
  refine h_cv (w := 152330851377733517400736549) (c := 26) (n := 0) (by decide +kernel) (by decide +kernel) rfl (zA_H hX3) ⟨Nat.le_of_ble_eq_true rfl, Nat.le_of_ble_eq_true rfl⟩ (show ∀ cx ∈ [bR 124 0], cx < 8589934592 from zl_c (bR_ref (o := 0) hX3.2.1.2.2 (by omega)).2 zl_n) (st2 := []) rfl (l2 := [bR 124 0, 1099511627776, 1099511627776]) (by show (List.take 1 _).reverse ++ List.replicate (zMaxL 26 - 1) _ = _; rw [show zMaxL 26 = 3 by decide +kernel]; rfl) ?_
  refine m26 hX3 (gF_v (by decide +kernel) ?_)
  exact h_ret (w := 301) (by decide +kernel) (by decide +kernel) (mWt_lt 12 0 0 (by decide)) (fun h => absurd h (by decide +kernel)) (g _ hW2)
theorem m54_2 {t x : Nat} (hW : oW a u m) (hI : vI B a) (hB : B < 90000) (ht : 1 ≤ t ∧ t ≤ 60) (g : ∀ m', oW a u m' → gFin1 sc Q frs 54 (sub1 (mPs t a 4) (a 4)) m') : gFin sc Q frs 54 0 [bR 0 0, t, 2] [] m := by
  obtain ⟨p, hS⟩ := hW.1
  have hT := aT_v hI.1.2.1
  obtain ⟨r, e, hX⟩ := hW.2.2.2 124 (Or.inl rfl)
  refine h_ldi (w := 65794) (pc2 := 1) (by decide +kernel) (by decide +kernel) rfl (by omega) ?_
  refine h_con (w := 65793) (pc2 := 2) (by decide +kernel) (v := 1) (by decide +kernel) ?_
  refine h_icmp (w := 562949954798354) (pc2 := 5) (by decide +kernel) (b := false) (by decide +kernel) (by omega) (by decide) (zc_lt_f (by omega) (by decide) (by omega)) ?_
  refine h_ldi (w := 65794) (pc2 := 6) (by decide +kernel) (by decide +kernel) rfl (by omega) ?_
  refine h_con (w := 562949966529281) (pc2 := 9) (by decide +kernel) (v := 200) (by decide +kernel) ?_
  refine h_icmp (w := 1125899908219666) (pc2 := 12) (by decide +kernel) (b := false) (by decide +kernel) (by omega) (by decide) (zc_gt_f (by omega) (by decide) (by omega)) ?_
  refine h_ldi (w := 131330) (pc2 := 13) (by decide +kernel) (by decide +kernel) rfl (by decide) ?_
  refine h_if (w := 562949954798353) (pc2 := 16) (by decide +kernel) (b := false) (by decide +kernel) (by decide)  (by decide +kernel) ?_
  refine h_ldi (w := 131330) (pc2 := 17) (by decide +kernel) (by decide +kernel) rfl (by decide) ?_
  refine h_con (w := 196865) (pc2 := 18) (by decide +kernel) (v := 3) (by decide +kernel) ?_
  refine h_icmp (w := 1407374885126930) (pc2 := 24) (by decide +kernel) (b := true) (by decide +kernel) (by decide) (by decide) (by decide +kernel) ?_
  refine h_ldr (w := 259) (pc2 := 25) (by decide +kernel) (by decide +kernel) rfl r00 ?_
  refine s_getO (w := 37476792643181247860835094) (pc2 := 28) (by decide +kernel) (c := 5) (by decide +kernel) hW (v := bR 124 0) (Or.inr (Or.inr (Or.inr ⟨rfl, rfl⟩))) ?_
  refine h_ldr (w := 259) (pc2 := 29) (by decide +kernel) (by decide +kernel) rfl r00 ?_
  refine s_getO (w := 12089258197553666643919638) (pc2 := 32) (by decide +kernel) (c := 0) (by decide +kernel) hW (v := bR 1 0) (Or.inl ⟨rfl, rfl⟩) ?_
  refine h_cv (w := 183760948886379463996539685) (c := 7) (n := 1) (by decide +kernel) (by decide +kernel) rfl (zA_H hX) ⟨Nat.le_of_ble_eq_true rfl, Nat.le_of_ble_eq_true rfl⟩ (show ∀ cx ∈ [bR 1 0, bR 124 0], cx < 8589934592 from zl_c (bR_ref (o := 0) hS.2.1.2.2 (by omega)).2 (zl_c (bR_ref (o := 0) hX.2.1.2.2 (by omega)).2 zl_n)) (st2 := []) rfl (l2 := [bR 124 0, bR 1 0, 1099511627776]) (by show (List.take 2 _).reverse ++ List.replicate (zMaxL 7 - 2) _ = _; rw [show zMaxL 7 = 3 by decide +kernel]; rfl) ?_
  refine m7 (by decide) hS hT hX (fun m1 hX1 => gF_0 (by decide +kernel) ?_)
  have hS1 := bS_ot (by decide) hX1 hS
  have hW1 := oW_tr hW (Or.inl rfl) hX1
  refine h_ldr (w := 259) (pc2 := 36) (by decide +kernel) (by decide +kernel) rfl r00 ?_
  refine s_getO (w := 37476792643181247860835094) (pc2 := 39) (by decide +kernel) (c := 5) (by decide +kernel) hW1 (v := bR 124 0) (Or.inr (Or.inr (Or.inr ⟨rfl, rfl⟩))) ?_
  refine h_ldi (w := 65794) (pc2 := 40) (by decide +kernel) (by decide +kernel) rfl (by omega) ?_
  refine h_cv (w := 160791745695327057578099493) (c := 13) (n := 1) (by decide +kernel) (by decide +kernel) rfl (zA_H hX1) ⟨Nat.le_of_ble_eq_true rfl, Nat.le_of_ble_eq_true rfl⟩ (show ∀ cx ∈ [t, bR 124 0], cx < 8589934592 from zl_c (zlo (by omega)) (zl_c (bR_ref (o := 0) hX1.2.1.2.2 (by omega)).2 zl_n)) (st2 := []) rfl (l2 := [bR 124 0, t, 1099511627776]) (by show (List.take 2 _).reverse ++ List.replicate (zMaxL 13 - 2) _ = _; rw [show zMaxL 13 = 3 by decide +kernel]; rfl) ?_
  refine m13 hX1 (by omega) (run_ok hI (show B + t < 1000000 by omega)).1 (fun m2 hX2 => gF_0 (by decide +kernel) ?_)
  have hX3 : bS 124 r (mPs t a) m1 m2 := ⟨hX2.1, hX2.2.1, ⟨hX2.2.2.1.trans hX1.2.2.1.symm, fun k hk => (hX2.2.2.2 k hk).trans (hX1.2.2.2 k hk).symm⟩⟩
  have hS2 := bS_ot (by decide) hX3 hS1
  have hW2 := oW_tr hW1 (Or.inl rfl) hX3
  refine h_ldi (w := 131330) (pc2 := 44) (by decide +kernel) (by decide +kernel) rfl (by decide) ?_
  refine h_sw (w := 138260) (pc2 := 96) (by decide +kernel) (by decide +kernel) (by decide) ?_
  refine h_ldr (w := 259) (pc2 := 97) (by decide +kernel) (by decide +kernel) rfl r00 ?_
  refine s_getO (w := 37476792643181247860835094) (pc2 := 100) (by decide +kernel) (c := 5) (by decide +kernel) hW2 (v := bR 124 0) (Or.inr (Or.inr (Or.inr ⟨rfl, rfl⟩))) ?_
  refine s_getHx (w := 244203200029877305372771094) (pc2 := 103) (by decide +kernel) (c := 10) (x := 4) (by decide +kernel) hX3.1 hX3.2.1 (by decide) ?_
  refine h_ldr (w := 259) (pc2 := 104) (by decide +kernel) (by decide +kernel) rfl r00 ?_
  refine s_getO (w := 12089258197553666643919638) (pc2 := 107) (by decide +kernel) (c := 0) (by decide +kernel) hW2 (v := bR 1 0) (Or.inl ⟨rfl, rfl⟩) ?_
  refine s_getHx (w := 244203200029877305372771094) (pc2 := 110) (by decide +kernel) (c := 10) (x := 4) (by decide +kernel) hS2.1 hS2.2.1 (by decide) ?_
  refine h_sub (w := 264) (pc2 := 111) (by decide +kernel) (by decide +kernel) (hX3.2.1.2.1.1 _) (hS2.2.1.2.1.1 _) (c := (sub1 (mPs t a 4) (a 4))) sub1_eq ?_
  exact h_ret (w := 301) (by decide +kernel) (by decide +kernel) sub1_lt (fun h => absurd h (by decide +kernel)) (g _ hW2)
theorem m54_3 {t x : Nat} (hW : oW a u m) (hI : vI B a) (hB : B < 90000) (ht : 1 ≤ t ∧ t ≤ 60) (g : ∀ m', oW a u m' → gFin1 sc Q frs 54 (sub1 (mPs t a 14) (a 14)) m') : gFin sc Q frs 54 0 [bR 0 0, t, 3] [] m := by
  obtain ⟨p, hS⟩ := hW.1
  have hT := aT_v hI.1.2.1
  obtain ⟨r, e, hX⟩ := hW.2.2.2 124 (Or.inl rfl)
  refine h_ldi (w := 65794) (pc2 := 1) (by decide +kernel) (by decide +kernel) rfl (by omega) ?_
  refine h_con (w := 65793) (pc2 := 2) (by decide +kernel) (v := 1) (by decide +kernel) ?_
  refine h_icmp (w := 562949954798354) (pc2 := 5) (by decide +kernel) (b := false) (by decide +kernel) (by omega) (by decide) (zc_lt_f (by omega) (by decide) (by omega)) ?_
  refine h_ldi (w := 65794) (pc2 := 6) (by decide +kernel) (by decide +kernel) rfl (by omega) ?_
  refine h_con (w := 562949966529281) (pc2 := 9) (by decide +kernel) (v := 200) (by decide +kernel) ?_
  refine h_icmp (w := 1125899908219666) (pc2 := 12) (by decide +kernel) (b := false) (by decide +kernel) (by omega) (by decide) (zc_gt_f (by omega) (by decide) (by omega)) ?_
  refine h_ldi (w := 131330) (pc2 := 13) (by decide +kernel) (by decide +kernel) rfl (by decide) ?_
  refine h_if (w := 562949954798353) (pc2 := 16) (by decide +kernel) (b := false) (by decide +kernel) (by decide)  (by decide +kernel) ?_
  refine h_ldi (w := 131330) (pc2 := 17) (by decide +kernel) (by decide +kernel) rfl (by decide) ?_
  refine h_con (w := 196865) (pc2 := 18) (by decide +kernel) (v := 3) (by decide +kernel) ?_
  refine h_icmp (w := 1407374885126930) (pc2 := 24) (by decide +kernel) (b := true) (by decide +kernel) (by decide) (by decide) (by decide +kernel) ?_
  refine h_ldr (w := 259) (pc2 := 25) (by decide +kernel) (by decide +kernel) rfl r00 ?_
  refine s_getO (w := 37476792643181247860835094) (pc2 := 28) (by decide +kernel) (c := 5) (by decide +kernel) hW (v := bR 124 0) (Or.inr (Or.inr (Or.inr ⟨rfl, rfl⟩))) ?_
  refine h_ldr (w := 259) (pc2 := 29) (by decide +kernel) (by decide +kernel) rfl r00 ?_
  refine s_getO (w := 12089258197553666643919638) (pc2 := 32) (by decide +kernel) (c := 0) (by decide +kernel) hW (v := bR 1 0) (Or.inl ⟨rfl, rfl⟩) ?_
  refine h_cv (w := 183760948886379463996539685) (c := 7) (n := 1) (by decide +kernel) (by decide +kernel) rfl (zA_H hX) ⟨Nat.le_of_ble_eq_true rfl, Nat.le_of_ble_eq_true rfl⟩ (show ∀ cx ∈ [bR 1 0, bR 124 0], cx < 8589934592 from zl_c (bR_ref (o := 0) hS.2.1.2.2 (by omega)).2 (zl_c (bR_ref (o := 0) hX.2.1.2.2 (by omega)).2 zl_n)) (st2 := []) rfl (l2 := [bR 124 0, bR 1 0, 1099511627776]) (by show (List.take 2 _).reverse ++ List.replicate (zMaxL 7 - 2) _ = _; rw [show zMaxL 7 = 3 by decide +kernel]; rfl) ?_
  refine m7 (by decide) hS hT hX (fun m1 hX1 => gF_0 (by decide +kernel) ?_)
  have hS1 := bS_ot (by decide) hX1 hS
  have hW1 := oW_tr hW (Or.inl rfl) hX1
  refine h_ldr (w := 259) (pc2 := 36) (by decide +kernel) (by decide +kernel) rfl r00 ?_
  refine s_getO (w := 37476792643181247860835094) (pc2 := 39) (by decide +kernel) (c := 5) (by decide +kernel) hW1 (v := bR 124 0) (Or.inr (Or.inr (Or.inr ⟨rfl, rfl⟩))) ?_
  refine h_ldi (w := 65794) (pc2 := 40) (by decide +kernel) (by decide +kernel) rfl (by omega) ?_
  refine h_cv (w := 160791745695327057578099493) (c := 13) (n := 1) (by decide +kernel) (by decide +kernel) rfl (zA_H hX1) ⟨Nat.le_of_ble_eq_true rfl, Nat.le_of_ble_eq_true rfl⟩ (show ∀ cx ∈ [t, bR 124 0], cx < 8589934592 from zl_c (zlo (by omega)) (zl_c (bR_ref (o := 0) hX1.2.1.2.2 (by omega)).2 zl_n)) (st2 := []) rfl (l2 := [bR 124 0, t, 1099511627776]) (by show (List.take 2 _).reverse ++ List.replicate (zMaxL 13 - 2) _ = _; rw [show zMaxL 13 = 3 by decide +kernel]; rfl) ?_
  refine m13 hX1 (by omega) (run_ok hI (show B + t < 1000000 by omega)).1 (fun m2 hX2 => gF_0 (by decide +kernel) ?_)
  have hX3 : bS 124 r (mPs t a) m1 m2 := ⟨hX2.1, hX2.2.1, ⟨hX2.2.2.1.trans hX1.2.2.1.symm, fun k hk => (hX2.2.2.2 k hk).trans (hX1.2.2.2 k hk).symm⟩⟩
  have hS2 := bS_ot (by decide) hX3 hS1
  have hW2 := oW_tr hW1 (Or.inl rfl) hX3
  refine h_ldi (w := 131330) (pc2 := 44) (by decide +kernel) (by decide +kernel) rfl (by decide) ?_
  refine h_sw (w := 138260) (pc2 := 112) (by decide +kernel) (by decide +kernel) (by decide) ?_
  refine h_ldr (w := 259) (pc2 := 113) (by decide +kernel) (by decide +kernel) rfl r00 ?_
  refine s_getO (w := 37476792643181247860835094) (pc2 := 116) (by decide +kernel) (c := 5) (by decide +kernel) hW2 (v := bR 124 0) (Or.inr (Or.inr (Or.inr ⟨rfl, rfl⟩))) ?_
  refine s_getHr (w := 232113886493498792496661270) (pc2 := 119) (by decide +kernel) (c := 7) (k := 6) (by decide +kernel) hX3.1 hX3.2.1 (by decide) ?_
  refine s_getG (w := 247829811468868954434437910) (pc2 := 122) (by decide +kernel) (c := 1) (by decide +kernel) hX3.1 hX3.2.1 (v := ((mPs t a) 14)) rfl ?_
  refine h_ldr (w := 259) (pc2 := 123) (by decide +kernel) (by decide +kernel) rfl r00 ?_
  refine s_getO (w := 12089258197553666643919638) (pc2 := 126) (by decide +kernel) (c := 0) (by decide +kernel) hW2 (v := bR 1 0) (Or.inl ⟨rfl, rfl⟩) ?_
  refine s_getHr (w := 232113886493498792496661270) (pc2 := 129) (by decide +kernel) (c := 7) (k := 6) (by decide +kernel) hS2.1 hS2.2.1 (by decide) ?_
  refine s_getG (w := 247829811468868954434437910) (pc2 := 132) (by decide +kernel) (c := 1) (by decide +kernel) hS2.1 hS2.2.1 (v := (a 14)) rfl ?_
  refine h_sub (w := 264) (pc2 := 133) (by decide +kernel) (by decide +kernel) (hX3.2.1.2.1.1 _) (hS2.2.1.2.1.1 _) (c := (sub1 (mPs t a 14) (a 14))) sub1_eq ?_
  exact h_ret (w := 301) (by decide +kernel) (by decide +kernel) sub1_lt (fun h => absurd h (by decide +kernel)) (g _ hW2)
theorem m55_0 (hW : oW a u m) (hu : u ≤ 4) (g : gFin1 sc Q frs 55 (a 0) m) : gFin sc Q frs 55 0 [bR 0 0, 0] [] m := by
  obtain ⟨p, hS⟩ := hW.1
  have h17 := hS.2.1.2.1.2
  refine h_ldi (w := 65794) (pc2 := 1) (by decide +kernel) (by decide +kernel) rfl (by decide) ?_
  refine h_sw (w := 222996) (pc2 := 104) (by decide +kernel) (by decide +kernel) (by decide) ?_
  refine h_ldr (w := 259) (pc2 := 105) (by decide +kernel) (by decide +kernel) rfl r00 ?_
  refine s_getO (w := 12089258197553666643919638) (pc2 := 108) (by decide +kernel) (c := 0) (by decide +kernel) hW (v := bR 1 0) (Or.inl ⟨rfl, rfl⟩) ?_
  refine s_getHx (w := 120892581961744392455914262) (pc2 := 111) (by decide +kernel) (c := 0) (x := 0) (by decide +kernel) hS.1 hS.2.1 (by decide) ?_
  exact h_ret (w := 301) (by decide +kernel) (by decide +kernel) (hS.2.1.2.1.1 _) (fun h => absurd h (by decide +kernel)) g
theorem m55_1 (hW : oW a u m) (hu : u ≤ 4) (g : gFin1 sc Q frs 55 (a 1) m) : gFin sc Q frs 55 0 [bR 0 0, 1] [] m := by
  obtain ⟨p, hS⟩ := hW.1
  have h17 := hS.2.1.2.1.2
  refine h_ldi (w := 65794) (pc2 := 1) (by decide +kernel) (by decide +kernel) rfl (by decide) ?_
  refine h_sw (w := 222996) (pc2 := 112) (by decide +kernel) (by decide +kernel) (by decide) ?_
  refine h_ldr (w := 259) (pc2 := 113) (by decide +kernel) (by decide +kernel) rfl r00 ?_
  refine s_getO (w := 12089258197553666643919638) (pc2 := 116) (by decide +kernel) (c := 0) (by decide +kernel) hW (v := bR 1 0) (Or.inl ⟨rfl, rfl⟩) ?_
  refine s_getHx (w := 54401680329683861556757270) (pc2 := 119) (by decide +kernel) (c := 1) (x := 1) (by decide +kernel) hS.1 hS.2.1 (by decide) ?_
  exact h_ret (w := 301) (by decide +kernel) (by decide +kernel) (hS.2.1.2.1.1 _) (fun h => absurd h (by decide +kernel)) g
theorem m55_2 (hW : oW a u m) (hu : u ≤ 4) (g : gFin1 sc Q frs 55 (sm (a 1) (fDo a 1)) m) : gFin sc Q frs 55 0 [bR 0 0, 2] [] m := by
  obtain ⟨p, hS⟩ := hW.1
  have h17 := hS.2.1.2.1.2
  refine h_ldi (w := 65794) (pc2 := 1) (by decide +kernel) (by decide +kernel) rfl (by decide) ?_
  refine h_sw (w := 222996) (pc2 := 120) (by decide +kernel) (by decide +kernel) (by decide) ?_
  refine h_ldr (w := 259) (pc2 := 121) (by decide +kernel) (by decide +kernel) rfl r00 ?_
  refine s_getO (w := 12089258197553666643919638) (pc2 := 124) (by decide +kernel) (c := 0) (by decide +kernel) hW (v := bR 1 0) (Or.inl ⟨rfl, rfl⟩) ?_
  refine h_con (w := 65793) (pc2 := 125) (by decide +kernel) (v := 1) (by decide +kernel) ?_
  have s0 := sm_le (f := fDo a 1) (fun _ => i1_le) (a 1)
  refine h_cv (w := 251462860820134953251177253) (c := 27) (n := 1) (by decide +kernel) (by decide +kernel) rfl (zA_H hS) ⟨Nat.le_of_ble_eq_true rfl, Nat.le_of_ble_eq_true rfl⟩ (show ∀ cx ∈ [1, bR 1 0], cx < 8589934592 from zl_c (zlo (by decide)) (zl_c (bR_ref (o := 0) hS.2.1.2.2 (by omega)).2 zl_n)) (st2 := []) rfl (l2 := [bR 1 0, 1, 1099511627776, 1099511627776]) (by show (List.take 2 _).reverse ++ List.replicate (zMaxL 27 - 2) _ = _; rw [show zMaxL 27 = 4 by decide +kernel]; rfl) ?_
  refine m27 hS (by decide) (gF_v (by decide +kernel) ?_)
  exact h_ret (w := 301) (by decide +kernel) (by decide +kernel) (by omega) (fun h => absurd h (by decide +kernel)) g
theorem m55_3 (hW : oW a u m) (hu : u ≤ 4) (g : gFin1 sc Q frs 55 (sm (a 1) (fDo a 0)) m) : gFin sc Q frs 55 0 [bR 0 0, 3] [] m := by
  obtain ⟨p, hS⟩ := hW.1
  have h17 := hS.2.1.2.1.2
  refine h_ldi (w := 65794) (pc2 := 1) (by decide +kernel) (by decide +kernel) rfl (by decide) ?_
  refine h_sw (w := 222996) (pc2 := 129) (by decide +kernel) (by decide +kernel) (by decide) ?_
  refine h_ldr (w := 259) (pc2 := 130) (by decide +kernel) (by decide +kernel) rfl r00 ?_
  refine s_getO (w := 12089258197553666643919638) (pc2 := 133) (by decide +kernel) (c := 0) (by decide +kernel) hW (v := bR 1 0) (Or.inl ⟨rfl, rfl⟩) ?_
  refine h_con (w := 257) (pc2 := 134) (by decide +kernel) (v := 0) (by decide +kernel) ?_
  have s0 := sm_le (f := fDo a 0) (fun _ => i1_le) (a 1)
  refine h_cv (w := 251462860820134953251177253) (c := 27) (n := 1) (by decide +kernel) (by decide +kernel) rfl (zA_H hS) ⟨Nat.le_of_ble_eq_true rfl, Nat.le_of_ble_eq_true rfl⟩ (show ∀ cx ∈ [0, bR 1 0], cx < 8589934592 from zl_c (zlo (by decide)) (zl_c (bR_ref (o := 0) hS.2.1.2.2 (by omega)).2 zl_n)) (st2 := []) rfl (l2 := [bR 1 0, 0, 1099511627776, 1099511627776]) (by show (List.take 2 _).reverse ++ List.replicate (zMaxL 27 - 2) _ = _; rw [show zMaxL 27 = 4 by decide +kernel]; rfl) ?_
  refine m27 hS (by decide) (gF_v (by decide +kernel) ?_)
  exact h_ret (w := 301) (by decide +kernel) (by decide +kernel) (by omega) (fun h => absurd h (by decide +kernel)) g
theorem m55_4 (hW : oW a u m) (hu : u ≤ 4) (g : gFin1 sc Q frs 55 (sm (a 1) (fDo a 2)) m) : gFin sc Q frs 55 0 [bR 0 0, 4] [] m := by
  obtain ⟨p, hS⟩ := hW.1
  have h17 := hS.2.1.2.1.2
  refine h_ldi (w := 65794) (pc2 := 1) (by decide +kernel) (by decide +kernel) rfl (by decide) ?_
  refine h_sw (w := 222996) (pc2 := 138) (by decide +kernel) (by decide +kernel) (by decide) ?_
  refine h_ldr (w := 259) (pc2 := 139) (by decide +kernel) (by decide +kernel) rfl r00 ?_
  refine s_getO (w := 12089258197553666643919638) (pc2 := 142) (by decide +kernel) (c := 0) (by decide +kernel) hW (v := bR 1 0) (Or.inl ⟨rfl, rfl⟩) ?_
  refine h_con (w := 131329) (pc2 := 143) (by decide +kernel) (v := 2) (by decide +kernel) ?_
  have s0 := sm_le (f := fDo a 2) (fun _ => i1_le) (a 1)
  refine h_cv (w := 251462860820134953251177253) (c := 27) (n := 1) (by decide +kernel) (by decide +kernel) rfl (zA_H hS) ⟨Nat.le_of_ble_eq_true rfl, Nat.le_of_ble_eq_true rfl⟩ (show ∀ cx ∈ [2, bR 1 0], cx < 8589934592 from zl_c (zlo (by decide)) (zl_c (bR_ref (o := 0) hS.2.1.2.2 (by omega)).2 zl_n)) (st2 := []) rfl (l2 := [bR 1 0, 2, 1099511627776, 1099511627776]) (by show (List.take 2 _).reverse ++ List.replicate (zMaxL 27 - 2) _ = _; rw [show zMaxL 27 = 4 by decide +kernel]; rfl) ?_
  refine m27 hS (by decide) (gF_v (by decide +kernel) ?_)
  exact h_ret (w := 301) (by decide +kernel) (by decide +kernel) (by omega) (fun h => absurd h (by decide +kernel)) g
theorem m55_5 (hW : oW a u m) (hu : u ≤ 4) (g : gFin1 sc Q frs 55 (mWt a 12 0 0) m) : gFin sc Q frs 55 0 [bR 0 0, 5] [] m := by
  obtain ⟨p, hS⟩ := hW.1
  have h17 := hS.2.1.2.1.2
  refine h_ldi (w := 65794) (pc2 := 1) (by decide +kernel) (by decide +kernel) rfl (by decide) ?_
  refine h_sw (w := 222996) (pc2 := 147) (by decide +kernel) (by decide +kernel) (by decide) ?_
  refine h_ldr (w := 259) (pc2 := 148) (by decide +kernel) (by decide +kernel) rfl r00 ?_
  refine s_getO (w := 12089258197553666643919638) (pc2 := 151) (by decide +kernel) (c := 0) (by decide +kernel) hW (v := bR 1 0) (Or.inl ⟨rfl, rfl⟩) ?_
  refine h_cv (w := 152330851377733517400736549) (c := 26) (n := 0) (by decide +kernel) (by decide +kernel) rfl (zA_H hS) ⟨Nat.le_of_ble_eq_true rfl, Nat.le_of_ble_eq_true rfl⟩ (show ∀ cx ∈ [bR 1 0], cx < 8589934592 from zl_c (bR_ref (o := 0) hS.2.1.2.2 (by omega)).2 zl_n) (st2 := []) rfl (l2 := [bR 1 0, 1099511627776, 1099511627776]) (by show (List.take 1 _).reverse ++ List.replicate (zMaxL 26 - 1) _ = _; rw [show zMaxL 26 = 3 by decide +kernel]; rfl) ?_
  refine m26 hS (gF_v (by decide +kernel) ?_)
  exact h_ret (w := 301) (by decide +kernel) (by decide +kernel) (mWt_lt 12 0 0 (by decide)) (fun h => absurd h (by decide +kernel)) g
theorem m55_6 (hW : oW a u m) (hu : u ≤ 4) (g : gFin1 sc Q frs 55 (a 2) m) : gFin sc Q frs 55 0 [bR 0 0, 6] [] m := by
  obtain ⟨p, hS⟩ := hW.1
  have h17 := hS.2.1.2.1.2
  refine h_ldi (w := 65794) (pc2 := 1) (by decide +kernel) (by decide +kernel) rfl (by decide) ?_
  refine h_sw (w := 222996) (pc2 := 155) (by decide +kernel) (by decide +kernel) (by decide) ?_
  refine h_ldr (w := 259) (pc2 := 156) (by decide +kernel) (by decide +kernel) rfl r00 ?_
  refine s_getO (w := 12089258197553666643919638) (pc2 := 159) (by decide +kernel) (c := 0) (by decide +kernel) hW (v := bR 1 0) (Or.inl ⟨rfl, rfl⟩) ?_
  refine s_getHx (w := 157160504124135857374561046) (pc2 := 162) (by decide +kernel) (c := 8) (x := 2) (by decide +kernel) hS.1 hS.2.1 (by decide) ?_
  exact h_ret (w := 301) (by decide +kernel) (by decide +kernel) (hS.2.1.2.1.1 _) (fun h => absurd h (by decide +kernel)) g
theorem m55_7 (hW : oW a u m) (hu : u ≤ 4) (g : gFin1 sc Q frs 55 (a 3) m) : gFin sc Q frs 55 0 [bR 0 0, 7] [] m := by
  obtain ⟨p, hS⟩ := hW.1
  have h17 := hS.2.1.2.1.2
  refine h_ldi (w := 65794) (pc2 := 1) (by decide +kernel) (by decide +kernel) rfl (by decide) ?_
  refine h_sw (w := 222996) (pc2 := 163) (by decide +kernel) (by decide +kernel) (by decide) ?_
  refine h_ldr (w := 259) (pc2 := 164) (by decide +kernel) (by decide +kernel) rfl r00 ?_
  refine s_getO (w := 12089258197553666643919638) (pc2 := 167) (by decide +kernel) (c := 0) (by decide +kernel) hW (v := bR 1 0) (Or.inl ⟨rfl, rfl⟩) ?_
  refine s_getHx (w := 255083513959664894235443990) (pc2 := 170) (by decide +kernel) (c := 9) (x := 3) (by decide +kernel) hS.1 hS.2.1 (by decide) ?_
  exact h_ret (w := 301) (by decide +kernel) (by decide +kernel) (hS.2.1.2.1.1 _) (fun h => absurd h (by decide +kernel)) g
theorem m55_8 (hW : oW a u m) (hu : u ≤ 4) (g : gFin1 sc Q frs 55 (a 4) m) : gFin sc Q frs 55 0 [bR 0 0, 8] [] m := by
  obtain ⟨p, hS⟩ := hW.1
  have h17 := hS.2.1.2.1.2
  refine h_ldi (w := 65794) (pc2 := 1) (by decide +kernel) (by decide +kernel) rfl (by decide) ?_
  refine h_sw (w := 222996) (pc2 := 171) (by decide +kernel) (by decide +kernel) (by decide) ?_
  refine h_ldr (w := 259) (pc2 := 172) (by decide +kernel) (by decide +kernel) rfl r00 ?_
  refine s_getO (w := 12089258197553666643919638) (pc2 := 175) (by decide +kernel) (c := 0) (by decide +kernel) hW (v := bR 1 0) (Or.inl ⟨rfl, rfl⟩) ?_
  refine s_getHx (w := 244203200029877305372771094) (pc2 := 178) (by decide +kernel) (c := 10) (x := 4) (by decide +kernel) hS.1 hS.2.1 (by decide) ?_
  exact h_ret (w := 301) (by decide +kernel) (by decide +kernel) (hS.2.1.2.1.1 _) (fun h => absurd h (by decide +kernel)) g
theorem m55_9 (hW : oW a u m) (hu : u ≤ 4) (g : gFin1 sc Q frs 55 (a 14) m) : gFin sc Q frs 55 0 [bR 0 0, 9] [] m := by
  obtain ⟨p, hS⟩ := hW.1
  have h17 := hS.2.1.2.1.2
  refine h_ldi (w := 65794) (pc2 := 1) (by decide +kernel) (by decide +kernel) rfl (by decide) ?_
  refine h_sw (w := 222996) (pc2 := 179) (by decide +kernel) (by decide +kernel) (by decide) ?_
  refine h_ldr (w := 259) (pc2 := 180) (by decide +kernel) (by decide +kernel) rfl r00 ?_
  refine s_getO (w := 12089258197553666643919638) (pc2 := 183) (by decide +kernel) (c := 0) (by decide +kernel) hW (v := bR 1 0) (Or.inl ⟨rfl, rfl⟩) ?_
  refine s_getHr (w := 232113886493498792496661270) (pc2 := 186) (by decide +kernel) (c := 7) (k := 6) (by decide +kernel) hS.1 hS.2.1 (by decide) ?_
  refine s_getG (w := 247829811468868954434437910) (pc2 := 189) (by decide +kernel) (c := 1) (by decide +kernel) hS.1 hS.2.1 (v := (a 14)) rfl ?_
  exact h_ret (w := 301) (by decide +kernel) (by decide +kernel) (hS.2.1.2.1.1 _) (fun h => absurd h (by decide +kernel)) g
theorem m55_10 (hW : oW a u m) (hu : u ≤ 4) (g : gFin1 sc Q frs 55 (a (10 + 0)) m) : gFin sc Q frs 55 0 [bR 0 0, 10] [] m := by
  obtain ⟨p, hS⟩ := hW.1
  have h17 := hS.2.1.2.1.2
  refine h_ldi (w := 65794) (pc2 := 1) (by decide +kernel) (by decide +kernel) rfl (by decide) ?_
  refine h_sw (w := 222996) (pc2 := 190) (by decide +kernel) (by decide +kernel) (by decide) ?_
  refine h_ldr (w := 259) (pc2 := 191) (by decide +kernel) (by decide +kernel) rfl r00 ?_
  refine s_getO (w := 12089258197553666643919638) (pc2 := 194) (by decide +kernel) (c := 0) (by decide +kernel) hW (v := bR 1 0) (Or.inl ⟨rfl, rfl⟩) ?_
  refine s_getHr (w := 258710217631532486920831766) (pc2 := 197) (by decide +kernel) (c := 5) (k := 4) (by decide +kernel) hS.1 hS.2.1 (by decide) ?_
  refine h_con (w := 257) (pc2 := 198) (by decide +kernel) (v := 0) (by decide +kernel) ?_
  refine s_aldD (w := 282) (pc2 := 199) (by decide +kernel) (by decide +kernel) hS.1 hS.2.1 (j := 0) (by decide) ?_
  exact h_ret (w := 301) (by decide +kernel) (by decide +kernel) (hS.2.1.2.1.1 _) (fun h => absurd h (by decide +kernel)) g
theorem m55_11 (hW : oW a u m) (hu : u ≤ 4) (g : gFin1 sc Q frs 55 (a (10 + 1)) m) : gFin sc Q frs 55 0 [bR 0 0, 11] [] m := by
  obtain ⟨p, hS⟩ := hW.1
  have h17 := hS.2.1.2.1.2
  refine h_ldi (w := 65794) (pc2 := 1) (by decide +kernel) (by decide +kernel) rfl (by decide) ?_
  refine h_sw (w := 222996) (pc2 := 200) (by decide +kernel) (by decide +kernel) (by decide) ?_
  refine h_ldr (w := 259) (pc2 := 201) (by decide +kernel) (by decide +kernel) rfl r00 ?_
  refine s_getO (w := 12089258197553666643919638) (pc2 := 204) (by decide +kernel) (c := 0) (by decide +kernel) hW (v := bR 1 0) (Or.inl ⟨rfl, rfl⟩) ?_
  refine s_getHr (w := 258710217631532486920831766) (pc2 := 207) (by decide +kernel) (c := 5) (k := 4) (by decide +kernel) hS.1 hS.2.1 (by decide) ?_
  refine h_con (w := 65793) (pc2 := 208) (by decide +kernel) (v := 1) (by decide +kernel) ?_
  refine s_aldD (w := 282) (pc2 := 209) (by decide +kernel) (by decide +kernel) hS.1 hS.2.1 (j := 1) (by decide) ?_
  exact h_ret (w := 301) (by decide +kernel) (by decide +kernel) (hS.2.1.2.1.1 _) (fun h => absurd h (by decide +kernel)) g
theorem m55_12 (hW : oW a u m) (hu : u ≤ 4) (g : gFin1 sc Q frs 55 (a (12 + 0)) m) : gFin sc Q frs 55 0 [bR 0 0, 12] [] m := by
  obtain ⟨p, hS⟩ := hW.1
  have h17 := hS.2.1.2.1.2
  refine h_ldi (w := 65794) (pc2 := 1) (by decide +kernel) (by decide +kernel) rfl (by decide) ?_
  refine h_sw (w := 222996) (pc2 := 210) (by decide +kernel) (by decide +kernel) (by decide) ?_
  refine h_ldr (w := 259) (pc2 := 211) (by decide +kernel) (by decide +kernel) rfl r00 ?_
  refine s_getO (w := 12089258197553666643919638) (pc2 := 214) (by decide +kernel) (c := 0) (by decide +kernel) hW (v := bR 1 0) (Or.inl ⟨rfl, rfl⟩) ?_
  refine s_getHr (w := 262337013537120448154632982) (pc2 := 217) (by decide +kernel) (c := 6) (k := 5) (by decide +kernel) hS.1 hS.2.1 (by decide) ?_
  refine h_con (w := 257) (pc2 := 218) (by decide +kernel) (v := 0) (by decide +kernel) ?_
  refine s_aldN (w := 282) (pc2 := 219) (by decide +kernel) (by decide +kernel) hS.1 hS.2.1 (j := 0) (by decide) ?_
  exact h_ret (w := 301) (by decide +kernel) (by decide +kernel) (hS.2.1.2.1.1 _) (fun h => absurd h (by decide +kernel)) g
theorem m55_13 (hW : oW a u m) (hu : u ≤ 4) (g : gFin1 sc Q frs 55 (a (12 + 1)) m) : gFin sc Q frs 55 0 [bR 0 0, 13] [] m := by
  obtain ⟨p, hS⟩ := hW.1
  have h17 := hS.2.1.2.1.2
  refine h_ldi (w := 65794) (pc2 := 1) (by decide +kernel) (by decide +kernel) rfl (by decide) ?_
  refine h_sw (w := 222996) (pc2 := 220) (by decide +kernel) (by decide +kernel) (by decide) ?_
  refine h_ldr (w := 259) (pc2 := 221) (by decide +kernel) (by decide +kernel) rfl r00 ?_
  refine s_getO (w := 12089258197553666643919638) (pc2 := 224) (by decide +kernel) (c := 0) (by decide +kernel) hW (v := bR 1 0) (Or.inl ⟨rfl, rfl⟩) ?_
  refine s_getHr (w := 262337013537120448154632982) (pc2 := 227) (by decide +kernel) (c := 6) (k := 5) (by decide +kernel) hS.1 hS.2.1 (by decide) ?_
  refine h_con (w := 65793) (pc2 := 228) (by decide +kernel) (v := 1) (by decide +kernel) ?_
  refine s_aldN (w := 282) (pc2 := 229) (by decide +kernel) (by decide +kernel) hS.1 hS.2.1 (j := 1) (by decide) ?_
  exact h_ret (w := 301) (by decide +kernel) (by decide +kernel) (hS.2.1.2.1.1 _) (fun h => absurd h (by decide +kernel)) g
theorem m55_16 (hW : oW a u m) (hu : u ≤ 4) (g : gFin1 sc Q frs 55 (a (5 + 2)) m) : gFin sc Q frs 55 0 [bR 0 0, 16] [] m := by
  obtain ⟨p, hS⟩ := hW.1
  have h17 := hS.2.1.2.1.2
  refine h_ldi (w := 65794) (pc2 := 1) (by decide +kernel) (by decide +kernel) rfl (by decide) ?_
  refine h_sw (w := 222996) (pc2 := 230) (by decide +kernel) (by decide +kernel) (by decide) ?_
  refine h_ldr (w := 259) (pc2 := 231) (by decide +kernel) (by decide +kernel) rfl r00 ?_
  refine s_getO (w := 12089258197553666643919638) (pc2 := 234) (by decide +kernel) (c := 0) (by decide +kernel) hW (v := bR 1 0) (Or.inl ⟨rfl, rfl⟩) ?_
  refine s_getHr (w := 171667540172535112632304406) (pc2 := 237) (by decide +kernel) (c := 4) (k := 3) (by decide +kernel) hS.1 hS.2.1 (by decide) ?_
  refine h_ldi (w := 65794) (pc2 := 238) (by decide +kernel) (by decide +kernel) rfl (by decide) ?_
  refine h_con (w := 281474977628673) (pc2 := 240) (by decide +kernel) (v := 14) (by decide +kernel) ?_
  refine h_sub (w := 264) (pc2 := 241) (by decide +kernel) (by decide +kernel) (by decide) (by decide) (c := 2) (by decide) ?_
  refine s_aldS (w := 282) (pc2 := 242) (by decide +kernel) (by decide +kernel) hS.1 hS.2.1 (j := 2) (by decide) ?_
  exact h_ret (w := 301) (by decide +kernel) (by decide +kernel) (hS.2.1.2.1.1 _) (fun h => absurd h (by decide +kernel)) g
theorem m55_17 (hW : oW a u m) (hu : u ≤ 4) (g : gFin1 sc Q frs 55 (a (5 + 3)) m) : gFin sc Q frs 55 0 [bR 0 0, 17] [] m := by
  obtain ⟨p, hS⟩ := hW.1
  have h17 := hS.2.1.2.1.2
  refine h_ldi (w := 65794) (pc2 := 1) (by decide +kernel) (by decide +kernel) rfl (by decide) ?_
  refine h_sw (w := 222996) (pc2 := 230) (by decide +kernel) (by decide +kernel) (by decide) ?_
  refine h_ldr (w := 259) (pc2 := 231) (by decide +kernel) (by decide +kernel) rfl r00 ?_
  refine s_getO (w := 12089258197553666643919638) (pc2 := 234) (by decide +kernel) (c := 0) (by decide +kernel) hW (v := bR 1 0) (Or.inl ⟨rfl, rfl⟩) ?_
  refine s_getHr (w := 171667540172535112632304406) (pc2 := 237) (by decide +kernel) (c := 4) (k := 3) (by decide +kernel) hS.1 hS.2.1 (by decide) ?_
  refine h_ldi (w := 65794) (pc2 := 238) (by decide +kernel) (by decide +kernel) rfl (by decide) ?_
  refine h_con (w := 281474977628673) (pc2 := 240) (by decide +kernel) (v := 14) (by decide +kernel) ?_
  refine h_sub (w := 264) (pc2 := 241) (by decide +kernel) (by decide +kernel) (by decide) (by decide) (c := 3) (by decide) ?_
  refine s_aldS (w := 282) (pc2 := 242) (by decide +kernel) (by decide +kernel) hS.1 hS.2.1 (j := 3) (by decide) ?_
  exact h_ret (w := 301) (by decide +kernel) (by decide +kernel) (hS.2.1.2.1.1 _) (fun h => absurd h (by decide +kernel)) g
theorem m55_20 (hW : oW a u m) (hu : u ≤ 4) (g : gFin1 sc Q frs 55 u m) : gFin sc Q frs 55 0 [bR 0 0, 20] [] m := by
  obtain ⟨p, hS⟩ := hW.1
  have h17 := hS.2.1.2.1.2
  refine h_ldi (w := 65794) (pc2 := 1) (by decide +kernel) (by decide +kernel) rfl (by decide) ?_
  refine h_sw (w := 222996) (pc2 := 251) (by decide +kernel) (by decide +kernel) (by decide) ?_
  refine h_ldr (w := 259) (pc2 := 252) (by decide +kernel) (by decide +kernel) rfl r00 ?_
  refine s_getO (w := 24178553287188105810215702) (pc2 := 255) (by decide +kernel) (c := 2) (by decide +kernel) hW (v := u) (Or.inr (Or.inr (Or.inl ⟨rfl, rfl⟩))) ?_
  exact h_ret (w := 301) (by decide +kernel) (by decide +kernel) (by omega) (fun h => absurd h (by decide +kernel)) g
end BG
