/-! ===== the acts (printed by wip/gen/m896.py) ===== -/
def aR (B : Nat) (a : Nat → Nat) (u v : Nat) (a' : Nat → Nat) (u' : Nat) : Prop := ((v < 4294967296 ∧ 2147483648 ≤ v) ∧ a' = a ∧ u' = u) ∨ (v < 2147483648 ∧ u' = mU u ∧ vI (B + 1) a' ∧ vR a a')
section BK
variable {sc : List Nat} {Q : Nat → zM → Prop} {frs : gCf} {i pc w pc2 : Nat} {ls st : List Nat} {m : zM}
theorem zIsC_f25 {w : Nat} (h : zop w = 25) : zIsC w = false := by
  unfold zIsC
  rw [h]
  rfl
theorem h_gst {v : Nat} (hw : zI i pc = w) (ho : (zop w = 25 ∧ pc + 3 = pc2) ∧ 8589934592 + zb w = v) (g : gFin sc Q frs i pc2 ls (v :: st) m) : gFin sc Q frs i pc ls st m := by
  subst hw
  obtain ⟨⟨h1, rfl⟩, rfl⟩ := ho
  exact gFin_step (zIsC_f25 h1) (by simp only [zOne, h1, ↓reduceIte, Nat.reduceEqDiff, or_self, zNx]) g
theorem zIsC_f26 {w : Nat} (h : zop w = 26) : zIsC w = false := by
  unfold zIsC
  rw [h]
  rfl
theorem h_alds {r j v : Nat} (hw : zI i pc = w) (ho : zop w = 26 ∧ pc + 1 = pc2) (hr : 8589934592 ≤ r ∧ r < 8589934595) (hj : j < 5) (hv : (zCT (r - 8589934592)).getD j 0 = v) (g : gFin sc Q frs i pc2 ls (v :: st) m) : gFin sc Q frs i pc ls (j :: r :: st) m := by
  subst hw
  subst hv
  obtain ⟨h1, rfl⟩ := ho
  have h2 : j < 5 ∧ r < 8589934595 := ⟨hj, hr.2⟩
  exact gFin_step (zIsC_f26 h1) (by simp only [zOne, h1, ↓reduceIte, Nat.reduceEqDiff, or_self, zNx, if_pos hr.1, if_pos h2]) g
end BK
theorem zCT_v {w : Nat} (h : w < 5) : (zCT 1).getD w 0 ≤ 1 ∧ 20 ≤ (zCT 2).getD w 0 ∧ (zCT 2).getD w 0 ≤ 99 := by
  rcases (show w = 0 ∨ w = 1 ∨ w = 2 ∨ w = 3 ∨ w = 4 by omega) with rfl | rfl | rfl | rfl | rfl <;> decide
section BG
variable {sc : List Nat} {Q : Nat → zM → Prop} {frs : gCf} {m : zM} {a : Nat → Nat} {u B : Nat}
theorem m44 {h t : Nat} (hW : oW a u m) (hI : vI B a) (hB : B < 90000) (hu : u ≤ 4) (hh : h < 12) (ht : t < 2) (g : ∀ v m' a' u', oW a' u' m' → aR B a u v a' u' → gFin1 sc Q frs 44 v m') : gFin sc Q frs 44 0 [bR 0 0, h, t] [] m := by
  obtain ⟨p, hS⟩ := hW.1
  have h16 := hI.1.1.1
  have hT := aT_v hI.1.2.1
  have hB3 := hI.2.2
  refine h_ldi (w := 65794) (pc2 := 1) (by decide +kernel) (by decide +kernel) rfl (by omega) ?_
  refine h_c8 (w := 49572913026997059644293926) (c := 56) (n := 1) (by decide +kernel) (by decide +kernel) ⟨Nat.le_of_ble_eq_true rfl, Nat.le_of_ble_eq_true rfl⟩ (show ∀ cx ∈ [h], cx < 8589934592 from zl_c (zlo (by omega)) zl_n) (st2 := []) rfl (l2 := [h]) (by show (List.take 1 _).reverse ++ List.replicate (zMaxL 56 - 1) _ = _; rw [show zMaxL 56 = 1 by decide +kernel]; rfl) ?_
  refine m56 hh (gF_v (by decide +kernel) ?_)
  refine h_if (w := 281474977301265) (pc2 := 9) (by decide +kernel) (b := true) (by decide +kernel) (by decide)  (by decide +kernel) ?_
  refine h_ldr (w := 259) (pc2 := 10) (by decide +kernel) (by decide +kernel) rfl r00 ?_
  refine s_getO (w := 12089258197553666643919638) (pc2 := 13) (by decide +kernel) (c := 0) (by decide +kernel) hW (v := bR 1 0) (Or.inl ⟨rfl, rfl⟩) ?_
  refine s_getHx (w := 54401680329683861556757270) (pc2 := 16) (by decide +kernel) (c := 1) (x := 1) (by decide +kernel) hS.1 hS.2.1 (by decide) ?_
  refine h_con (w := 281474977759745) (pc2 := 18) (by decide +kernel) (v := 16) (by decide +kernel) ?_
  by_cases q0 : a 1 < 16
  · skip
    refine h_icmp (w := 562949954994962) (pc2 := 24) (by decide +kernel) (b := true) (by decide +kernel) (hS.2.1.2.1.1 _) (by decide) (zc_lt_t (by omega) (by decide) q0) ?_
    refine h_ldr (w := 259) (pc2 := 25) (by decide +kernel) (by decide +kernel) rfl r00 ?_
    refine h_cv (w := 58035910273133527734813477) (c := 58) (n := 0) (by decide +kernel) (by decide +kernel) rfl (zA_O hW) ⟨Nat.le_of_ble_eq_true rfl, Nat.le_of_ble_eq_true rfl⟩ (show ∀ cx ∈ [bR 0 0], cx < 8589934592 from zl_c r00.2 zl_n) (st2 := []) rfl (l2 := [bR 0 0]) (by show (List.take 1 _).reverse ++ List.replicate (zMaxL 58 - 1) _ = _; rw [show zMaxL 58 = 1 by decide +kernel]; rfl) ?_
    refine m58 hW hT hu (fun m1 hW1 => gF_0 (by decide +kernel) ?_)
    obtain ⟨p1, hS1⟩ := hW1.1
    refine h_ldr (w := 259) (pc2 := 29) (by decide +kernel) (by decide +kernel) rfl r00 ?_
    refine s_getO (w := 12089258197553666643919638) (pc2 := 32) (by decide +kernel) (c := 0) (by decide +kernel) hW1 (v := bR 1 0) (Or.inl ⟨rfl, rfl⟩) ?_
    refine h_ldi (w := 65794) (pc2 := 33) (by decide +kernel) (by decide +kernel) rfl (by omega) ?_
    refine h_ldi (w := 131330) (pc2 := 34) (by decide +kernel) (by decide +kernel) rfl (by omega) ?_
    refine h_cv (w := 61662835306492954885554981) (c := 9) (n := 2) (by decide +kernel) (by decide +kernel) rfl (zA_H hS1) ⟨Nat.le_of_ble_eq_true rfl, Nat.le_of_ble_eq_true rfl⟩ (show ∀ cx ∈ [t, h, bR 1 0], cx < 8589934592 from zl_c (zlo (by omega)) (zl_c (zlo (by omega)) (zl_c (bR_ref (o := 0) hS1.2.1.2.2 (by omega)).2 zl_n))) (st2 := []) rfl (l2 := [bR 1 0, h, t]) (by show (List.take 3 _).reverse ++ List.replicate (zMaxL 9 - 3) _ = _; rw [show zMaxL 9 = 3 by decide +kernel]; rfl) ?_
    refine m9 hS1 (by omega) (by omega) ht (fun m2 hS2 => (gF_0 (by decide +kernel) ?_))
    have hW2 := oW_now hW1 hS2
    have e1 : mAd a h t 1 = a 1 + 1 := by rw [mAd_d rfl, bU_s, inc1_v (by omega)]
    refine h_ldr (w := 259) (pc2 := 38) (by decide +kernel) (by decide +kernel) rfl r00 ?_
    refine s_getO (w := 12089258197553666643919638) (pc2 := 41) (by decide +kernel) (c := 0) (by decide +kernel) hW2 (v := bR 1 0) (Or.inl ⟨rfl, rfl⟩) ?_
    refine s_getHx (w := 54401680329683861556757270) (pc2 := 44) (by decide +kernel) (c := 1) (x := 1) (by decide +kernel) hS2.1 hS2.2.1 (by decide) ?_
    rw [e1]
    refine h_con (w := 65793) (pc2 := 45) (by decide +kernel) (v := 1) (by decide +kernel) ?_
    refine h_sub (w := 264) (pc2 := 46) (by decide +kernel) (by decide +kernel) (by omega) (by decide) (c := (a 1)) (by omega) ?_
    exact h_ret (w := 301) (by decide +kernel) (by decide +kernel) (by omega) (fun h => absurd h (by decide +kernel)) (g _ _ _ _ hW2 (Or.inr ⟨(by omega), rfl, ad_ok hI q0 hh ht⟩))
  · skip
    refine h_icmp (w := 562949954994962) (pc2 := 21) (by decide +kernel) (b := false) (by decide +kernel) (hS.2.1.2.1.1 _) (by decide) (zc_lt_f (by omega) (by decide) (by omega)) ?_
    refine h_con (w := 562949953225217) (pc2 := 23) (by decide +kernel) (v := 4294967293) (by decide +kernel) ?_
    exact h_ret (w := 301) (by decide +kernel) (by decide +kernel) (by decide) (fun h => absurd h (by decide +kernel)) (g _ _ a u hW (Or.inl ⟨⟨by decide, by decide⟩, rfl, rfl⟩))
theorem m45 {k x0 : Nat} (hW : oW a u m) (hI : vI B a) (hB : B < 90000) (hu : u ≤ 4) (hk : k < 2147483648) (g : ∀ v m' a' u', oW a' u' m' → aR B a u v a' u' → gFin1 sc Q frs 45 v m') : gFin sc Q frs 45 0 [bR 0 0, k, x0] [] m := by
  obtain ⟨p, hS⟩ := hW.1
  have h16 := hI.1.1.1
  have hT := aT_v hI.1.2.1
  have hB3 := hI.2.2
  refine h_ldr (w := 259) (pc2 := 1) (by decide +kernel) (by decide +kernel) rfl r00 ?_
  refine s_getO (w := 12089258197553666643919638) (pc2 := 4) (by decide +kernel) (c := 0) (by decide +kernel) hW (v := bR 1 0) (Or.inl ⟨rfl, rfl⟩) ?_
  refine h_ldi (w := 65794) (pc2 := 5) (by decide +kernel) (by decide +kernel) rfl (by omega) ?_
  refine h_cv (w := 66497634694210384839574309) (c := 8) (n := 1) (by decide +kernel) (by decide +kernel) rfl (zA_H hS) ⟨Nat.le_of_ble_eq_true rfl, Nat.le_of_ble_eq_true rfl⟩ (show ∀ cx ∈ [k, bR 1 0], cx < 8589934592 from zl_c (zlo (by omega)) (zl_c (bR_ref (o := 0) hS.2.1.2.2 (by omega)).2 zl_n)) (st2 := []) rfl (l2 := [bR 1 0, k]) (by show (List.take 2 _).reverse ++ List.replicate (zMaxL 8 - 2) _ = _; rw [show zMaxL 8 = 2 by decide +kernel]; rfl) ?_
  refine m8 hS (by omega) (gF_v (by decide +kernel) ?_)
  by_cases q0 : k < a 1
  · skip
    rw [show i1 (decide (k < a 1)) = 1 from by rw [decide_eq_true q0]; rfl]
    refine h_if (w := 281474977563409) (pc2 := 13) (by decide +kernel) (b := true) (by decide +kernel) (by decide)  (by decide +kernel) ?_
    have hp := hS.2.1.1.1 k (by omega)
    obtain ⟨⟨k0, k1, k4⟩, ⟨k2, k3⟩, ki⟩ := hI.1.2.1 k q0
    obtain ⟨q, eq⟩ : ∃ q, q = a (100 + 8 * k + 1) := ⟨_, rfl⟩
    rw [← eq] at k1
    have hL9 := (hI.1.2.2.1 q k1).1.1
    refine h_ldr (w := 259) (pc2 := 14) (by decide +kernel) (by decide +kernel) rfl r00 ?_
    refine s_getO (w := 12089258197553666643919638) (pc2 := 17) (by decide +kernel) (c := 0) (by decide +kernel) hW (v := bR 1 0) (Or.inl ⟨rfl, rfl⟩) ?_
    refine s_getHr (w := 70117734431418114537620246) (pc2 := 20) (by decide +kernel) (c := 2) (k := 1) (by decide +kernel) hS.1 hS.2.1 (by decide) ?_
    refine h_ldi (w := 65794) (pc2 := 21) (by decide +kernel) (by decide +kernel) rfl (by omega) ?_
    refine s_aldA (w := 286) (pc2 := 22) (by decide +kernel) (by decide +kernel) hS.1 hS.2.1 (by omega) ?_
    refine h_str (w := 131333) (pc2 := 23) (by decide +kernel) (n := 3) (by decide +kernel) rfl (bR_ref (o := (8 + p k)) hS.2.1.2.2 (by omega)) (ls2 := [bR 0 0, k, (bR 1 (8 + p k))]) rfl ?_
    refine h_ldr (w := 131331) (pc2 := 24) (by decide +kernel) (by decide +kernel) rfl (bR_ref (o := (8 + p k)) hS.2.1.2.2 (by omega)) ?_
    refine s_getA (w := 74953437709595156255408918) (pc2 := 27) (by decide +kernel) (c := 2) (by decide +kernel) hS.1 hS.2.1 q0 ?_
    refine h_con (w := 65793) (pc2 := 28) (by decide +kernel) (v := 1) (by decide +kernel) ?_
    have go : (a (100 + 8 * k + 2) = 1 → a (300 + 30 * q + 0) < 9) → gFin sc Q frs 45 54 [bR 0 0, k, bR 1 (8 + p k)] [] m := by
      intro h9
      refine h_ldr (w := 259) (pc2 := 55) (by decide +kernel) (by decide +kernel) rfl r00 ?_
      refine h_cv (w := 58035910273133527734813477) (c := 58) (n := 0) (by decide +kernel) (by decide +kernel) rfl (zA_O hW) ⟨Nat.le_of_ble_eq_true rfl, Nat.le_of_ble_eq_true rfl⟩ (show ∀ cx ∈ [bR 0 0], cx < 8589934592 from zl_c r00.2 zl_n) (st2 := []) rfl (l2 := [bR 0 0]) (by show (List.take 1 _).reverse ++ List.replicate (zMaxL 58 - 1) _ = _; rw [show zMaxL 58 = 1 by decide +kernel]; rfl) ?_
      refine m58 hW hT hu (fun m1 hW1 => gF_0 (by decide +kernel) ?_)
      obtain ⟨p1, hS1⟩ := hW1.1
      refine h_ldr (w := 259) (pc2 := 59) (by decide +kernel) (by decide +kernel) rfl r00 ?_
      refine s_getO (w := 12089258197553666643919638) (pc2 := 62) (by decide +kernel) (c := 0) (by decide +kernel) hW1 (v := bR 1 0) (Or.inl ⟨rfl, rfl⟩) ?_
      refine h_ldi (w := 65794) (pc2 := 63) (by decide +kernel) (by decide +kernel) rfl (by omega) ?_
      refine h_cv (w := 95512979616349981315302181) (c := 10) (n := 1) (by decide +kernel) (by decide +kernel) rfl (zA_H hS1) ⟨Nat.le_of_ble_eq_true rfl, Nat.le_of_ble_eq_true rfl⟩ (show ∀ cx ∈ [k, bR 1 0], cx < 8589934592 from zl_c (zlo (by omega)) (zl_c (bR_ref (o := 0) hS1.2.1.2.2 (by omega)).2 zl_n)) (st2 := []) rfl (l2 := [bR 1 0, k, 1099511627776, 1099511627776, 1099511627776]) (by show (List.take 2 _).reverse ++ List.replicate (zMaxL 10 - 2) _ = _; rw [show zMaxL 10 = 5 by decide +kernel]; rfl) ?_
      refine m10 hS1 q0 (by rw [← eq]; exact k1) (by rw [← eq]; exact h9) (fun p2 m2 hS2 => gF_0 (by decide +kernel) ?_)
      have hW2 := oW_now hW1 hS2
      have ok := to_ok hI (by omega) q0 (by rw [← eq]; exact h9)
      have o16 := ok.1.1.1.1
      refine h_ldr (w := 259) (pc2 := 67) (by decide +kernel) (by decide +kernel) rfl r00 ?_
      refine s_getO (w := 12089258197553666643919638) (pc2 := 70) (by decide +kernel) (c := 0) (by decide +kernel) hW2 (v := bR 1 0) (Or.inl ⟨rfl, rfl⟩) ?_
      refine s_getHx (w := 54401680329683861556757270) (pc2 := 73) (by decide +kernel) (c := 1) (x := 1) (by decide +kernel) hS2.1 hS2.2.1 (by decide) ?_
      exact h_ret (w := 301) (by decide +kernel) (by decide +kernel) (by omega) (fun h => absurd h (by decide +kernel)) (g _ _ _ _ hW2 (Or.inr ⟨(by omega), rfl, ok⟩))
    by_cases q1 : a (100 + 8 * k + 2) = 1
    · skip
      refine h_icmp (w := 281474980250386) (pc2 := 31) (by decide +kernel) (b := false) (by decide +kernel) (hS.2.1.2.1.1 _) (by decide) (zc_ne_f q1) ?_
      refine h_ldr (w := 259) (pc2 := 32) (by decide +kernel) (by decide +kernel) rfl r00 ?_
      refine s_getO (w := 12089258197553666643919638) (pc2 := 35) (by decide +kernel) (c := 0) (by decide +kernel) hW (v := bR 1 0) (Or.inl ⟨rfl, rfl⟩) ?_
      refine s_getHr (w := 80998085254693850819658518) (pc2 := 38) (by decide +kernel) (c := 3) (k := 2) (by decide +kernel) hS.1 hS.2.1 (by decide) ?_
      refine h_ldr (w := 131331) (pc2 := 39) (by decide +kernel) (by decide +kernel) rfl (bR_ref (o := (8 + p k)) hS.2.1.2.2 (by omega)) ?_
      refine s_getA (w := 85833751639382745118016278) (pc2 := 42) (by decide +kernel) (c := 1) (by decide +kernel) hS.1 hS.2.1 q0 ?_
      rw [← eq]
      refine s_aldL (w := 286) (pc2 := 43) (by decide +kernel) (by decide +kernel) hS.1 hS.2.1 k1 ?_
      refine s_getLx (w := 89460547545533656307925782) (pc2 := 46) (by decide +kernel) (c := 2) (by decide +kernel) hS.1 hS.2.1 (q := q) k1 (x := 300 + 30 * q + 0) (by omega) ?_
      refine h_con (w := 281474977300993) (pc2 := 48) (by decide +kernel) (v := 9) (by decide +kernel) ?_
      by_cases q2 : a (300 + 30 * q + 0) < 9
      · skip
        refine h_icmp (w := 562949956961042) (pc2 := 54) (by decide +kernel) (b := true) (by decide +kernel) (hS.2.1.2.1.1 _) (by decide) (zc_lt_t (by omega) (by decide) q2) ?_
        exact go (fun _ => q2)
      · skip
        refine h_icmp (w := 562949956961042) (pc2 := 51) (by decide +kernel) (b := false) (by decide +kernel) (hS.2.1.2.1.1 _) (by decide) (zc_lt_f (by omega) (by decide) (by omega)) ?_
        refine h_con (w := 562949953225217) (pc2 := 53) (by decide +kernel) (v := 4294967293) (by decide +kernel) ?_
        exact h_ret (w := 301) (by decide +kernel) (by decide +kernel) (by decide) (fun h => absurd h (by decide +kernel)) (g _ _ a u hW (Or.inl ⟨⟨by decide, by decide⟩, rfl, rfl⟩))
    · skip
      refine h_icmp (w := 281474980250386) (pc2 := 54) (by decide +kernel) (b := true) (by decide +kernel) (hS.2.1.2.1.1 _) (by decide) (zc_ne_t q1) ?_
      exact go (fun z => absurd z q1)
  · skip
    rw [show i1 (decide (k < a 1)) = 0 from by rw [decide_eq_false q0]; rfl]
    refine h_if (w := 281474977563409) (pc2 := 11) (by decide +kernel) (b := false) (by decide +kernel) (by decide)  (by decide +kernel) ?_
    refine h_con (w := 281474976645377) (pc2 := 12) (by decide +kernel) (v := 4294967295) (by decide +kernel) ?_
    exact h_ret (w := 301) (by decide +kernel) (by decide +kernel) (by decide) (fun h => absurd h (by decide +kernel)) (g _ _ a u hW (Or.inl ⟨⟨by decide, by decide⟩, rfl, rfl⟩))
theorem m46 {k t : Nat} (hW : oW a u m) (hI : vI B a) (hB : B < 90000) (hu : u ≤ 4) (hk : k < 2147483648) (ht : t < 2) (g : ∀ v m' a' u', oW a' u' m' → aR B a u v a' u' → gFin1 sc Q frs 46 v m') : gFin sc Q frs 46 0 [bR 0 0, k, t] [] m := by
  obtain ⟨p, hS⟩ := hW.1
  have h16 := hI.1.1.1
  have hT := aT_v hI.1.2.1
  have hB3 := hI.2.2
  refine h_ldr (w := 259) (pc2 := 1) (by decide +kernel) (by decide +kernel) rfl r00 ?_
  refine s_getO (w := 12089258197553666643919638) (pc2 := 4) (by decide +kernel) (c := 0) (by decide +kernel) hW (v := bR 1 0) (Or.inl ⟨rfl, rfl⟩) ?_
  refine h_ldi (w := 65794) (pc2 := 5) (by decide +kernel) (by decide +kernel) rfl (by omega) ?_
  refine h_cv (w := 66497634694210384839574309) (c := 8) (n := 1) (by decide +kernel) (by decide +kernel) rfl (zA_H hS) ⟨Nat.le_of_ble_eq_true rfl, Nat.le_of_ble_eq_true rfl⟩ (show ∀ cx ∈ [k, bR 1 0], cx < 8589934592 from zl_c (zlo (by omega)) (zl_c (bR_ref (o := 0) hS.2.1.2.2 (by omega)).2 zl_n)) (st2 := []) rfl (l2 := [bR 1 0, k]) (by show (List.take 2 _).reverse ++ List.replicate (zMaxL 8 - 2) _ = _; rw [show zMaxL 8 = 2 by decide +kernel]; rfl) ?_
  refine m8 hS (by omega) (gF_v (by decide +kernel) ?_)
  by_cases q0 : k < a 1
  · skip
    rw [show i1 (decide (k < a 1)) = 1 from by rw [decide_eq_true q0]; rfl]
    refine h_if (w := 281474977563409) (pc2 := 13) (by decide +kernel) (b := true) (by decide +kernel) (by decide)  (by decide +kernel) ?_
    have hp := hS.2.1.1.1 k (by omega)
    have t4 := (hI.1.2.1 k q0).1.2.2
    refine h_ldr (w := 259) (pc2 := 14) (by decide +kernel) (by decide +kernel) rfl r00 ?_
    refine s_getO (w := 12089258197553666643919638) (pc2 := 17) (by decide +kernel) (c := 0) (by decide +kernel) hW (v := bR 1 0) (Or.inl ⟨rfl, rfl⟩) ?_
    refine s_getHr (w := 70117734431418114537620246) (pc2 := 20) (by decide +kernel) (c := 2) (k := 1) (by decide +kernel) hS.1 hS.2.1 (by decide) ?_
    refine h_ldi (w := 65794) (pc2 := 21) (by decide +kernel) (by decide +kernel) rfl (by omega) ?_
    refine s_aldA (w := 286) (pc2 := 22) (by decide +kernel) (by decide +kernel) hS.1 hS.2.1 (by omega) ?_
    refine s_getA (w := 100340916814990516343735062) (pc2 := 25) (by decide +kernel) (c := 4) (by decide +kernel) hS.1 hS.2.1 q0 ?_
    refine h_ldi (w := 131330) (pc2 := 26) (by decide +kernel) (by decide +kernel) rfl (by omega) ?_
    by_cases q1 : a (100 + 8 * k + 4) = t
    · skip
      refine h_icmp (w := 281474978808594) (pc2 := 29) (by decide +kernel) (b := false) (by decide +kernel) (hS.2.1.2.1.1 _) (by omega) (zc_ne_f q1) ?_
      refine h_con (w := 562949953094145) (pc2 := 31) (by decide +kernel) (v := 4294967291) (by decide +kernel) ?_
      exact h_ret (w := 301) (by decide +kernel) (by decide +kernel) (by decide) (fun h => absurd h (by decide +kernel)) (g _ _ a u hW (Or.inl ⟨⟨by decide, by decide⟩, rfl, rfl⟩))
    · skip
      refine h_icmp (w := 281474978808594) (pc2 := 32) (by decide +kernel) (b := true) (by decide +kernel) (hS.2.1.2.1.1 _) (by omega) (zc_ne_t q1) ?_
      refine h_ldr (w := 259) (pc2 := 33) (by decide +kernel) (by decide +kernel) rfl r00 ?_
      refine h_cv (w := 58035910273133527734813477) (c := 58) (n := 0) (by decide +kernel) (by decide +kernel) rfl (zA_O hW) ⟨Nat.le_of_ble_eq_true rfl, Nat.le_of_ble_eq_true rfl⟩ (show ∀ cx ∈ [bR 0 0], cx < 8589934592 from zl_c r00.2 zl_n) (st2 := []) rfl (l2 := [bR 0 0]) (by show (List.take 1 _).reverse ++ List.replicate (zMaxL 58 - 1) _ = _; rw [show zMaxL 58 = 1 by decide +kernel]; rfl) ?_
      refine m58 hW hT hu (fun m1 hW1 => gF_0 (by decide +kernel) ?_)
      obtain ⟨p1, hS1⟩ := hW1.1
      have hp1 := hS1.2.1.1.1 k (by omega)
      refine h_ldr (w := 259) (pc2 := 37) (by decide +kernel) (by decide +kernel) rfl r00 ?_
      refine s_getO (w := 12089258197553666643919638) (pc2 := 40) (by decide +kernel) (c := 0) (by decide +kernel) hW1 (v := bR 1 0) (Or.inl ⟨rfl, rfl⟩) ?_
      refine s_getHr (w := 70117734431418114537620246) (pc2 := 43) (by decide +kernel) (c := 2) (k := 1) (by decide +kernel) hS1.1 hS1.2.1 (by decide) ?_
      refine h_ldi (w := 65794) (pc2 := 44) (by decide +kernel) (by decide +kernel) rfl (by omega) ?_
      refine s_aldA (w := 286) (pc2 := 45) (by decide +kernel) (by decide +kernel) hS1.1 hS1.2.1 (by omega) ?_
      refine h_ldi (w := 131330) (pc2 := 46) (by decide +kernel) (by decide +kernel) rfl (by omega) ?_
      refine s_putA (w := 100340916814990516343735063) (pc2 := 49) (by decide +kernel) (c := 4) (by decide +kernel) hS1 q0 (by omega) (fun _ => ht) ?_
      intro m2 hS2
      have hW2 := oW_now hW1 hS2
      refine h_ldr (w := 259) (pc2 := 50) (by decide +kernel) (by decide +kernel) rfl r00 ?_
      refine s_getO (w := 12089258197553666643919638) (pc2 := 53) (by decide +kernel) (c := 0) (by decide +kernel) hW2 (v := bR 1 0) (Or.inl ⟨rfl, rfl⟩) ?_
      have hv := sm_le (f := fTi (bU a (100 + 8 * k + 4) t)) (fun _ => i1_le) (bU a (100 + 8 * k + 4) t 1)
      have e1 : bU a (100 + 8 * k + 4) t 1 = a 1 := bU_n (by omega)
      refine h_cv (w := 103975681714299795077399333) (c := 29) (n := 0) (by decide +kernel) (by decide +kernel) rfl (zA_H hS2) ⟨Nat.le_of_ble_eq_true rfl, Nat.le_of_ble_eq_true rfl⟩ (show ∀ cx ∈ [bR 1 0], cx < 8589934592 from zl_c (bR_ref (o := 0) hS2.2.1.2.2 (by omega)).2 zl_n) (st2 := []) rfl (l2 := [bR 1 0, 1099511627776, 1099511627776]) (by show (List.take 1 _).reverse ++ List.replicate (zMaxL 29 - 1) _ = _; rw [show zMaxL 29 = 3 by decide +kernel]; rfl) ?_
      refine m29 hS2 (gF_v (by decide +kernel) ?_)
      exact h_ret (w := 301) (by decide +kernel) (by decide +kernel) (by omega) (fun h => absurd h (by decide +kernel)) (g _ _ _ _ hW2 (Or.inr ⟨(by omega), rfl, ht_ok hI q0 (Or.inr ⟨rfl, ht⟩)⟩))
  · skip
    rw [show i1 (decide (k < a 1)) = 0 from by rw [decide_eq_false q0]; rfl]
    refine h_if (w := 281474977563409) (pc2 := 11) (by decide +kernel) (b := false) (by decide +kernel) (by decide)  (by decide +kernel) ?_
    refine h_con (w := 281474976645377) (pc2 := 12) (by decide +kernel) (v := 4294967295) (by decide +kernel) ?_
    exact h_ret (w := 301) (by decide +kernel) (by decide +kernel) (by decide) (fun h => absurd h (by decide +kernel)) (g _ _ a u hW (Or.inl ⟨⟨by decide, by decide⟩, rfl, rfl⟩))
theorem m47 {k q x0 : Nat} (hW : oW a u m) (hI : vI B a) (hB : B < 90000) (hu : u ≤ 4) (hk : k < 2147483648) (hq : q < 12) (g : ∀ v m' a' u', oW a' u' m' → aR B a u v a' u' → gFin1 sc Q frs 47 v m') : gFin sc Q frs 47 0 [bR 0 0, k, q, x0] [] m := by
  obtain ⟨p, hS⟩ := hW.1
  have h16 := hI.1.1.1
  have hT := aT_v hI.1.2.1
  have hB3 := hI.2.2
  refine h_ldr (w := 259) (pc2 := 1) (by decide +kernel) (by decide +kernel) rfl r00 ?_
  refine s_getO (w := 12089258197553666643919638) (pc2 := 4) (by decide +kernel) (c := 0) (by decide +kernel) hW (v := bR 1 0) (Or.inl ⟨rfl, rfl⟩) ?_
  refine h_ldi (w := 65794) (pc2 := 5) (by decide +kernel) (by decide +kernel) rfl (by omega) ?_
  refine h_cv (w := 66497634694210384839574309) (c := 8) (n := 1) (by decide +kernel) (by decide +kernel) rfl (zA_H hS) ⟨Nat.le_of_ble_eq_true rfl, Nat.le_of_ble_eq_true rfl⟩ (show ∀ cx ∈ [k, bR 1 0], cx < 8589934592 from zl_c (zlo (by omega)) (zl_c (bR_ref (o := 0) hS.2.1.2.2 (by omega)).2 zl_n)) (st2 := []) rfl (l2 := [bR 1 0, k]) (by show (List.take 2 _).reverse ++ List.replicate (zMaxL 8 - 2) _ = _; rw [show zMaxL 8 = 2 by decide +kernel]; rfl) ?_
  refine m8 hS (by omega) (gF_v (by decide +kernel) ?_)
  by_cases q0 : k < a 1
  · skip
    rw [show i1 (decide (k < a 1)) = 1 from by rw [decide_eq_true q0]; rfl]
    refine h_if (w := 1180433) (pc2 := 11) (by decide +kernel) (b := false) (by decide +kernel) (by decide)  (by decide +kernel) ?_
    have hp := hS.2.1.1.1 k (by omega)
    have k0 := (hI.1.2.1 k q0).1.1
    refine h_ldi (w := 131330) (pc2 := 12) (by decide +kernel) (by decide +kernel) rfl (by omega) ?_
    refine h_c8 (w := 49572913026997059644293926) (c := 56) (n := 1) (by decide +kernel) (by decide +kernel) ⟨Nat.le_of_ble_eq_true rfl, Nat.le_of_ble_eq_true rfl⟩ (show ∀ cx ∈ [q], cx < 8589934592 from zl_c (zlo (by omega)) zl_n) (st2 := []) rfl (l2 := [q]) (by show (List.take 1 _).reverse ++ List.replicate (zMaxL 56 - 1) _ = _; rw [show zMaxL 56 = 1 by decide +kernel]; rfl) ?_
    refine m56 hq (gF_v (by decide +kernel) ?_)
    refine h_if (w := 281474978022161) (pc2 := 20) (by decide +kernel) (b := true) (by decide +kernel) (by decide)  (by decide +kernel) ?_
    refine h_ldr (w := 259) (pc2 := 21) (by decide +kernel) (by decide +kernel) rfl r00 ?_
    refine s_getO (w := 12089258197553666643919638) (pc2 := 24) (by decide +kernel) (c := 0) (by decide +kernel) hW (v := bR 1 0) (Or.inl ⟨rfl, rfl⟩) ?_
    refine s_getHr (w := 70117734431418114537620246) (pc2 := 27) (by decide +kernel) (c := 2) (k := 1) (by decide +kernel) hS.1 hS.2.1 (by decide) ?_
    refine h_ldi (w := 65794) (pc2 := 28) (by decide +kernel) (by decide +kernel) rfl (by omega) ?_
    refine s_aldA (w := 286) (pc2 := 29) (by decide +kernel) (by decide +kernel) hS.1 hS.2.1 (by omega) ?_
    refine s_getA (w := 108803323765316625727685398) (pc2 := 32) (by decide +kernel) (c := 0) (by decide +kernel) hS.1 hS.2.1 q0 ?_
    refine h_sti (w := 196868) (pc2 := 33) (by decide +kernel) (n := 4) (by decide +kernel) rfl (by omega) (ls2 := [bR 0 0, k, q, (a (100 + 8 * k + 0))]) rfl ?_
    refine h_ldi (w := 196866) (pc2 := 34) (by decide +kernel) (by decide +kernel) rfl (by omega) ?_
    refine h_ldi (w := 131330) (pc2 := 35) (by decide +kernel) (by decide +kernel) rfl (by omega) ?_
    by_cases q1 : a (100 + 8 * k + 0) = q
    · skip
      refine h_icmp (w := 281474979398418) (pc2 := 38) (by decide +kernel) (b := false) (by decide +kernel) (by omega) (by omega) (zc_ne_f q1) ?_
      refine h_con (w := 562949953094145) (pc2 := 40) (by decide +kernel) (v := 4294967291) (by decide +kernel) ?_
      exact h_ret (w := 301) (by decide +kernel) (by decide +kernel) (by decide) (fun h => absurd h (by decide +kernel)) (g _ _ a u hW (Or.inl ⟨⟨by decide, by decide⟩, rfl, rfl⟩))
    · skip
      refine h_icmp (w := 281474979398418) (pc2 := 41) (by decide +kernel) (b := true) (by decide +kernel) (by omega) (by omega) (zc_ne_t q1) ?_
      refine h_ldr (w := 259) (pc2 := 42) (by decide +kernel) (by decide +kernel) rfl r00 ?_
      refine h_cv (w := 58035910273133527734813477) (c := 58) (n := 0) (by decide +kernel) (by decide +kernel) rfl (zA_O hW) ⟨Nat.le_of_ble_eq_true rfl, Nat.le_of_ble_eq_true rfl⟩ (show ∀ cx ∈ [bR 0 0], cx < 8589934592 from zl_c r00.2 zl_n) (st2 := []) rfl (l2 := [bR 0 0]) (by show (List.take 1 _).reverse ++ List.replicate (zMaxL 58 - 1) _ = _; rw [show zMaxL 58 = 1 by decide +kernel]; rfl) ?_
      refine m58 hW hT hu (fun m1 hW1 => gF_0 (by decide +kernel) ?_)
      obtain ⟨p1, hS1⟩ := hW1.1
      have hp1 := hS1.2.1.1.1 k (by omega)
      refine h_ldr (w := 259) (pc2 := 46) (by decide +kernel) (by decide +kernel) rfl r00 ?_
      refine s_getO (w := 12089258197553666643919638) (pc2 := 49) (by decide +kernel) (c := 0) (by decide +kernel) hW1 (v := bR 1 0) (Or.inl ⟨rfl, rfl⟩) ?_
      refine s_getHr (w := 70117734431418114537620246) (pc2 := 52) (by decide +kernel) (c := 2) (k := 1) (by decide +kernel) hS1.1 hS1.2.1 (by decide) ?_
      refine h_ldi (w := 65794) (pc2 := 53) (by decide +kernel) (by decide +kernel) rfl (by omega) ?_
      refine s_aldA (w := 286) (pc2 := 54) (by decide +kernel) (by decide +kernel) hS1.1 hS1.2.1 (by omega) ?_
      refine h_ldi (w := 131330) (pc2 := 55) (by decide +kernel) (by decide +kernel) rfl (by omega) ?_
      refine s_putA (w := 108803323765316625727685399) (pc2 := 58) (by decide +kernel) (c := 0) (by decide +kernel) hS1 q0 (by omega) (fun h => absurd h (by decide)) ?_
      intro m2 hS2
      have hW2 := oW_now hW1 hS2
      refine h_ldi (w := 196866) (pc2 := 59) (by decide +kernel) (by decide +kernel) rfl (by omega) ?_
      exact h_ret (w := 301) (by decide +kernel) (by decide +kernel) (by omega) (fun h => absurd h (by decide +kernel)) (g _ _ _ _ hW2 (Or.inr ⟨(by omega), rfl, ht_ok hI q0 (Or.inl ⟨rfl, hq⟩)⟩))
  · skip
    rw [show i1 (decide (k < a 1)) = 0 from by rw [decide_eq_false q0]; rfl]
    refine h_if (w := 1180433) (pc2 := 18) (by decide +kernel) (b := true) (by decide +kernel) (by decide)  (by decide +kernel) ?_
    refine h_con (w := 281474976645377) (pc2 := 19) (by decide +kernel) (v := 4294967295) (by decide +kernel) ?_
    exact h_ret (w := 301) (by decide +kernel) (by decide +kernel) (by decide) (fun h => absurd h (by decide +kernel)) (g _ _ a u hW (Or.inl ⟨⟨by decide, by decide⟩, rfl, rfl⟩))
theorem m48 {k q : Nat} (hW : oW a u m) (hI : vI B a) (hB : B < 90000) (hu : u ≤ 4) (hk : k < 2147483648) (hq : q < 12) (g : ∀ v m' a' u', oW a' u' m' → aR B a u v a' u' → gFin1 sc Q frs 48 v m') : gFin sc Q frs 48 0 [bR 0 0, k, q] [] m := by
  obtain ⟨p, hS⟩ := hW.1
  have h16 := hI.1.1.1
  have hT := aT_v hI.1.2.1
  have hB3 := hI.2.2
  refine h_ldr (w := 259) (pc2 := 1) (by decide +kernel) (by decide +kernel) rfl r00 ?_
  refine s_getO (w := 12089258197553666643919638) (pc2 := 4) (by decide +kernel) (c := 0) (by decide +kernel) hW (v := bR 1 0) (Or.inl ⟨rfl, rfl⟩) ?_
  refine h_ldi (w := 65794) (pc2 := 5) (by decide +kernel) (by decide +kernel) rfl (by omega) ?_
  refine h_cv (w := 66497634694210384839574309) (c := 8) (n := 1) (by decide +kernel) (by decide +kernel) rfl (zA_H hS) ⟨Nat.le_of_ble_eq_true rfl, Nat.le_of_ble_eq_true rfl⟩ (show ∀ cx ∈ [k, bR 1 0], cx < 8589934592 from zl_c (zlo (by omega)) (zl_c (bR_ref (o := 0) hS.2.1.2.2 (by omega)).2 zl_n)) (st2 := []) rfl (l2 := [bR 1 0, k]) (by show (List.take 2 _).reverse ++ List.replicate (zMaxL 8 - 2) _ = _; rw [show zMaxL 8 = 2 by decide +kernel]; rfl) ?_
  refine m8 hS (by omega) (gF_v (by decide +kernel) ?_)
  by_cases q0 : k < a 1
  · skip
    rw [show i1 (decide (k < a 1)) = 1 from by rw [decide_eq_true q0]; rfl]
    refine h_if (w := 1180433) (pc2 := 11) (by decide +kernel) (b := false) (by decide +kernel) (by decide)  (by decide +kernel) ?_
    have hp := hS.2.1.1.1 k (by omega)
    obtain ⟨⟨k0, k1, k4⟩, ⟨k2, k3⟩, ki⟩ := hI.1.2.1 k q0
    refine h_ldi (w := 131330) (pc2 := 12) (by decide +kernel) (by decide +kernel) rfl (by omega) ?_
    refine h_c8 (w := 49572913026997059644293926) (c := 56) (n := 1) (by decide +kernel) (by decide +kernel) ⟨Nat.le_of_ble_eq_true rfl, Nat.le_of_ble_eq_true rfl⟩ (show ∀ cx ∈ [q], cx < 8589934592 from zl_c (zlo (by omega)) zl_n) (st2 := []) rfl (l2 := [q]) (by show (List.take 1 _).reverse ++ List.replicate (zMaxL 56 - 1) _ = _; rw [show zMaxL 56 = 1 by decide +kernel]; rfl) ?_
    refine m56 hq (gF_v (by decide +kernel) ?_)
    refine h_if (w := 281474978022161) (pc2 := 20) (by decide +kernel) (b := true) (by decide +kernel) (by decide)  (by decide +kernel) ?_
    refine h_ldr (w := 259) (pc2 := 21) (by decide +kernel) (by decide +kernel) rfl r00 ?_
    refine s_getO (w := 12089258197553666643919638) (pc2 := 24) (by decide +kernel) (c := 0) (by decide +kernel) hW (v := bR 1 0) (Or.inl ⟨rfl, rfl⟩) ?_
    refine s_getHr (w := 70117734431418114537620246) (pc2 := 27) (by decide +kernel) (c := 2) (k := 1) (by decide +kernel) hS.1 hS.2.1 (by decide) ?_
    refine h_ldi (w := 65794) (pc2 := 28) (by decide +kernel) (by decide +kernel) rfl (by omega) ?_
    refine s_aldA (w := 286) (pc2 := 29) (by decide +kernel) (by decide +kernel) hS.1 hS.2.1 (by omega) ?_
    refine s_getA (w := 74953437709595156255408918) (pc2 := 32) (by decide +kernel) (c := 2) (by decide +kernel) hS.1 hS.2.1 q0 ?_
    by_cases q1 : a (100 + 8 * k + 2) = 0
    · skip
      refine h_if (w := 2491153) (pc2 := 38) (by decide +kernel) (b := true) (by decide +kernel) (hS.2.1.2.1.1 _)  (zc_eq_t q1) ?_
      refine h_ldr (w := 259) (pc2 := 39) (by decide +kernel) (by decide +kernel) rfl r00 ?_
      refine s_getO (w := 12089258197553666643919638) (pc2 := 42) (by decide +kernel) (c := 0) (by decide +kernel) hW (v := bR 1 0) (Or.inl ⟨rfl, rfl⟩) ?_
      refine s_getHr (w := 70117734431418114537620246) (pc2 := 45) (by decide +kernel) (c := 2) (k := 1) (by decide +kernel) hS.1 hS.2.1 (by decide) ?_
      refine h_ldi (w := 65794) (pc2 := 46) (by decide +kernel) (by decide +kernel) rfl (by omega) ?_
      refine s_aldA (w := 286) (pc2 := 47) (by decide +kernel) (by decide +kernel) hS.1 hS.2.1 (by omega) ?_
      refine s_getA (w := 85833751639382745118016278) (pc2 := 50) (by decide +kernel) (c := 1) (by decide +kernel) hS.1 hS.2.1 q0 ?_
      refine h_ldi (w := 131330) (pc2 := 51) (by decide +kernel) (by decide +kernel) rfl (by omega) ?_
      by_cases q2 : a (100 + 8 * k + 1) = q
      · skip
        refine h_icmp (w := 281474980446994) (pc2 := 54) (by decide +kernel) (b := false) (by decide +kernel) (hS.2.1.2.1.1 _) (by omega) (zc_ne_f q2) ?_
        refine h_con (w := 562949953094145) (pc2 := 56) (by decide +kernel) (v := 4294967291) (by decide +kernel) ?_
        exact h_ret (w := 301) (by decide +kernel) (by decide +kernel) (by decide) (fun h => absurd h (by decide +kernel)) (g _ _ a u hW (Or.inl ⟨⟨by decide, by decide⟩, rfl, rfl⟩))
      · skip
        refine h_icmp (w := 281474980446994) (pc2 := 57) (by decide +kernel) (b := true) (by decide +kernel) (hS.2.1.2.1.1 _) (by omega) (zc_ne_t q2) ?_
        refine h_ldr (w := 259) (pc2 := 58) (by decide +kernel) (by decide +kernel) rfl r00 ?_
        refine h_cv (w := 58035910273133527734813477) (c := 58) (n := 0) (by decide +kernel) (by decide +kernel) rfl (zA_O hW) ⟨Nat.le_of_ble_eq_true rfl, Nat.le_of_ble_eq_true rfl⟩ (show ∀ cx ∈ [bR 0 0], cx < 8589934592 from zl_c r00.2 zl_n) (st2 := []) rfl (l2 := [bR 0 0]) (by show (List.take 1 _).reverse ++ List.replicate (zMaxL 58 - 1) _ = _; rw [show zMaxL 58 = 1 by decide +kernel]; rfl) ?_
        refine m58 hW hT hu (fun m1 hW1 => gF_0 (by decide +kernel) ?_)
        obtain ⟨p1, hS1⟩ := hW1.1
        have hp1 := hS1.2.1.1.1 k (by omega)
        have b14 := hI.2.2.2.2
        refine h_ldr (w := 259) (pc2 := 62) (by decide +kernel) (by decide +kernel) rfl r00 ?_
        refine s_getO (w := 12089258197553666643919638) (pc2 := 65) (by decide +kernel) (c := 0) (by decide +kernel) hW1 (v := bR 1 0) (Or.inl ⟨rfl, rfl⟩) ?_
        refine h_ldi (w := 65794) (pc2 := 66) (by decide +kernel) (by decide +kernel) rfl (by omega) ?_
        refine h_ldi (w := 131330) (pc2 := 67) (by decide +kernel) (by decide +kernel) rfl (by omega) ?_
        refine h_con (w := 257) (pc2 := 68) (by decide +kernel) (v := 0) (by decide +kernel) ?_
        refine h_cv (w := 112438383813375508743914277) (c := 11) (n := 3) (by decide +kernel) (by decide +kernel) rfl (zA_H hS1) ⟨Nat.le_of_ble_eq_true rfl, Nat.le_of_ble_eq_true rfl⟩ (show ∀ cx ∈ [0, q, k, bR 1 0], cx < 8589934592 from zl_c (zlo (by decide)) (zl_c (zlo (by omega)) (zl_c (zlo (by omega)) (zl_c (bR_ref (o := 0) hS1.2.1.2.2 (by omega)).2 zl_n)))) (st2 := []) rfl (l2 := [bR 1 0, k, q, 0, 1099511627776, 1099511627776]) (by show (List.take 4 _).reverse ++ List.replicate (zMaxL 11 - 4) _ = _; rw [show zMaxL 11 = 6 by decide +kernel]; rfl) ?_
        refine m11 hS1 q0 k1 hq (by omega) (by decide) (fun m2 hS2 => (gF_0 (by decide +kernel) ?_))
        have hW2 := oW_now hW1 hS2
        have ok := dp_ok hI (by omega) q0 q1 hq
        have e1 : mDp a k q 1 = a 1 := mDp_n (by omega) hq (by omega) (by omega) (by omega) (by omega) (by omega) (by omega) (by omega)
        have q3 : k < mDp a k q 1 := by omega
        have o3 := (ok.1.1.2.1 k q3).2.1.2
        refine h_ldr (w := 259) (pc2 := 72) (by decide +kernel) (by decide +kernel) rfl r00 ?_
        refine s_getO (w := 12089258197553666643919638) (pc2 := 75) (by decide +kernel) (c := 0) (by decide +kernel) hW2 (v := bR 1 0) (Or.inl ⟨rfl, rfl⟩) ?_
        refine s_getHr (w := 70117734431418114537620246) (pc2 := 78) (by decide +kernel) (c := 2) (k := 1) (by decide +kernel) hS2.1 hS2.2.1 (by decide) ?_
        refine h_ldi (w := 65794) (pc2 := 79) (by decide +kernel) (by decide +kernel) rfl (by omega) ?_
        refine s_aldA (w := 286) (pc2 := 80) (by decide +kernel) (by decide +kernel) hS2.1 hS2.2.1 (by omega) ?_
        refine s_getA (w := 117265859842851251079938838) (pc2 := 83) (by decide +kernel) (c := 3) (by decide +kernel) hS2.1 hS2.2.1 q3 ?_
        exact h_ret (w := 301) (by decide +kernel) (by decide +kernel) (by omega) (fun h => absurd h (by decide +kernel)) (g _ _ _ _ hW2 (Or.inr ⟨(by omega), rfl, ok⟩))
    · skip
      refine h_if (w := 2491153) (pc2 := 35) (by decide +kernel) (b := false) (by decide +kernel) (hS.2.1.2.1.1 _)  (zc_eq_f q1) ?_
      refine h_con (w := 562949953159681) (pc2 := 37) (by decide +kernel) (v := 4294967292) (by decide +kernel) ?_
      exact h_ret (w := 301) (by decide +kernel) (by decide +kernel) (by decide) (fun h => absurd h (by decide +kernel)) (g _ _ a u hW (Or.inl ⟨⟨by decide, by decide⟩, rfl, rfl⟩))
  · skip
    rw [show i1 (decide (k < a 1)) = 0 from by rw [decide_eq_false q0]; rfl]
    refine h_if (w := 1180433) (pc2 := 18) (by decide +kernel) (b := true) (by decide +kernel) (by decide)  (by decide +kernel) ?_
    refine h_con (w := 281474976645377) (pc2 := 19) (by decide +kernel) (v := 4294967295) (by decide +kernel) ?_
    exact h_ret (w := 301) (by decide +kernel) (by decide +kernel) (by decide) (fun h => absurd h (by decide +kernel)) (g _ _ a u hW (Or.inl ⟨⟨by decide, by decide⟩, rfl, rfl⟩))
theorem m49 {q z : Nat} (hW : oW a u m) (hI : vI B a) (hB : B < 90000) (hu : u ≤ 4) (hq : q < 12) (hz : 1 ≤ z ∧ z ≤ 20) (g : ∀ v m' a' u', oW a' u' m' → aR B a u v a' u' → gFin1 sc Q frs 49 v m') : gFin sc Q frs 49 0 [bR 0 0, q, z] [] m := by
  obtain ⟨p, hS⟩ := hW.1
  have h16 := hI.1.1.1
  have hT := aT_v hI.1.2.1
  have hB3 := hI.2.2
  refine h_ldi (w := 65794) (pc2 := 1) (by decide +kernel) (by decide +kernel) rfl (by omega) ?_
  refine h_c8 (w := 49572913026997059644293926) (c := 56) (n := 1) (by decide +kernel) (by decide +kernel) ⟨Nat.le_of_ble_eq_true rfl, Nat.le_of_ble_eq_true rfl⟩ (show ∀ cx ∈ [q], cx < 8589934592 from zl_c (zlo (by omega)) zl_n) (st2 := []) rfl (l2 := [q]) (by show (List.take 1 _).reverse ++ List.replicate (zMaxL 56 - 1) _ = _; rw [show zMaxL 56 = 1 by decide +kernel]; rfl) ?_
  refine m56 hq (gF_v (by decide +kernel) ?_)
  refine h_if (w := 281474977301265) (pc2 := 9) (by decide +kernel) (b := true) (by decide +kernel) (by decide)  (by decide +kernel) ?_
  refine h_ldi (w := 131330) (pc2 := 10) (by decide +kernel) (by decide +kernel) rfl (by omega) ?_
  refine h_con (w := 65793) (pc2 := 11) (by decide +kernel) (v := 1) (by decide +kernel) ?_
  refine h_icmp (w := 562949954732818) (pc2 := 14) (by decide +kernel) (b := false) (by decide +kernel) (by omega) (by decide) (zc_lt_f (by omega) (by decide) (by omega)) ?_
  refine h_ldi (w := 131330) (pc2 := 15) (by decide +kernel) (by decide +kernel) rfl (by omega) ?_
  refine h_con (w := 281474983199233) (pc2 := 17) (by decide +kernel) (v := 99) (by decide +kernel) ?_
  refine h_icmp (w := 1407374885061394) (pc2 := 23) (by decide +kernel) (b := true) (by decide +kernel) (by omega) (by decide) (zc_le_t (by omega) (by decide) (by omega)) ?_
  refine h_ldr (w := 259) (pc2 := 24) (by decide +kernel) (by decide +kernel) rfl r00 ?_
  refine s_getO (w := 12089258197553666643919638) (pc2 := 27) (by decide +kernel) (c := 0) (by decide +kernel) hW (v := bR 1 0) (Or.inl ⟨rfl, rfl⟩) ?_
  refine s_getHr (w := 80998085254693850819658518) (pc2 := 30) (by decide +kernel) (c := 3) (k := 2) (by decide +kernel) hS.1 hS.2.1 (by decide) ?_
  refine h_ldi (w := 65794) (pc2 := 31) (by decide +kernel) (by decide +kernel) rfl (by omega) ?_
  refine s_aldL (w := 286) (pc2 := 32) (by decide +kernel) (by decide +kernel) hS.1 hS.2.1 hq ?_
  refine s_getLx (w := 89460547545533656307925782) (pc2 := 35) (by decide +kernel) (c := 2) (by decide +kernel) hS.1 hS.2.1 (q := q) hq (x := 300 + 30 * q + 0) (by omega) ?_
  refine h_con (w := 281474977300993) (pc2 := 37) (by decide +kernel) (v := 9) (by decide +kernel) ?_
  have hL9 := (hI.1.2.2.1 q hq).1.1
  by_cases q0 : a (300 + 30 * q + 0) < 9
  · skip
    refine h_icmp (w := 562949956240146) (pc2 := 43) (by decide +kernel) (b := true) (by decide +kernel) (hS.2.1.2.1.1 _) (by decide) (zc_lt_t (by omega) (by decide) q0) ?_
    refine h_ldr (w := 259) (pc2 := 44) (by decide +kernel) (by decide +kernel) rfl r00 ?_
    refine h_cv (w := 58035910273133527734813477) (c := 58) (n := 0) (by decide +kernel) (by decide +kernel) rfl (zA_O hW) ⟨Nat.le_of_ble_eq_true rfl, Nat.le_of_ble_eq_true rfl⟩ (show ∀ cx ∈ [bR 0 0], cx < 8589934592 from zl_c r00.2 zl_n) (st2 := []) rfl (l2 := [bR 0 0]) (by show (List.take 1 _).reverse ++ List.replicate (zMaxL 58 - 1) _ = _; rw [show zMaxL 58 = 1 by decide +kernel]; rfl) ?_
    refine m58 hW hT hu (fun m1 hW1 => gF_0 (by decide +kernel) ?_)
    obtain ⟨p1, hS1⟩ := hW1.1
    refine h_ldr (w := 259) (pc2 := 48) (by decide +kernel) (by decide +kernel) rfl r00 ?_
    refine s_getO (w := 12089258197553666643919638) (pc2 := 51) (by decide +kernel) (c := 0) (by decide +kernel) hW1 (v := bR 1 0) (Or.inl ⟨rfl, rfl⟩) ?_
    refine s_getHr (w := 80998085254693850819658518) (pc2 := 54) (by decide +kernel) (c := 3) (k := 2) (by decide +kernel) hS1.1 hS1.2.1 (by decide) ?_
    refine h_ldi (w := 65794) (pc2 := 55) (by decide +kernel) (by decide +kernel) rfl (by omega) ?_
    refine s_aldL (w := 286) (pc2 := 56) (by decide +kernel) (by decide +kernel) hS1.1 hS1.2.1 hq ?_
    refine h_ldi (w := 131330) (pc2 := 57) (by decide +kernel) (by decide +kernel) rfl (by omega) ?_
    refine h_ldr (w := 259) (pc2 := 58) (by decide +kernel) (by decide +kernel) rfl r00 ?_
    refine s_getO (w := 12089258197553666643919638) (pc2 := 61) (by decide +kernel) (c := 0) (by decide +kernel) hW1 (v := bR 1 0) (Or.inl ⟨rfl, rfl⟩) ?_
    refine s_getHx (w := 120892581961744392455914262) (pc2 := 64) (by decide +kernel) (c := 0) (x := 0) (by decide +kernel) hS1.1 hS1.2.1 (by decide) ?_
    refine h_cv (w := 124527734242960694063465253) (c := 33) (n := 2) (by decide +kernel) (by decide +kernel) rfl (zA_L hS1 (by omega)) ⟨Nat.le_of_ble_eq_true rfl, Nat.le_of_ble_eq_true rfl⟩ (show ∀ cx ∈ [(a 0), z, (bR 1 (25 + 3 * q))], cx < 8589934592 from zl_c (zlo (hS1.2.1.2.1.1 _)) (zl_c (zlo (by omega)) (zl_c (bR_ref (o := (25 + 3 * q)) hS1.2.1.2.2 (by omega)).2 zl_n))) (st2 := []) rfl (l2 := [(bR 1 (25 + 3 * q)), z, (a 0)]) (by show (List.take 3 _).reverse ++ List.replicate (zMaxL 33 - 3) _ = _; rw [show zMaxL 33 = 3 by decide +kernel]; rfl) ?_
    refine m33 hS1 hq q0 (by omega) (hS1.2.1.2.1.1 _) (fun m2 hS2 => (gF_0 (by decide +kernel) ?_))
    have hW2 := oW_now hW1 hS2
    obtain ⟨ok, el⟩ := ap_ok hI hq q0 (show 1 ≤ z ∧ z ≤ 99 by omega)
    refine h_ldr (w := 259) (pc2 := 68) (by decide +kernel) (by decide +kernel) rfl r00 ?_
    refine s_getO (w := 12089258197553666643919638) (pc2 := 71) (by decide +kernel) (c := 0) (by decide +kernel) hW2 (v := bR 1 0) (Or.inl ⟨rfl, rfl⟩) ?_
    refine s_getHr (w := 80998085254693850819658518) (pc2 := 74) (by decide +kernel) (c := 3) (k := 2) (by decide +kernel) hS2.1 hS2.2.1 (by decide) ?_
    refine h_ldi (w := 65794) (pc2 := 75) (by decide +kernel) (by decide +kernel) rfl (by omega) ?_
    refine s_aldL (w := 286) (pc2 := 76) (by decide +kernel) (by decide +kernel) hS2.1 hS2.2.1 hq ?_
    refine s_getLx (w := 89460547545533656307925782) (pc2 := 79) (by decide +kernel) (c := 2) (by decide +kernel) hS2.1 hS2.2.1 (q := q) hq (x := 300 + 30 * q + 0) (by omega) ?_
    exact h_ret (w := 301) (by decide +kernel) (by decide +kernel) (by omega) (fun h => absurd h (by decide +kernel)) (g _ _ _ _ hW2 (Or.inr ⟨(by omega), rfl, ok⟩))
  · skip
    refine h_icmp (w := 562949956240146) (pc2 := 40) (by decide +kernel) (b := false) (by decide +kernel) (hS.2.1.2.1.1 _) (by decide) (zc_lt_f (by omega) (by decide) (by omega)) ?_
    refine h_con (w := 562949953225217) (pc2 := 42) (by decide +kernel) (v := 4294967293) (by decide +kernel) ?_
    exact h_ret (w := 301) (by decide +kernel) (by decide +kernel) (by decide) (fun h => absurd h (by decide +kernel)) (g _ _ a u hW (Or.inl ⟨⟨by decide, by decide⟩, rfl, rfl⟩))
theorem m50 {t x0 : Nat} (hW : oW a u m) (hI : vI B a) (hB : B < 90000) (hu : u ≤ 4) (ht : 1 ≤ t ∧ t ≤ 60) (g : ∀ m', oW (mPs t a) (mU u) m' → gFin1 sc Q frs 50 (sub1 (mPs t a 2) (a 2)) m') : gFin sc Q frs 50 0 [bR 0 0, t, x0] [] m := by
  obtain ⟨p, hS⟩ := hW.1
  have h16 := hI.1.1.1
  have hT := aT_v hI.1.2.1
  have hB3 := hI.2.2
  have b0 := hI.2.2.1.1
  refine h_ldi (w := 65794) (pc2 := 1) (by decide +kernel) (by decide +kernel) rfl (by omega) ?_
  refine h_con (w := 65793) (pc2 := 2) (by decide +kernel) (v := 1) (by decide +kernel) ?_
  refine h_icmp (w := 562949954208530) (pc2 := 5) (by decide +kernel) (b := false) (by decide +kernel) (by omega) (by decide) (zc_lt_f (by omega) (by decide) (by omega)) ?_
  refine h_ldi (w := 65794) (pc2 := 6) (by decide +kernel) (by decide +kernel) rfl (by omega) ?_
  refine h_con (w := 562949966529281) (pc2 := 9) (by decide +kernel) (v := 200) (by decide +kernel) ?_
  refine h_icmp (w := 1407374884537106) (pc2 := 15) (by decide +kernel) (b := true) (by decide +kernel) (by omega) (by decide) (zc_le_t (by omega) (by decide) (by omega)) ?_
  refine h_ldr (w := 259) (pc2 := 16) (by decide +kernel) (by decide +kernel) rfl r00 ?_
  refine s_getO (w := 12089258197553666643919638) (pc2 := 19) (by decide +kernel) (c := 0) (by decide +kernel) hW (v := bR 1 0) (Or.inl ⟨rfl, rfl⟩) ?_
  refine s_getHx (w := 120892581961744392455914262) (pc2 := 22) (by decide +kernel) (c := 0) (x := 0) (by decide +kernel) hS.1 hS.2.1 (by decide) ?_
  refine h_ldi (w := 65794) (pc2 := 23) (by decide +kernel) (by decide +kernel) rfl (by omega) ?_
  refine h_add (w := 263) (pc2 := 24) (by decide +kernel) (by decide +kernel) (hS.2.1.2.1.1 _) (by omega) (c := (a 0 + t)) (Nat.mod_eq_of_lt (by omega)) ?_
  refine h_con (w := 573033218128164168826552833) (pc2 := 26) (by decide +kernel) (v := 99999) (by decide +kernel) ?_
  refine h_icmp (w := 1407374885651218) (pc2 := 32) (by decide +kernel) (b := true) (by decide +kernel) (by omega) (by decide) (zc_le_t (by omega) (by decide) (by omega)) ?_
  refine h_ldr (w := 259) (pc2 := 33) (by decide +kernel) (by decide +kernel) rfl r00 ?_
  refine h_cv (w := 58035910273133527734813477) (c := 58) (n := 0) (by decide +kernel) (by decide +kernel) rfl (zA_O hW) ⟨Nat.le_of_ble_eq_true rfl, Nat.le_of_ble_eq_true rfl⟩ (show ∀ cx ∈ [bR 0 0], cx < 8589934592 from zl_c r00.2 zl_n) (st2 := []) rfl (l2 := [bR 0 0]) (by show (List.take 1 _).reverse ++ List.replicate (zMaxL 58 - 1) _ = _; rw [show zMaxL 58 = 1 by decide +kernel]; rfl) ?_
  refine m58 hW hT hu (fun m1 hW1 => gF_0 (by decide +kernel) ?_)
  obtain ⟨p1, hS1⟩ := hW1.1
  refine h_ldr (w := 259) (pc2 := 37) (by decide +kernel) (by decide +kernel) rfl r00 ?_
  refine s_getO (w := 12089258197553666643919638) (pc2 := 40) (by decide +kernel) (c := 0) (by decide +kernel) hW1 (v := bR 1 0) (Or.inl ⟨rfl, rfl⟩) ?_
  refine s_getHx (w := 157160504124135857374561046) (pc2 := 43) (by decide +kernel) (c := 8) (x := 2) (by decide +kernel) hS1.1 hS1.2.1 (by decide) ?_
  refine h_sti (w := 131332) (pc2 := 44) (by decide +kernel) (n := 3) (by decide +kernel) rfl (hS1.2.1.2.1.1 _) (ls2 := [bR 0 0, t, (a 2)]) rfl ?_
  refine h_ldr (w := 259) (pc2 := 45) (by decide +kernel) (by decide +kernel) rfl r00 ?_
  refine s_getO (w := 12089258197553666643919638) (pc2 := 48) (by decide +kernel) (c := 0) (by decide +kernel) hW1 (v := bR 1 0) (Or.inl ⟨rfl, rfl⟩) ?_
  refine h_ldi (w := 65794) (pc2 := 49) (by decide +kernel) (by decide +kernel) rfl (by omega) ?_
  refine h_cv (w := 160791745695327057578099493) (c := 13) (n := 1) (by decide +kernel) (by decide +kernel) rfl (zA_H hS1) ⟨Nat.le_of_ble_eq_true rfl, Nat.le_of_ble_eq_true rfl⟩ (show ∀ cx ∈ [t, bR 1 0], cx < 8589934592 from zl_c (zlo (by omega)) (zl_c (bR_ref (o := 0) hS1.2.1.2.2 (by omega)).2 zl_n)) (st2 := []) rfl (l2 := [bR 1 0, t, 1099511627776]) (by show (List.take 2 _).reverse ++ List.replicate (zMaxL 13 - 2) _ = _; rw [show zMaxL 13 = 3 by decide +kernel]; rfl) ?_
  refine m13 hS1 (by omega) (run_ok hI (show B + t < 1000000 by omega)).1 (fun m2 hS2 => (gF_0 (by decide +kernel) ?_))
  have hW2 := oW_now hW1 hS2
  refine h_ldr (w := 259) (pc2 := 53) (by decide +kernel) (by decide +kernel) rfl r00 ?_
  refine s_getO (w := 12089258197553666643919638) (pc2 := 56) (by decide +kernel) (c := 0) (by decide +kernel) hW2 (v := bR 1 0) (Or.inl ⟨rfl, rfl⟩) ?_
  refine s_getHx (w := 157160504124135857374561046) (pc2 := 59) (by decide +kernel) (c := 8) (x := 2) (by decide +kernel) hS2.1 hS2.2.1 (by decide) ?_
  refine h_ldi (w := 131330) (pc2 := 60) (by decide +kernel) (by decide +kernel) rfl (hS1.2.1.2.1.1 _) ?_
  refine h_sub (w := 264) (pc2 := 61) (by decide +kernel) (by decide +kernel) (hS2.2.1.2.1.1 _) (hS1.2.1.2.1.1 _) (c := (sub1 (mPs t a 2) (a 2))) sub1_eq ?_
  exact h_ret (w := 301) (by decide +kernel) (by decide +kernel) sub1_lt (fun h => absurd h (by decide +kernel)) (g _ hW2)
theorem m51 {w z x0 : Nat} (hW : oW a u m) (hI : vI B a) (hB : B < 90000) (hu : u ≤ 4) (hw : w < 5) (hz : 1 ≤ z ∧ z ≤ 20) (g : ∀ v m' a' u', oW a' u' m' → aR B a u v a' u' → gFin1 sc Q frs 51 v m') : gFin sc Q frs 51 0 [bR 0 0, w, z, x0] [] m := by
  obtain ⟨p, hS⟩ := hW.1
  have h16 := hI.1.1.1
  have hT := aT_v hI.1.2.1
  have hB3 := hI.2.2
  obtain ⟨c1, c2, c3⟩ := zCT_v hw
  refine h_ldi (w := 65794) (pc2 := 1) (by decide +kernel) (by decide +kernel) rfl (by omega) ?_
  refine h_if (w := 562949954011921) (pc2 := 4) (by decide +kernel) (b := false) (by decide +kernel) (by omega)  (zc_lt_f (by omega) (by decide) (by omega)) ?_
  refine h_ldi (w := 65794) (pc2 := 5) (by decide +kernel) (by decide +kernel) rfl (by omega) ?_
  refine h_con (w := 327937) (pc2 := 6) (by decide +kernel) (v := 5) (by decide +kernel) ?_
  refine h_icmp (w := 562949954142994) (pc2 := 11) (by decide +kernel) (b := true) (by decide +kernel) (by omega) (by decide) (zc_lt_t (by omega) (by decide) hw) ?_
  refine h_ldi (w := 131330) (pc2 := 12) (by decide +kernel) (by decide +kernel) rfl (by omega) ?_
  refine h_gst (w := 164413911467871042767029017) (pc2 := 15) (by decide +kernel) (v := 8589934593) (by decide +kernel) ?_
  refine h_ldi (w := 65794) (pc2 := 16) (by decide +kernel) (by decide +kernel) rfl (by omega) ?_
  refine h_alds (w := 282) (pc2 := 17) (by decide +kernel) (by decide +kernel) (by decide) hw (v := (zCT 1).getD w 0) rfl ?_
  refine h_icmp (w := 562949955322642) (pc2 := 20) (by decide +kernel) (b := false) (by decide +kernel) (by omega) (by omega) (zc_lt_f (by omega) (by omega) (by omega)) ?_
  refine h_ldi (w := 131330) (pc2 := 21) (by decide +kernel) (by decide +kernel) rfl (by omega) ?_
  refine h_gst (w := 168040688926996405267989273) (pc2 := 24) (by decide +kernel) (v := 8589934594) (by decide +kernel) ?_
  refine h_ldi (w := 65794) (pc2 := 25) (by decide +kernel) (by decide +kernel) rfl (by omega) ?_
  refine h_alds (w := 282) (pc2 := 26) (by decide +kernel) (by decide +kernel) (by decide) hw (v := (zCT 2).getD w 0) rfl ?_
  refine h_icmp (w := 1407374885651218) (pc2 := 32) (by decide +kernel) (b := true) (by decide +kernel) (by omega) (by omega) (zc_le_t (by omega) (by omega) (by omega)) ?_
  refine h_ldr (w := 259) (pc2 := 33) (by decide +kernel) (by decide +kernel) rfl r00 ?_
  refine s_getO (w := 12089258197553666643919638) (pc2 := 36) (by decide +kernel) (c := 0) (by decide +kernel) hW (v := bR 1 0) (Or.inl ⟨rfl, rfl⟩) ?_
  refine s_getHr (w := 171667540172535112632304406) (pc2 := 39) (by decide +kernel) (c := 4) (k := 3) (by decide +kernel) hS.1 hS.2.1 (by decide) ?_
  refine h_ldi (w := 65794) (pc2 := 40) (by decide +kernel) (by decide +kernel) rfl (by omega) ?_
  refine s_aldS (w := 282) (pc2 := 41) (by decide +kernel) (by decide +kernel) hS.1 hS.2.1 (j := w) (by omega) ?_
  refine h_sti (w := 196868) (pc2 := 42) (by decide +kernel) (n := 4) (by decide +kernel) rfl (hS.2.1.2.1.1 _) (ls2 := [bR 0 0, w, z, (a (5 + w))]) rfl ?_
  refine h_ldi (w := 196866) (pc2 := 43) (by decide +kernel) (by decide +kernel) rfl (hS.2.1.2.1.1 _) ?_
  refine h_ldi (w := 131330) (pc2 := 44) (by decide +kernel) (by decide +kernel) rfl (by omega) ?_
  by_cases q0 : a (5 + w) = z
  · skip
    refine h_icmp (w := 281474979988242) (pc2 := 47) (by decide +kernel) (b := false) (by decide +kernel) (hS.2.1.2.1.1 _) (by omega) (zc_ne_f q0) ?_
    refine h_con (w := 562949953094145) (pc2 := 49) (by decide +kernel) (v := 4294967291) (by decide +kernel) ?_
    exact h_ret (w := 301) (by decide +kernel) (by decide +kernel) (by decide) (fun h => absurd h (by decide +kernel)) (g _ _ a u hW (Or.inl ⟨⟨by decide, by decide⟩, rfl, rfl⟩))
  · skip
    refine h_icmp (w := 281474979988242) (pc2 := 50) (by decide +kernel) (b := true) (by decide +kernel) (hS.2.1.2.1.1 _) (by omega) (zc_ne_t q0) ?_
    refine h_ldr (w := 259) (pc2 := 51) (by decide +kernel) (by decide +kernel) rfl r00 ?_
    refine h_cv (w := 58035910273133527734813477) (c := 58) (n := 0) (by decide +kernel) (by decide +kernel) rfl (zA_O hW) ⟨Nat.le_of_ble_eq_true rfl, Nat.le_of_ble_eq_true rfl⟩ (show ∀ cx ∈ [bR 0 0], cx < 8589934592 from zl_c r00.2 zl_n) (st2 := []) rfl (l2 := [bR 0 0]) (by show (List.take 1 _).reverse ++ List.replicate (zMaxL 58 - 1) _ = _; rw [show zMaxL 58 = 1 by decide +kernel]; rfl) ?_
    refine m58 hW hT hu (fun m1 hW1 => gF_0 (by decide +kernel) ?_)
    obtain ⟨p1, hS1⟩ := hW1.1
    refine h_ldr (w := 259) (pc2 := 55) (by decide +kernel) (by decide +kernel) rfl r00 ?_
    refine s_getO (w := 12089258197553666643919638) (pc2 := 58) (by decide +kernel) (c := 0) (by decide +kernel) hW1 (v := bR 1 0) (Or.inl ⟨rfl, rfl⟩) ?_
    refine h_ldi (w := 65794) (pc2 := 59) (by decide +kernel) (by decide +kernel) rfl (by omega) ?_
    refine h_ldi (w := 131330) (pc2 := 60) (by decide +kernel) (by decide +kernel) rfl (by omega) ?_
    refine h_cv (w := 175302840027704003914367781) (c := 12) (n := 2) (by decide +kernel) (by decide +kernel) rfl (zA_H hS1) ⟨Nat.le_of_ble_eq_true rfl, Nat.le_of_ble_eq_true rfl⟩ (show ∀ cx ∈ [z, w, bR 1 0], cx < 8589934592 from zl_c (zlo (by omega)) (zl_c (zlo (by omega)) (zl_c (bR_ref (o := 0) hS1.2.1.2.2 (by omega)).2 zl_n))) (st2 := []) rfl (l2 := [bR 1 0, w, z, 1099511627776]) (by show (List.take 3 _).reverse ++ List.replicate (zMaxL 12 - 3) _ = _; rw [show zMaxL 12 = 4 by decide +kernel]; rfl) ?_
    refine m12 hS1 hw (by omega) (fun m2 hS2 => (gF_0 (by decide +kernel) ?_))
    have hW2 := oW_now hW1 hS2
    have h5 : a (5 + w) < 2147483648 := by
      obtain ⟨t5, t6, t7, t8⟩ := hI.1.1.2
      have t9 := hI.2.1.2.2.2
      rcases (show w = 0 ∨ w = 1 ∨ w = 2 ∨ w = 3 ∨ w = 4 by omega) with rfl | rfl | rfl | rfl | rfl
      · exact (show a 5 < 2147483648 by omega)
      · exact (show a 6 < 2147483648 by omega)
      · exact (show a 7 < 2147483648 by omega)
      · exact (show a 8 < 2147483648 by omega)
      · exact (show a 9 < 2147483648 by omega)
    refine h_ldi (w := 196866) (pc2 := 64) (by decide +kernel) (by decide +kernel) rfl (hS.2.1.2.1.1 _) ?_
    exact h_ret (w := 301) (by decide +kernel) (by decide +kernel) (by omega) (fun h => absurd h (by decide +kernel)) (g _ _ _ _ hW2 (Or.inr ⟨(by omega), rfl, ch_ok hI (by omega) hw hz⟩))
end BG
