/-! ===== the law looks at a harbour (printed by wip/gen/m898.py) ===== -/
section VW
variable {a : Nat → Nat} {u B : Nat} {q : Nat}
def fDg (a : Nat → Nat) (i : Nat) : Nat := a (100 + 8 * i + 2)
theorem sm_mo {f : Nat → Nat} {k : Nat} : ∀ n, k ≤ n → sm k f ≤ sm n f
  | 0, h => by rw [show k = 0 by omega]; exact Nat.le_refl _
  | n + 1, h => by
    by_cases q : k = n + 1
    · rw [q]
      exact Nat.le_refl _
    · exact Nat.le_trans (sm_mo n (by omega)) (Nat.le_add_right _ _)
theorem fDo_all : ∀ n, (∀ i, i < n → a (100 + 8 * i + 2) ≤ 2) → sm n (fDo a 1) + sm n (fDo a 0) + sm n (fDo a 2) = n
  | 0, _ => rfl
  | n + 1, h => by
    have ih := fDo_all n (fun i hi => h i (by omega))
    have hn := h n (Nat.lt_succ_self n)
    have e : fDo a 1 n + fDo a 0 n + fDo a 2 n = 1 := by
      rcases (show a (100 + 8 * n + 2) = 0 ∨ a (100 + 8 * n + 2) = 1 ∨ a (100 + 8 * n + 2) = 2 by omega) with z | z | z
      · rw [fDo_0 (d := 1) (by omega), fDo_1 z, fDo_0 (d := 2) (by omega)]
      · rw [fDo_1 z, fDo_0 (d := 0) (by omega), fDo_0 (d := 2) (by omega)]
      · rw [fDo_0 (d := 1) (by omega), fDo_0 (d := 0) (by omega), fDo_1 z]
    show (sm n (fDo a 1) + fDo a 1 n) + (sm n (fDo a 0) + fDo a 0 n) + (sm n (fDo a 2) + fDo a 2 n) = n + 1
    omega
theorem mSum_v : ∀ (d j s : Nat), (∀ i, i < j + d → 1 ≤ a (303 + 30 * q + i) ∧ a (303 + 30 * q + i) ≤ 99) → s + 99 * d < 4294967296 → s + d ≤ mSum a q d j s ∧ mSum a q d j s ≤ s + 99 * d
  | 0, _, s, _, _ => ⟨Nat.le_refl _, Nat.le_refl _⟩
  | d + 1, j, s, h, hb => by
    have hj := h j (by omega)
    have e : add1 s (a (303 + 30 * q + j)) = s + a (303 + 30 * q + j) := Nat.mod_eq_of_lt (by omega)
    have ih := mSum_v d (j + 1) (add1 s (a (303 + 30 * q + j))) (fun i hi => h i (by omega)) (by omega)
    show s + (d + 1) ≤ mSum a q d (j + 1) (add1 s (a (303 + 30 * q + j))) ∧ mSum a q d (j + 1) (add1 s (a (303 + 30 * q + j))) ≤ s + 99 * (d + 1)
    omega
theorem mWt_v (hL : vL a) : ∀ (d q s : Nat), q + d ≤ 12 → s + 9 * d < 4294967296 → mWt a d q s ≤ s + 9 * d
  | 0, _, s, _, _ => Nat.le_refl _
  | d + 1, q, s, h, hb => by
    have hq := (hL q (by omega)).1.1
    have e : add1 s (a (300 + 30 * q + 0)) = s + a (300 + 30 * q + 0) := Nat.mod_eq_of_lt (by omega)
    have ih := mWt_v hL d (q + 1) (add1 s (a (300 + 30 * q + 0))) (by omega) (by omega)
    show mWt a d (q + 1) (add1 s (a (300 + 30 * q + 0))) ≤ s + 9 * (d + 1)
    omega
theorem mIt_0 {k : Nat} (h : a (100 + 8 * k + 2) ≠ 0) : mIt a k = 0 := by
  unfold mIt mAw
  rw [nb_ne.mpr h]
  rfl
end VW
section BG
variable {sc : List Nat} {Q : Nat → zM → Prop} {frs : gCf} {m : zM} {a : Nat → Nat} {u B : Nat}
theorem m62_end {tk s t v x y : Nat} (hW : oW a u m) (hu : u ≤ 4) (hI : vI B a) (hB : B < 90000) (ht : tk < 2) (hs : s < 2147483648) (hd : t = a 2) (hv : v ≤ a 2) (g : gFin1 sc Q frs 62 1 m) : gFin sc Q frs 62 305 [bR 0 0, tk, s, t, v, 1, x, y] [] m := by
  obtain ⟨⟨⟨h16, hT⟩, hA, hL, hD⟩, hN, hB3⟩ := hI
  have b2 := hB3.1.2
  have b3 := hB3.2.1
  have b0 := hB3.1.1
  have n0 : a (5 + 2) ≤ a (10 + 0) ∧ a (10 + 0) ≤ 64 := hN.1.1
  have n1 : a (5 + 3) ≤ a (10 + 1) ∧ a (10 + 1) ≤ 64 := hN.1.2
  have n2 : a 0 < a (12 + 0) ∧ a (12 + 0) ≤ a 0 + 64 := hN.2.1
  have n3 : a 0 < a (12 + 1) ∧ a (12 + 1) ≤ a 0 + 64 := hN.2.2.1
  have w5 := mWt_v hL 12 0 0 (by decide) (by decide)
  refine h_con (w := 257) (pc2 := 306) (by decide +kernel) (v := 0) (by decide +kernel) ?_
  refine h_sti (w := 281474977104388) (pc2 := 308) (by decide +kernel) (n := 8) (by decide +kernel) rfl (by decide) (ls2 := [bR 0 0, tk, s, t, v, 1, 0, y]) rfl ?_
  refine h_ldi (w := 281474977104386) (pc2 := 310) (by decide +kernel) (by decide +kernel) rfl (by decide) ?_
  refine h_con (w := 131329) (pc2 := 311) (by decide +kernel) (v := 2) (by decide +kernel) ?_
  refine h_icmp (w := 844424955298578) (pc2 := 314) (by decide +kernel) (b := false) (by decide +kernel) (by decide) (by decide) (zc_ge_f (by decide) (by decide) (by decide)) ?_
  refine h_ldi (w := 281474977038850) (pc2 := 316) (by decide +kernel) (by decide +kernel) rfl (by decide) ?_
  refine h_if (w := 25166609) (pc2 := 319) (by decide +kernel) (b := false) (by decide +kernel) (by decide)  (zc_eq_f (by decide)) ?_
  refine h_ldr (w := 259) (pc2 := 320) (by decide +kernel) (by decide +kernel) rfl r00 ?_
  refine h_con (w := 281474977366529) (pc2 := 322) (by decide +kernel) (v := 10) (by decide +kernel) ?_
  refine h_ldi (w := 281474977104386) (pc2 := 324) (by decide +kernel) (by decide +kernel) rfl (by decide) ?_
  refine h_add (w := 263) (pc2 := 325) (by decide +kernel) (by decide +kernel) (by decide) (by decide) (c := 10) (by decide) ?_
  refine h_cv (w := 10886548929847452648276773) (c := 55) (n := 1) (by decide +kernel) (by decide +kernel) rfl (zA_O hW) ⟨Nat.le_of_ble_eq_true rfl, Nat.le_of_ble_eq_true rfl⟩ (show ∀ cx ∈ [10, bR 0 0], cx < 8589934592 from zl_c (zlo (by decide)) (zl_c r00.2 zl_n)) (st2 := []) rfl (l2 := [bR 0 0, 10]) (by show (List.take 2 _).reverse ++ List.replicate (zMaxL 55 - 2) _ = _; rw [show zMaxL 55 = 2 by decide +kernel]; rfl) ?_
  refine m55_10 hW hu (gF_v (by decide +kernel) ?_)
  refine h_ldr (w := 259) (pc2 := 329) (by decide +kernel) (by decide +kernel) rfl r00 ?_
  refine h_con (w := 281474977759745) (pc2 := 331) (by decide +kernel) (v := 16) (by decide +kernel) ?_
  refine h_ldi (w := 281474977104386) (pc2 := 333) (by decide +kernel) (by decide +kernel) rfl (by decide) ?_
  refine h_add (w := 263) (pc2 := 334) (by decide +kernel) (by decide +kernel) (by decide) (by decide) (c := 16) (by decide) ?_
  refine h_cv (w := 10886548929847452648276773) (c := 55) (n := 1) (by decide +kernel) (by decide +kernel) rfl (zA_O hW) ⟨Nat.le_of_ble_eq_true rfl, Nat.le_of_ble_eq_true rfl⟩ (show ∀ cx ∈ [16, bR 0 0], cx < 8589934592 from zl_c (zlo (by decide)) (zl_c r00.2 zl_n)) (st2 := [(a (10 + 0))]) rfl (l2 := [bR 0 0, 16]) (by show (List.take 2 _).reverse ++ List.replicate (zMaxL 55 - 2) _ = _; rw [show zMaxL 55 = 2 by decide +kernel]; rfl) ?_
  refine m55_16 hW hu (gF_v (by decide +kernel) ?_)
  refine h_icmp (w := 562949977998098) (pc2 := 340) (by decide +kernel) (b := false) (by decide +kernel) (by omega) (by omega) (zc_lt_f (by omega) (by omega) (by omega)) ?_
  refine h_ldr (w := 259) (pc2 := 341) (by decide +kernel) (by decide +kernel) rfl r00 ?_
  refine h_con (w := 281474977366529) (pc2 := 343) (by decide +kernel) (v := 10) (by decide +kernel) ?_
  refine h_ldi (w := 281474977104386) (pc2 := 345) (by decide +kernel) (by decide +kernel) rfl (by decide) ?_
  refine h_add (w := 263) (pc2 := 346) (by decide +kernel) (by decide +kernel) (by decide) (by decide) (c := 10) (by decide) ?_
  refine h_cv (w := 10886548929847452648276773) (c := 55) (n := 1) (by decide +kernel) (by decide +kernel) rfl (zA_O hW) ⟨Nat.le_of_ble_eq_true rfl, Nat.le_of_ble_eq_true rfl⟩ (show ∀ cx ∈ [10, bR 0 0], cx < 8589934592 from zl_c (zlo (by decide)) (zl_c r00.2 zl_n)) (st2 := []) rfl (l2 := [bR 0 0, 10]) (by show (List.take 2 _).reverse ++ List.replicate (zMaxL 55 - 2) _ = _; rw [show zMaxL 55 = 2 by decide +kernel]; rfl) ?_
  refine m55_10 hW hu (gF_v (by decide +kernel) ?_)
  refine h_con (w := 281474980905473) (pc2 := 351) (by decide +kernel) (v := 64) (by decide +kernel) ?_
  refine h_icmp (w := 1125899931419410) (pc2 := 354) (by decide +kernel) (b := false) (by decide +kernel) (by omega) (by decide) (zc_gt_f (by omega) (by decide) (by omega)) ?_
  refine h_ldr (w := 259) (pc2 := 355) (by decide +kernel) (by decide +kernel) rfl r00 ?_
  refine h_con (w := 281474977497601) (pc2 := 357) (by decide +kernel) (v := 12) (by decide +kernel) ?_
  refine h_ldi (w := 281474977104386) (pc2 := 359) (by decide +kernel) (by decide +kernel) rfl (by decide) ?_
  refine h_add (w := 263) (pc2 := 360) (by decide +kernel) (by decide +kernel) (by decide) (by decide) (c := 12) (by decide) ?_
  refine h_cv (w := 10886548929847452648276773) (c := 55) (n := 1) (by decide +kernel) (by decide +kernel) rfl (zA_O hW) ⟨Nat.le_of_ble_eq_true rfl, Nat.le_of_ble_eq_true rfl⟩ (show ∀ cx ∈ [12, bR 0 0], cx < 8589934592 from zl_c (zlo (by decide)) (zl_c r00.2 zl_n)) (st2 := []) rfl (l2 := [bR 0 0, 12]) (by show (List.take 2 _).reverse ++ List.replicate (zMaxL 55 - 2) _ = _; rw [show zMaxL 55 = 2 by decide +kernel]; rfl) ?_
  refine m55_12 hW hu (gF_v (by decide +kernel) ?_)
  refine h_ldr (w := 259) (pc2 := 364) (by decide +kernel) (by decide +kernel) rfl r00 ?_
  refine h_con (w := 257) (pc2 := 365) (by decide +kernel) (v := 0) (by decide +kernel) ?_
  refine h_cv (w := 10886548929847452648276773) (c := 55) (n := 1) (by decide +kernel) (by decide +kernel) rfl (zA_O hW) ⟨Nat.le_of_ble_eq_true rfl, Nat.le_of_ble_eq_true rfl⟩ (show ∀ cx ∈ [0, bR 0 0], cx < 8589934592 from zl_c (zlo (by decide)) (zl_c r00.2 zl_n)) (st2 := [(a (12 + 0))]) rfl (l2 := [bR 0 0, 0]) (by show (List.take 2 _).reverse ++ List.replicate (zMaxL 55 - 2) _ = _; rw [show zMaxL 55 = 2 by decide +kernel]; rfl) ?_
  refine m55_0 hW hu (gF_v (by decide +kernel) ?_)
  refine h_icmp (w := 562949977998098) (pc2 := 371) (by decide +kernel) (b := false) (by decide +kernel) (by omega) (by omega) (zc_lt_f (by omega) (by omega) (by omega)) ?_
  refine h_con (w := 65793) (pc2 := 372) (by decide +kernel) (v := 1) (by decide +kernel) ?_
  refine h_goto (w := 24642323) (pc2 := 376) (by decide +kernel) (by decide +kernel) ?_
  refine h_sti (w := 281474977038852) (pc2 := 378) (by decide +kernel) (n := 8) (by decide +kernel) rfl (by decide) (ls2 := [bR 0 0, tk, s, t, v, 1, 0, y]) rfl ?_
  refine h_inc (w := 1688849860330246) (pc2 := 381) (by decide +kernel) (by decide +kernel) rfl (by decide) (c2 := 1) (by show (_ + 1) % 4294967296 = _; omega) (ls2 := [bR 0 0, tk, s, t, v, 1, 1, y]) rfl ?_
  refine h_goto (w := 20185875) (pc2 := 308) (by decide +kernel) (by decide +kernel) ?_
  refine h_ldi (w := 281474977104386) (pc2 := 310) (by decide +kernel) (by decide +kernel) rfl (by decide) ?_
  refine h_con (w := 131329) (pc2 := 311) (by decide +kernel) (v := 2) (by decide +kernel) ?_
  refine h_icmp (w := 844424955298578) (pc2 := 314) (by decide +kernel) (b := false) (by decide +kernel) (by decide) (by decide) (zc_ge_f (by decide) (by decide) (by decide)) ?_
  refine h_ldi (w := 281474977038850) (pc2 := 316) (by decide +kernel) (by decide +kernel) rfl (by decide) ?_
  refine h_if (w := 25166609) (pc2 := 319) (by decide +kernel) (b := false) (by decide +kernel) (by decide)  (zc_eq_f (by decide)) ?_
  refine h_ldr (w := 259) (pc2 := 320) (by decide +kernel) (by decide +kernel) rfl r00 ?_
  refine h_con (w := 281474977366529) (pc2 := 322) (by decide +kernel) (v := 10) (by decide +kernel) ?_
  refine h_ldi (w := 281474977104386) (pc2 := 324) (by decide +kernel) (by decide +kernel) rfl (by decide) ?_
  refine h_add (w := 263) (pc2 := 325) (by decide +kernel) (by decide +kernel) (by decide) (by decide) (c := 11) (by decide) ?_
  refine h_cv (w := 10886548929847452648276773) (c := 55) (n := 1) (by decide +kernel) (by decide +kernel) rfl (zA_O hW) ⟨Nat.le_of_ble_eq_true rfl, Nat.le_of_ble_eq_true rfl⟩ (show ∀ cx ∈ [11, bR 0 0], cx < 8589934592 from zl_c (zlo (by decide)) (zl_c r00.2 zl_n)) (st2 := []) rfl (l2 := [bR 0 0, 11]) (by show (List.take 2 _).reverse ++ List.replicate (zMaxL 55 - 2) _ = _; rw [show zMaxL 55 = 2 by decide +kernel]; rfl) ?_
  refine m55_11 hW hu (gF_v (by decide +kernel) ?_)
  refine h_ldr (w := 259) (pc2 := 329) (by decide +kernel) (by decide +kernel) rfl r00 ?_
  refine h_con (w := 281474977759745) (pc2 := 331) (by decide +kernel) (v := 16) (by decide +kernel) ?_
  refine h_ldi (w := 281474977104386) (pc2 := 333) (by decide +kernel) (by decide +kernel) rfl (by decide) ?_
  refine h_add (w := 263) (pc2 := 334) (by decide +kernel) (by decide +kernel) (by decide) (by decide) (c := 17) (by decide) ?_
  refine h_cv (w := 10886548929847452648276773) (c := 55) (n := 1) (by decide +kernel) (by decide +kernel) rfl (zA_O hW) ⟨Nat.le_of_ble_eq_true rfl, Nat.le_of_ble_eq_true rfl⟩ (show ∀ cx ∈ [17, bR 0 0], cx < 8589934592 from zl_c (zlo (by decide)) (zl_c r00.2 zl_n)) (st2 := [(a (10 + 1))]) rfl (l2 := [bR 0 0, 17]) (by show (List.take 2 _).reverse ++ List.replicate (zMaxL 55 - 2) _ = _; rw [show zMaxL 55 = 2 by decide +kernel]; rfl) ?_
  refine m55_17 hW hu (gF_v (by decide +kernel) ?_)
  refine h_icmp (w := 562949977998098) (pc2 := 340) (by decide +kernel) (b := false) (by decide +kernel) (by omega) (by omega) (zc_lt_f (by omega) (by omega) (by omega)) ?_
  refine h_ldr (w := 259) (pc2 := 341) (by decide +kernel) (by decide +kernel) rfl r00 ?_
  refine h_con (w := 281474977366529) (pc2 := 343) (by decide +kernel) (v := 10) (by decide +kernel) ?_
  refine h_ldi (w := 281474977104386) (pc2 := 345) (by decide +kernel) (by decide +kernel) rfl (by decide) ?_
  refine h_add (w := 263) (pc2 := 346) (by decide +kernel) (by decide +kernel) (by decide) (by decide) (c := 11) (by decide) ?_
  refine h_cv (w := 10886548929847452648276773) (c := 55) (n := 1) (by decide +kernel) (by decide +kernel) rfl (zA_O hW) ⟨Nat.le_of_ble_eq_true rfl, Nat.le_of_ble_eq_true rfl⟩ (show ∀ cx ∈ [11, bR 0 0], cx < 8589934592 from zl_c (zlo (by decide)) (zl_c r00.2 zl_n)) (st2 := []) rfl (l2 := [bR 0 0, 11]) (by show (List.take 2 _).reverse ++ List.replicate (zMaxL 55 - 2) _ = _; rw [show zMaxL 55 = 2 by decide +kernel]; rfl) ?_
  refine m55_11 hW hu (gF_v (by decide +kernel) ?_)
  refine h_con (w := 281474980905473) (pc2 := 351) (by decide +kernel) (v := 64) (by decide +kernel) ?_
  refine h_icmp (w := 1125899931419410) (pc2 := 354) (by decide +kernel) (b := false) (by decide +kernel) (by omega) (by decide) (zc_gt_f (by omega) (by decide) (by omega)) ?_
  refine h_ldr (w := 259) (pc2 := 355) (by decide +kernel) (by decide +kernel) rfl r00 ?_
  refine h_con (w := 281474977497601) (pc2 := 357) (by decide +kernel) (v := 12) (by decide +kernel) ?_
  refine h_ldi (w := 281474977104386) (pc2 := 359) (by decide +kernel) (by decide +kernel) rfl (by decide) ?_
  refine h_add (w := 263) (pc2 := 360) (by decide +kernel) (by decide +kernel) (by decide) (by decide) (c := 13) (by decide) ?_
  refine h_cv (w := 10886548929847452648276773) (c := 55) (n := 1) (by decide +kernel) (by decide +kernel) rfl (zA_O hW) ⟨Nat.le_of_ble_eq_true rfl, Nat.le_of_ble_eq_true rfl⟩ (show ∀ cx ∈ [13, bR 0 0], cx < 8589934592 from zl_c (zlo (by decide)) (zl_c r00.2 zl_n)) (st2 := []) rfl (l2 := [bR 0 0, 13]) (by show (List.take 2 _).reverse ++ List.replicate (zMaxL 55 - 2) _ = _; rw [show zMaxL 55 = 2 by decide +kernel]; rfl) ?_
  refine m55_13 hW hu (gF_v (by decide +kernel) ?_)
  refine h_ldr (w := 259) (pc2 := 364) (by decide +kernel) (by decide +kernel) rfl r00 ?_
  refine h_con (w := 257) (pc2 := 365) (by decide +kernel) (v := 0) (by decide +kernel) ?_
  refine h_cv (w := 10886548929847452648276773) (c := 55) (n := 1) (by decide +kernel) (by decide +kernel) rfl (zA_O hW) ⟨Nat.le_of_ble_eq_true rfl, Nat.le_of_ble_eq_true rfl⟩ (show ∀ cx ∈ [0, bR 0 0], cx < 8589934592 from zl_c (zlo (by decide)) (zl_c r00.2 zl_n)) (st2 := [(a (12 + 1))]) rfl (l2 := [bR 0 0, 0]) (by show (List.take 2 _).reverse ++ List.replicate (zMaxL 55 - 2) _ = _; rw [show zMaxL 55 = 2 by decide +kernel]; rfl) ?_
  refine m55_0 hW hu (gF_v (by decide +kernel) ?_)
  refine h_icmp (w := 562949977998098) (pc2 := 371) (by decide +kernel) (b := false) (by decide +kernel) (by omega) (by omega) (zc_lt_f (by omega) (by omega) (by omega)) ?_
  refine h_con (w := 65793) (pc2 := 372) (by decide +kernel) (v := 1) (by decide +kernel) ?_
  refine h_goto (w := 24642323) (pc2 := 376) (by decide +kernel) (by decide +kernel) ?_
  refine h_sti (w := 281474977038852) (pc2 := 378) (by decide +kernel) (n := 8) (by decide +kernel) rfl (by decide) (ls2 := [bR 0 0, tk, s, t, v, 1, 1, y]) rfl ?_
  refine h_inc (w := 1688849860330246) (pc2 := 381) (by decide +kernel) (by decide +kernel) rfl (by decide) (c2 := 2) (by show (_ + 1) % 4294967296 = _; omega) (ls2 := [bR 0 0, tk, s, t, v, 1, 2, y]) rfl ?_
  refine h_goto (w := 20185875) (pc2 := 308) (by decide +kernel) (by decide +kernel) ?_
  refine h_ldi (w := 281474977104386) (pc2 := 310) (by decide +kernel) (by decide +kernel) rfl (by decide) ?_
  refine h_con (w := 131329) (pc2 := 311) (by decide +kernel) (v := 2) (by decide +kernel) ?_
  refine h_icmp (w := 844424955298578) (pc2 := 384) (by decide +kernel) (b := true) (by decide +kernel) (by decide) (by decide) (zc_ge_t (by decide) (by decide) (by decide)) ?_
  refine h_ldi (w := 281474977038850) (pc2 := 386) (by decide +kernel) (by decide +kernel) rfl (by decide) ?_
  refine h_if (w := 28050193) (pc2 := 389) (by decide +kernel) (b := false) (by decide +kernel) (by decide)  (zc_eq_f (by decide)) ?_
  refine h_ldi (w := 131330) (pc2 := 390) (by decide +kernel) (by decide +kernel) rfl (by omega) ?_
  refine h_if (w := 562949981471505) (pc2 := 393) (by decide +kernel) (b := false) (by decide +kernel) (by omega)  (zc_lt_f (by omega) (by decide) (by omega)) ?_
  refine h_ldi (w := 196866) (pc2 := 394) (by decide +kernel) (by decide +kernel) rfl (by omega) ?_
  refine h_ldr (w := 259) (pc2 := 395) (by decide +kernel) (by decide +kernel) rfl r00 ?_
  refine h_con (w := 281474977104385) (pc2 := 397) (by decide +kernel) (v := 6) (by decide +kernel) ?_
  refine h_cv (w := 10886548929847452648276773) (c := 55) (n := 1) (by decide +kernel) (by decide +kernel) rfl (zA_O hW) ⟨Nat.le_of_ble_eq_true rfl, Nat.le_of_ble_eq_true rfl⟩ (show ∀ cx ∈ [6, bR 0 0], cx < 8589934592 from zl_c (zlo (by decide)) (zl_c r00.2 zl_n)) (st2 := [t]) rfl (l2 := [bR 0 0, 6]) (by show (List.take 2 _).reverse ++ List.replicate (zMaxL 55 - 2) _ = _; rw [show zMaxL 55 = 2 by decide +kernel]; rfl) ?_
  refine m55_6 hW hu (gF_v (by decide +kernel) ?_)
  refine h_icmp (w := 281475004760850) (pc2 := 403) (by decide +kernel) (b := false) (by decide +kernel) (by omega) (by omega) (zc_ne_f hd) ?_
  refine h_ldi (w := 281474976973314) (pc2 := 405) (by decide +kernel) (by decide +kernel) rfl (by omega) ?_
  refine h_ldr (w := 259) (pc2 := 406) (by decide +kernel) (by decide +kernel) rfl r00 ?_
  refine h_con (w := 281474977104385) (pc2 := 408) (by decide +kernel) (v := 6) (by decide +kernel) ?_
  refine h_cv (w := 10886548929847452648276773) (c := 55) (n := 1) (by decide +kernel) (by decide +kernel) rfl (zA_O hW) ⟨Nat.le_of_ble_eq_true rfl, Nat.le_of_ble_eq_true rfl⟩ (show ∀ cx ∈ [6, bR 0 0], cx < 8589934592 from zl_c (zlo (by decide)) (zl_c r00.2 zl_n)) (st2 := [v]) rfl (l2 := [bR 0 0, 6]) (by show (List.take 2 _).reverse ++ List.replicate (zMaxL 55 - 2) _ = _; rw [show zMaxL 55 = 2 by decide +kernel]; rfl) ?_
  refine m55_6 hW hu (gF_v (by decide +kernel) ?_)
  refine h_icmp (w := 1125899934892818) (pc2 := 414) (by decide +kernel) (b := false) (by decide +kernel) (by omega) (by omega) (zc_gt_f (by omega) (by omega) (by omega)) ?_
  refine h_ldr (w := 259) (pc2 := 415) (by decide +kernel) (by decide +kernel) rfl r00 ?_
  refine h_con (w := 327937) (pc2 := 416) (by decide +kernel) (v := 5) (by decide +kernel) ?_
  refine h_cv (w := 10886548929847452648276773) (c := 55) (n := 1) (by decide +kernel) (by decide +kernel) rfl (zA_O hW) ⟨Nat.le_of_ble_eq_true rfl, Nat.le_of_ble_eq_true rfl⟩ (show ∀ cx ∈ [5, bR 0 0], cx < 8589934592 from zl_c (zlo (by decide)) (zl_c r00.2 zl_n)) (st2 := []) rfl (l2 := [bR 0 0, 5]) (by show (List.take 2 _).reverse ++ List.replicate (zMaxL 55 - 2) _ = _; rw [show zMaxL 55 = 2 by decide +kernel]; rfl) ?_
  refine m55_5 hW hu (gF_v (by decide +kernel) ?_)
  refine h_con (w := 281474983789057) (pc2 := 421) (by decide +kernel) (v := 108) (by decide +kernel) ?_
  refine h_icmp (w := 1125899934892818) (pc2 := 424) (by decide +kernel) (b := false) (by decide +kernel) (by omega) (by decide) (zc_gt_f (by omega) (by decide) (by omega)) ?_
  refine h_con (w := 65793) (pc2 := 425) (by decide +kernel) (v := 1) (by decide +kernel) ?_
  refine h_goto (w := 28115731) (pc2 := 429) (by decide +kernel) (by decide +kernel) ?_
  exact h_ret (w := 301) (by decide +kernel) (by decide +kernel) (by decide) (fun _ => by decide) g
theorem m62_quays {tk s v y : Nat} (hW : oW a u m) (hu : u ≤ 4) (hI : vI B a) (hB : B < 90000) (ht : tk < 2) (hs : s < 2147483648) (hv : v ≤ a 2) (g : gFin1 sc Q frs 62 1 m) : ∀ (d q t : Nat), q + d = 12 → t = sm q (fDn a) → gFin sc Q frs 62 188 [bR 0 0, tk, s, t, v, 1, q, y] [] m := by
  have hI0 := hI
  obtain ⟨⟨⟨h16, hT⟩, hA, hL, hD⟩, hN, hB3⟩ := hI
  have b2 := hB3.1.2
  have b3 := hB3.2.1
  intro d
  induction d with
  | zero =>
    intro q t hd ht2
    have e12 : q = 12 := by omega
    rw [e12] at ht2
    have hx := hD.1
    refine h_ldi (w := 281474977104386) (pc2 := 190) (by decide +kernel) (by decide +kernel) rfl (by omega) ?_
    refine h_con (w := 281474977497601) (pc2 := 192) (by decide +kernel) (v := 12) (by decide +kernel) ?_
    refine h_icmp (w := 844424950121234) (pc2 := 305) (by decide +kernel) (b := true) (by decide +kernel) (by omega) (by decide) (zc_ge_t (by omega) (by omega) (by omega)) ?_
    exact m62_end hW hu hI0 hB ht hs (ht2.trans hx) hv g
  | succ d IH =>
    intro q t hd ht2
    have hq : q < 12 := by omega
    obtain ⟨⟨l0, l2⟩, lw⟩ := hL q hq
    have hm := sm_mo (f := fDn a) (k := q + 1) 12 (by omega)
    rw [hD.1] at hm
    have hm : sm q (fDn a) + a (300 + 30 * q + 1) ≤ a 2 := hm
    rw [← ht2] at hm
    have hsu := mSum_v (a := a) (q := q) (a (300 + 30 * q + 0)) 0 0 (fun i hi => lw i (by omega)) (by omega)
    have s0 := sm_le (f := fAt a q 0) (fun _ => i1_le) (a 1)
    have s1 := sm_le (f := fAt a q 1) (fun _ => i1_le) (a 1)
    refine h_ldi (w := 281474977104386) (pc2 := 190) (by decide +kernel) (by decide +kernel) rfl (by omega) ?_
    refine h_con (w := 281474977497601) (pc2 := 192) (by decide +kernel) (v := 12) (by decide +kernel) ?_
    refine h_icmp (w := 844424950121234) (pc2 := 195) (by decide +kernel) (b := false) (by decide +kernel) (by omega) (by decide) (zc_ge_f (by omega) (by omega) (by omega)) ?_
    refine h_ldi (w := 281474977038850) (pc2 := 197) (by decide +kernel) (by decide +kernel) rfl (by decide) ?_
    refine h_if (w := 19989265) (pc2 := 200) (by decide +kernel) (b := false) (by decide +kernel) (by decide)  (zc_eq_f (by decide)) ?_
    refine h_ldi (w := 196866) (pc2 := 201) (by decide +kernel) (by decide +kernel) rfl (by omega) ?_
    refine h_ldr (w := 259) (pc2 := 202) (by decide +kernel) (by decide +kernel) rfl r00 ?_
    refine h_ldi (w := 281474977104386) (pc2 := 204) (by decide +kernel) (by decide +kernel) rfl (by omega) ?_
    refine h_con (w := 327937) (pc2 := 205) (by decide +kernel) (v := 5) (by decide +kernel) ?_
    refine h_cv (w := 22976471209061872915776293) (c := 53) (n := 2) (by decide +kernel) (by decide +kernel) rfl (zA_O hW) ⟨Nat.le_of_ble_eq_true rfl, Nat.le_of_ble_eq_true rfl⟩ (show ∀ cx ∈ [5, q, bR 0 0], cx < 8589934592 from zl_c (zlo (by decide)) (zl_c (zlo (by omega)) (zl_c r00.2 zl_n))) (st2 := [t]) rfl (l2 := [bR 0 0, q, 5, 1099511627776]) (by show (List.take 3 _).reverse ++ List.replicate (zMaxL 53 - 3) _ = _; rw [show zMaxL 53 = 4 by decide +kernel]; rfl) ?_
    refine m53_5 hW hq (gF_v (by decide +kernel) ?_)
    refine h_add (w := 263) (pc2 := 209) (by decide +kernel) (by decide +kernel) (by omega) (by omega) (c := (t + a (300 + 30 * q + 1))) (Nat.mod_eq_of_lt (by omega)) ?_
    refine h_sti (w := 196868) (pc2 := 210) (by decide +kernel) (n := 8) (by decide +kernel) rfl (by omega) (ls2 := [bR 0 0, tk, s, (t + a (300 + 30 * q + 1)), v, 1, q, y]) rfl ?_
    refine h_ldr (w := 259) (pc2 := 211) (by decide +kernel) (by decide +kernel) rfl r00 ?_
    refine h_ldi (w := 281474977104386) (pc2 := 213) (by decide +kernel) (by decide +kernel) rfl (by omega) ?_
    refine h_con (w := 196865) (pc2 := 214) (by decide +kernel) (v := 3) (by decide +kernel) ?_
    refine h_cv (w := 22976471209061872915776293) (c := 53) (n := 2) (by decide +kernel) (by decide +kernel) rfl (zA_O hW) ⟨Nat.le_of_ble_eq_true rfl, Nat.le_of_ble_eq_true rfl⟩ (show ∀ cx ∈ [3, q, bR 0 0], cx < 8589934592 from zl_c (zlo (by decide)) (zl_c (zlo (by omega)) (zl_c r00.2 zl_n))) (st2 := []) rfl (l2 := [bR 0 0, q, 3, 1099511627776]) (by show (List.take 3 _).reverse ++ List.replicate (zMaxL 53 - 3) _ = _; rw [show zMaxL 53 = 4 by decide +kernel]; rfl) ?_
    refine m53_3 hW hq (gF_v (by decide +kernel) ?_)
    refine h_con (w := 281474977300993) (pc2 := 219) (by decide +kernel) (v := 9) (by decide +kernel) ?_
    refine h_icmp (w := 1125899926242066) (pc2 := 222) (by decide +kernel) (b := false) (by decide +kernel) (by omega) (by decide) (zc_gt_f (by omega) (by decide) (by omega)) ?_
    refine h_ldr (w := 259) (pc2 := 223) (by decide +kernel) (by decide +kernel) rfl r00 ?_
    refine h_ldi (w := 281474977104386) (pc2 := 225) (by decide +kernel) (by decide +kernel) rfl (by omega) ?_
    refine h_con (w := 196865) (pc2 := 226) (by decide +kernel) (v := 3) (by decide +kernel) ?_
    refine h_cv (w := 22976471209061872915776293) (c := 53) (n := 2) (by decide +kernel) (by decide +kernel) rfl (zA_O hW) ⟨Nat.le_of_ble_eq_true rfl, Nat.le_of_ble_eq_true rfl⟩ (show ∀ cx ∈ [3, q, bR 0 0], cx < 8589934592 from zl_c (zlo (by decide)) (zl_c (zlo (by omega)) (zl_c r00.2 zl_n))) (st2 := []) rfl (l2 := [bR 0 0, q, 3, 1099511627776]) (by show (List.take 3 _).reverse ++ List.replicate (zMaxL 53 - 3) _ = _; rw [show zMaxL 53 = 4 by decide +kernel]; rfl) ?_
    refine m53_3 hW hq (gF_v (by decide +kernel) ?_)
    have nx : gFin sc Q frs 62 258 [bR 0 0, tk, s, (t + a (300 + 30 * q + 1)), v, 1, q, y] [] m := by
      refine h_ldr (w := 259) (pc2 := 259) (by decide +kernel) (by decide +kernel) rfl r00 ?_
      refine h_ldi (w := 281474977104386) (pc2 := 261) (by decide +kernel) (by decide +kernel) rfl (by omega) ?_
      refine h_con (w := 262401) (pc2 := 262) (by decide +kernel) (v := 4) (by decide +kernel) ?_
      refine h_cv (w := 22976471209061872915776293) (c := 53) (n := 2) (by decide +kernel) (by decide +kernel) rfl (zA_O hW) ⟨Nat.le_of_ble_eq_true rfl, Nat.le_of_ble_eq_true rfl⟩ (show ∀ cx ∈ [4, q, bR 0 0], cx < 8589934592 from zl_c (zlo (by decide)) (zl_c (zlo (by omega)) (zl_c r00.2 zl_n))) (st2 := []) rfl (l2 := [bR 0 0, q, 4, 1099511627776]) (by show (List.take 3 _).reverse ++ List.replicate (zMaxL 53 - 3) _ = _; rw [show zMaxL 53 = 4 by decide +kernel]; rfl) ?_
      refine m53_4 hW hq l0 (gF_v (by decide +kernel) ?_)
      refine h_ldr (w := 259) (pc2 := 266) (by decide +kernel) (by decide +kernel) rfl r00 ?_
      refine h_ldi (w := 281474977104386) (pc2 := 268) (by decide +kernel) (by decide +kernel) rfl (by omega) ?_
      refine h_con (w := 196865) (pc2 := 269) (by decide +kernel) (v := 3) (by decide +kernel) ?_
      refine h_cv (w := 22976471209061872915776293) (c := 53) (n := 2) (by decide +kernel) (by decide +kernel) rfl (zA_O hW) ⟨Nat.le_of_ble_eq_true rfl, Nat.le_of_ble_eq_true rfl⟩ (show ∀ cx ∈ [3, q, bR 0 0], cx < 8589934592 from zl_c (zlo (by decide)) (zl_c (zlo (by omega)) (zl_c r00.2 zl_n))) (st2 := [(mSum a q (a (300 + 30 * q + 0)) 0 0)]) rfl (l2 := [bR 0 0, q, 3, 1099511627776]) (by show (List.take 3 _).reverse ++ List.replicate (zMaxL 53 - 3) _ = _; rw [show zMaxL 53 = 4 by decide +kernel]; rfl) ?_
      refine m53_3 hW hq (gF_v (by decide +kernel) ?_)
      refine h_icmp (w := 562949972820754) (pc2 := 275) (by decide +kernel) (b := false) (by decide +kernel) (by omega) (by omega) (zc_lt_f (by omega) (by omega) (by omega)) ?_
      refine h_ldr (w := 259) (pc2 := 276) (by decide +kernel) (by decide +kernel) rfl r00 ?_
      refine h_ldi (w := 281474977104386) (pc2 := 278) (by decide +kernel) (by decide +kernel) rfl (by omega) ?_
      refine h_con (w := 65793) (pc2 := 279) (by decide +kernel) (v := 1) (by decide +kernel) ?_
      refine h_cv (w := 22976471209061872915776293) (c := 53) (n := 2) (by decide +kernel) (by decide +kernel) rfl (zA_O hW) ⟨Nat.le_of_ble_eq_true rfl, Nat.le_of_ble_eq_true rfl⟩ (show ∀ cx ∈ [1, q, bR 0 0], cx < 8589934592 from zl_c (zlo (by decide)) (zl_c (zlo (by omega)) (zl_c r00.2 zl_n))) (st2 := []) rfl (l2 := [bR 0 0, q, 1, 1099511627776]) (by show (List.take 3 _).reverse ++ List.replicate (zMaxL 53 - 3) _ = _; rw [show zMaxL 53 = 4 by decide +kernel]; rfl) ?_
      refine m53_1 hW hq (gF_v (by decide +kernel) ?_)
      refine h_ldr (w := 259) (pc2 := 283) (by decide +kernel) (by decide +kernel) rfl r00 ?_
      refine h_ldi (w := 281474977104386) (pc2 := 285) (by decide +kernel) (by decide +kernel) rfl (by omega) ?_
      refine h_con (w := 257) (pc2 := 286) (by decide +kernel) (v := 0) (by decide +kernel) ?_
      refine h_cv (w := 22976471209061872915776293) (c := 53) (n := 2) (by decide +kernel) (by decide +kernel) rfl (zA_O hW) ⟨Nat.le_of_ble_eq_true rfl, Nat.le_of_ble_eq_true rfl⟩ (show ∀ cx ∈ [0, q, bR 0 0], cx < 8589934592 from zl_c (zlo (by decide)) (zl_c (zlo (by omega)) (zl_c r00.2 zl_n))) (st2 := [(sm (a 1) (fAt a q 0))]) rfl (l2 := [bR 0 0, q, 0, 1099511627776]) (by show (List.take 3 _).reverse ++ List.replicate (zMaxL 53 - 3) _ = _; rw [show zMaxL 53 = 4 by decide +kernel]; rfl) ?_
      refine m53_0 hW hq (gF_v (by decide +kernel) ?_)
      refine h_icmp (w := 1125899926242066) (pc2 := 292) (by decide +kernel) (b := false) (by decide +kernel) (by omega) (by omega) (zc_gt_f (by omega) (by omega) (by omega)) ?_
      refine h_con (w := 65793) (pc2 := 293) (by decide +kernel) (v := 1) (by decide +kernel) ?_
      refine h_goto (w := 19464979) (pc2 := 297) (by decide +kernel) (by decide +kernel) ?_
      refine h_sti (w := 281474977038852) (pc2 := 299) (by decide +kernel) (n := 8) (by decide +kernel) rfl (by decide) (ls2 := [bR 0 0, tk, s, (t + a (300 + 30 * q + 1)), v, 1, q, y]) rfl ?_
      refine h_inc (w := 1688849860330246) (pc2 := 302) (by decide +kernel) (by decide +kernel) rfl (by omega) (c2 := (q + 1)) (by show (_ + 1) % 4294967296 = _; omega) (ls2 := [bR 0 0, tk, s, (t + a (300 + 30 * q + 1)), v, 1, (q + 1), y]) rfl ?_
      refine h_goto (w := 12321555) (pc2 := 188) (by decide +kernel) (by decide +kernel) ?_
      exact IH (q + 1) _ (by omega) (by show t + a (300 + 30 * q + 1) = sm q (fDn a) + a (300 + 30 * q + 1); rw [ht2])
    by_cases q0 : a (300 + 30 * q + 0) = 0
    · skip
      refine h_if (w := 281474992177937) (pc2 := 232) (by decide +kernel) (b := false) (by decide +kernel) (by omega)  (zc_ne_f q0) ?_
      refine h_con (w := 65793) (pc2 := 233) (by decide +kernel) (v := 1) (by decide +kernel) ?_
      refine h_goto (w := 15532819) (pc2 := 237) (by decide +kernel) (by decide +kernel) ?_
      refine h_ldr (w := 259) (pc2 := 238) (by decide +kernel) (by decide +kernel) rfl r00 ?_
      refine h_ldi (w := 281474977104386) (pc2 := 240) (by decide +kernel) (by decide +kernel) rfl (by omega) ?_
      refine h_con (w := 281474977104385) (pc2 := 242) (by decide +kernel) (v := 6) (by decide +kernel) ?_
      refine h_cv (w := 22976471209061872915776293) (c := 53) (n := 2) (by decide +kernel) (by decide +kernel) rfl (zA_O hW) ⟨Nat.le_of_ble_eq_true rfl, Nat.le_of_ble_eq_true rfl⟩ (show ∀ cx ∈ [6, q, bR 0 0], cx < 8589934592 from zl_c (zlo (by decide)) (zl_c (zlo (by omega)) (zl_c r00.2 zl_n))) (st2 := [1]) rfl (l2 := [bR 0 0, q, 6, 1099511627776]) (by show (List.take 3 _).reverse ++ List.replicate (zMaxL 53 - 3) _ = _; rw [show zMaxL 53 = 4 by decide +kernel]; rfl) ?_
      refine m53_6 hW hq l0 (fun w w0 w1 => gF_v (by decide +kernel) ?_)
      have hw : w < 4294967296 := by rw [w0 q0]; decide
      refine h_con (w := 562949953094145) (pc2 := 247) (by decide +kernel) (v := 4294967291) (by decide +kernel) ?_
      refine h_icmp (w := 281474993357586) (pc2 := 250) (by decide +kernel) (b := false) (by decide +kernel) hw (by decide) (zc_ne_f (w0 q0)) ?_
      refine h_con (w := 65793) (pc2 := 251) (by decide +kernel) (v := 1) (by decide +kernel) ?_
      refine h_goto (w := 16712467) (pc2 := 255) (by decide +kernel) (by decide +kernel) ?_
      refine h_icmp (w := 281474996110098) (pc2 := 258) (by decide +kernel) (b := false) (by decide +kernel) (by decide) (by decide) (zc_ne_f rfl) ?_
      exact nx
    · skip
      refine h_if (w := 281474992177937) (pc2 := 236) (by decide +kernel) (b := true) (by decide +kernel) (by omega)  (zc_ne_t q0) ?_
      refine h_con (w := 257) (pc2 := 237) (by decide +kernel) (v := 0) (by decide +kernel) ?_
      refine h_ldr (w := 259) (pc2 := 238) (by decide +kernel) (by decide +kernel) rfl r00 ?_
      refine h_ldi (w := 281474977104386) (pc2 := 240) (by decide +kernel) (by decide +kernel) rfl (by omega) ?_
      refine h_con (w := 281474977104385) (pc2 := 242) (by decide +kernel) (v := 6) (by decide +kernel) ?_
      refine h_cv (w := 22976471209061872915776293) (c := 53) (n := 2) (by decide +kernel) (by decide +kernel) rfl (zA_O hW) ⟨Nat.le_of_ble_eq_true rfl, Nat.le_of_ble_eq_true rfl⟩ (show ∀ cx ∈ [6, q, bR 0 0], cx < 8589934592 from zl_c (zlo (by decide)) (zl_c (zlo (by omega)) (zl_c r00.2 zl_n))) (st2 := [0]) rfl (l2 := [bR 0 0, q, 6, 1099511627776]) (by show (List.take 3 _).reverse ++ List.replicate (zMaxL 53 - 3) _ = _; rw [show zMaxL 53 = 4 by decide +kernel]; rfl) ?_
      refine m53_6 hW hq l0 (fun w w0 w1 => gF_v (by decide +kernel) ?_)
      have w2 := w1 q0
      have hw : w < 4294967296 := by omega
      refine h_con (w := 562949953094145) (pc2 := 247) (by decide +kernel) (v := 4294967291) (by decide +kernel) ?_
      refine h_icmp (w := 281474993357586) (pc2 := 254) (by decide +kernel) (b := true) (by decide +kernel) hw (by decide) (zc_ne_t (by omega)) ?_
      refine h_con (w := 257) (pc2 := 255) (by decide +kernel) (v := 0) (by decide +kernel) ?_
      refine h_icmp (w := 281474996110098) (pc2 := 258) (by decide +kernel) (b := false) (by decide +kernel) (by decide) (by decide) (zc_ne_f rfl) ?_
      exact nx
theorem m62_arms {tk x : Nat} (hW : oW a u m) (hu : u ≤ 4) (hI : vI B a) (hB : B < 90000) (ht : tk < 2) (hTk : tk ≠ 0 → aI a) (g : gFin1 sc Q frs 62 1 m) : ∀ (d k s v y : Nat), k + d = a 1 → s = sm k (fDg a) → s ≤ 2 * k → v = sm k (fLd a) → gFin sc Q frs 62 52 [bR 0 0, tk, s, 0, v, 1, k, y] [] m := by
  have hI0 := hI
  obtain ⟨⟨⟨h16, hT⟩, hA, hL, hD⟩, hN, hB3⟩ := hI
  have b2 := hB3.1.2
  have b3 := hB3.2.1
  intro d
  induction d with
  | zero =>
    intro k s v y hd hs hs2 hv
    have hv2 : v ≤ a 2 := by
      rw [hv, show k = a 1 by omega]
      exact hD.2
    refine h_ldi (w := 281474977104386) (pc2 := 54) (by decide +kernel) (by decide +kernel) rfl (by omega) ?_
    refine h_ldr (w := 259) (pc2 := 55) (by decide +kernel) (by decide +kernel) rfl r00 ?_
    refine h_con (w := 65793) (pc2 := 56) (by decide +kernel) (v := 1) (by decide +kernel) ?_
    refine h_cv (w := 10886548929847452648276773) (c := 55) (n := 1) (by decide +kernel) (by decide +kernel) rfl (zA_O hW) ⟨Nat.le_of_ble_eq_true rfl, Nat.le_of_ble_eq_true rfl⟩ (show ∀ cx ∈ [1, bR 0 0], cx < 8589934592 from zl_c (zlo (by decide)) (zl_c r00.2 zl_n)) (st2 := [k]) rfl (l2 := [bR 0 0, 1]) (by show (List.take 2 _).reverse ++ List.replicate (zMaxL 55 - 2) _ = _; rw [show zMaxL 55 = 2 by decide +kernel]; rfl) ?_
    refine m55_1 hW hu (gF_v (by decide +kernel) ?_)
    refine h_icmp (w := 844424942256914) (pc2 := 185) (by decide +kernel) (b := true) (by decide +kernel) (by omega) (by omega) (zc_ge_t (by omega) (by omega) (by omega)) ?_
    refine h_con (w := 257) (pc2 := 186) (by decide +kernel) (v := 0) (by decide +kernel) ?_
    refine h_sti (w := 281474977104388) (pc2 := 188) (by decide +kernel) (n := 8) (by decide +kernel) rfl (by decide) (ls2 := [bR 0 0, tk, s, 0, v, 1, 0, y]) rfl ?_
    exact m62_quays hW hu hI0 hB ht (by omega) hv2 g 12 0 0 (by decide) rfl
  | succ d IH =>
    intro k s v y hd hs hs2 hv
    have hk : k < a 1 := by omega
    obtain ⟨⟨k0, k1, k4⟩, ⟨k2, k3⟩, ki⟩ := hA k hk
    have hm := sm_mo (f := fLd a) (k := k + 1) (a 1) (by omega)
    have hm : sm k (fLd a) + a (100 + 8 * k + 5) ≤ a 2 := Nat.le_trans hm hD.2
    rw [← hv] at hm
    obtain ⟨e, ee⟩ : ∃ e, e = a (100 + 8 * k + 2) := ⟨_, rfl⟩
    obtain ⟨q, eq⟩ : ∃ q, q = a (100 + 8 * k + 1) := ⟨_, rfl⟩
    have hq : q < 12 := by omega
    obtain ⟨l0, l2⟩ := (hL q hq).1
    rw [← ee] at k2 ki
    refine h_ldi (w := 281474977104386) (pc2 := 54) (by decide +kernel) (by decide +kernel) rfl (by omega) ?_
    refine h_ldr (w := 259) (pc2 := 55) (by decide +kernel) (by decide +kernel) rfl r00 ?_
    refine h_con (w := 65793) (pc2 := 56) (by decide +kernel) (v := 1) (by decide +kernel) ?_
    refine h_cv (w := 10886548929847452648276773) (c := 55) (n := 1) (by decide +kernel) (by decide +kernel) rfl (zA_O hW) ⟨Nat.le_of_ble_eq_true rfl, Nat.le_of_ble_eq_true rfl⟩ (show ∀ cx ∈ [1, bR 0 0], cx < 8589934592 from zl_c (zlo (by decide)) (zl_c r00.2 zl_n)) (st2 := [k]) rfl (l2 := [bR 0 0, 1]) (by show (List.take 2 _).reverse ++ List.replicate (zMaxL 55 - 2) _ = _; rw [show zMaxL 55 = 2 by decide +kernel]; rfl) ?_
    refine m55_1 hW hu (gF_v (by decide +kernel) ?_)
    refine h_icmp (w := 844424942256914) (pc2 := 62) (by decide +kernel) (b := false) (by decide +kernel) (by omega) (by omega) (zc_ge_f (by omega) (by omega) (by omega)) ?_
    refine h_ldi (w := 281474977038850) (pc2 := 64) (by decide +kernel) (by decide +kernel) rfl (by decide) ?_
    refine h_if (w := 12124945) (pc2 := 67) (by decide +kernel) (b := false) (by decide +kernel) (by decide)  (zc_eq_f (by decide)) ?_
    refine h_ldr (w := 259) (pc2 := 68) (by decide +kernel) (by decide +kernel) rfl r00 ?_
    refine h_ldi (w := 281474977104386) (pc2 := 70) (by decide +kernel) (by decide +kernel) rfl (by omega) ?_
    refine h_con (w := 131329) (pc2 := 71) (by decide +kernel) (v := 2) (by decide +kernel) ?_
    refine h_cv (w := 18140528122930397992715045) (c := 52) (n := 2) (by decide +kernel) (by decide +kernel) rfl (zA_O hW) ⟨Nat.le_of_ble_eq_true rfl, Nat.le_of_ble_eq_true rfl⟩ (show ∀ cx ∈ [2, k, bR 0 0], cx < 8589934592 from zl_c (zlo (by decide)) (zl_c (zlo (by omega)) (zl_c r00.2 zl_n))) (st2 := []) rfl (l2 := [bR 0 0, k, 2, 1099511627776]) (by show (List.take 3 _).reverse ++ List.replicate (zMaxL 52 - 3) _ = _; rw [show zMaxL 52 = 4 by decide +kernel]; rfl) ?_
    refine m52_2 hW hk (gF_v (by decide +kernel) ?_)
    rw [← ee]
    refine h_sti (w := 281474977169924) (pc2 := 76) (by decide +kernel) (n := 8) (by decide +kernel) rfl (by omega) (ls2 := [bR 0 0, tk, s, 0, v, 1, k, e]) rfl ?_
    refine h_ldi (w := 131330) (pc2 := 77) (by decide +kernel) (by decide +kernel) rfl (by omega) ?_
    refine h_ldi (w := 281474977169922) (pc2 := 79) (by decide +kernel) (by decide +kernel) rfl (by omega) ?_
    refine h_add (w := 263) (pc2 := 80) (by decide +kernel) (by decide +kernel) (by omega) (by omega) (c := (s + e)) (Nat.mod_eq_of_lt (by omega)) ?_
    refine h_sti (w := 131332) (pc2 := 81) (by decide +kernel) (n := 8) (by decide +kernel) rfl (by omega) (ls2 := [bR 0 0, tk, (s + e), 0, v, 1, k, e]) rfl ?_
    refine h_ldi (w := 281474976973314) (pc2 := 83) (by decide +kernel) (by decide +kernel) rfl (by omega) ?_
    refine h_ldr (w := 259) (pc2 := 84) (by decide +kernel) (by decide +kernel) rfl r00 ?_
    refine h_ldi (w := 281474977104386) (pc2 := 86) (by decide +kernel) (by decide +kernel) rfl (by omega) ?_
    refine h_con (w := 327937) (pc2 := 87) (by decide +kernel) (v := 5) (by decide +kernel) ?_
    refine h_cv (w := 18140528122930397992715045) (c := 52) (n := 2) (by decide +kernel) (by decide +kernel) rfl (zA_O hW) ⟨Nat.le_of_ble_eq_true rfl, Nat.le_of_ble_eq_true rfl⟩ (show ∀ cx ∈ [5, k, bR 0 0], cx < 8589934592 from zl_c (zlo (by decide)) (zl_c (zlo (by omega)) (zl_c r00.2 zl_n))) (st2 := [v]) rfl (l2 := [bR 0 0, k, 5, 1099511627776]) (by show (List.take 3 _).reverse ++ List.replicate (zMaxL 52 - 3) _ = _; rw [show zMaxL 52 = 4 by decide +kernel]; rfl) ?_
    refine m52_5 hW hk (gF_v (by decide +kernel) ?_)
    refine h_add (w := 263) (pc2 := 91) (by decide +kernel) (by decide +kernel) (by omega) (by omega) (c := (v + a (100 + 8 * k + 5))) (Nat.mod_eq_of_lt (by omega)) ?_
    refine h_sti (w := 281474976973316) (pc2 := 93) (by decide +kernel) (n := 8) (by decide +kernel) rfl (by omega) (ls2 := [bR 0 0, tk, (s + e), 0, (v + a (100 + 8 * k + 5)), 1, k, e]) rfl ?_
    refine h_ldi (w := 281474977169922) (pc2 := 95) (by decide +kernel) (by decide +kernel) rfl (by omega) ?_
    refine h_if (w := 562949964956433) (pc2 := 98) (by decide +kernel) (b := false) (by decide +kernel) (by omega)  (zc_lt_f (by omega) (by decide) (by omega)) ?_
    refine h_ldi (w := 281474977169922) (pc2 := 100) (by decide +kernel) (by decide +kernel) rfl (by omega) ?_
    refine h_con (w := 131329) (pc2 := 101) (by decide +kernel) (v := 2) (by decide +kernel) ?_
    refine h_icmp (w := 1125899918377746) (pc2 := 104) (by decide +kernel) (b := false) (by decide +kernel) (by omega) (by decide) (zc_gt_f (by omega) (by decide) (by omega)) ?_
    refine h_ldi (w := 281474977169922) (pc2 := 106) (by decide +kernel) (by decide +kernel) rfl (by omega) ?_
    have nx : gFin sc Q frs 62 172 [bR 0 0, tk, (s + e), 0, (v + a (100 + 8 * k + 5)), 1, k, e] [] m := by
      refine h_con (w := 65793) (pc2 := 173) (by decide +kernel) (v := 1) (by decide +kernel) ?_
      refine h_goto (w := 11600659) (pc2 := 177) (by decide +kernel) (by decide +kernel) ?_
      refine h_sti (w := 281474977038852) (pc2 := 179) (by decide +kernel) (n := 8) (by decide +kernel) rfl (by decide) (ls2 := [bR 0 0, tk, (s + e), 0, (v + a (100 + 8 * k + 5)), 1, k, e]) rfl ?_
      refine h_inc (w := 1688849860330246) (pc2 := 182) (by decide +kernel) (by decide +kernel) rfl (by omega) (c2 := (k + 1)) (by show (_ + 1) % 4294967296 = _; omega) (ls2 := [bR 0 0, tk, (s + e), 0, (v + a (100 + 8 * k + 5)), 1, (k + 1), e]) rfl ?_
      refine h_goto (w := 3408659) (pc2 := 52) (by decide +kernel) (by decide +kernel) ?_
      exact IH (k + 1) _ _ _ (by omega) (by show s + e = sm k (fDg a) + a (100 + 8 * k + 2); rw [hs, ee]) (by omega) (by show v + a (100 + 8 * k + 5) = sm k (fLd a) + a (100 + 8 * k + 5); rw [hv])
    by_cases q0 : e = 0
    · have l3 := ki.mp q0
      refine h_if (w := 281474984117009) (pc2 := 109) (by decide +kernel) (b := false) (by decide +kernel) (by omega)  (zc_ne_f q0) ?_
      refine h_con (w := 65793) (pc2 := 110) (by decide +kernel) (v := 1) (by decide +kernel) ?_
      refine h_goto (w := 7471891) (pc2 := 114) (by decide +kernel) (by decide +kernel) ?_
      refine h_ldr (w := 259) (pc2 := 115) (by decide +kernel) (by decide +kernel) rfl r00 ?_
      refine h_ldi (w := 281474977104386) (pc2 := 117) (by decide +kernel) (by decide +kernel) rfl (by omega) ?_
      refine h_con (w := 196865) (pc2 := 118) (by decide +kernel) (v := 3) (by decide +kernel) ?_
      refine h_cv (w := 18140528122930397992715045) (c := 52) (n := 2) (by decide +kernel) (by decide +kernel) rfl (zA_O hW) ⟨Nat.le_of_ble_eq_true rfl, Nat.le_of_ble_eq_true rfl⟩ (show ∀ cx ∈ [3, k, bR 0 0], cx < 8589934592 from zl_c (zlo (by decide)) (zl_c (zlo (by omega)) (zl_c r00.2 zl_n))) (st2 := [1]) rfl (l2 := [bR 0 0, k, 3, 1099511627776]) (by show (List.take 3 _).reverse ++ List.replicate (zMaxL 52 - 3) _ = _; rw [show zMaxL 52 = 4 by decide +kernel]; rfl) ?_
      refine m52_3 hW hk (gF_v (by decide +kernel) ?_)
      refine h_if (w := 281474985100049) (pc2 := 124) (by decide +kernel) (b := false) (by decide +kernel) (by omega)  (zc_ne_f l3) ?_
      refine h_con (w := 65793) (pc2 := 125) (by decide +kernel) (v := 1) (by decide +kernel) ?_
      refine h_goto (w := 8454931) (pc2 := 129) (by decide +kernel) (by decide +kernel) ?_
      refine h_icmp (w := 281474988245778) (pc2 := 132) (by decide +kernel) (b := false) (by decide +kernel) (by decide) (by decide) (zc_ne_f rfl) ?_
      refine h_ldi (w := 281474977169922) (pc2 := 134) (by decide +kernel) (by decide +kernel) rfl (by omega) ?_
      refine h_if (w := 9700113) (pc2 := 148) (by decide +kernel) (b := true) (by decide +kernel) (by omega)  (zc_eq_t q0) ?_
      refine h_ldi (w := 65794) (pc2 := 149) (by decide +kernel) (by decide +kernel) rfl (by omega) ?_
      by_cases q1 : tk = 0
      · skip
        refine h_if (w := 11272977) (pc2 := 172) (by decide +kernel) (b := true) (by decide +kernel) (by omega)  (zc_eq_t q1) ?_
        exact nx
      · have li := hTk q1 k hk (ee ▸ q0)
        rw [← eq] at li
        refine h_if (w := 11272977) (pc2 := 152) (by decide +kernel) (b := false) (by decide +kernel) (by omega)  (zc_eq_f q1) ?_
        refine h_ldi (w := 281474977169922) (pc2 := 154) (by decide +kernel) (by decide +kernel) rfl (by omega) ?_
        refine h_if (w := 281474987983633) (pc2 := 157) (by decide +kernel) (b := false) (by decide +kernel) (by omega)  (zc_ne_f q0) ?_
        refine h_ldr (w := 259) (pc2 := 158) (by decide +kernel) (by decide +kernel) rfl r00 ?_
        refine h_ldr (w := 259) (pc2 := 159) (by decide +kernel) (by decide +kernel) rfl r00 ?_
        refine h_ldi (w := 281474977104386) (pc2 := 161) (by decide +kernel) (by decide +kernel) rfl (by omega) ?_
        refine h_con (w := 65793) (pc2 := 162) (by decide +kernel) (v := 1) (by decide +kernel) ?_
        refine h_cv (w := 18140528122930397992715045) (c := 52) (n := 2) (by decide +kernel) (by decide +kernel) rfl (zA_O hW) ⟨Nat.le_of_ble_eq_true rfl, Nat.le_of_ble_eq_true rfl⟩ (show ∀ cx ∈ [1, k, bR 0 0], cx < 8589934592 from zl_c (zlo (by decide)) (zl_c (zlo (by omega)) (zl_c r00.2 zl_n))) (st2 := [bR 0 0]) rfl (l2 := [bR 0 0, k, 1, 1099511627776]) (by show (List.take 3 _).reverse ++ List.replicate (zMaxL 52 - 3) _ = _; rw [show zMaxL 52 = 4 by decide +kernel]; rfl) ?_
        refine m52_1 hW hk (gF_v (by decide +kernel) ?_)
        rw [← eq]
        refine h_con (w := 196865) (pc2 := 166) (by decide +kernel) (v := 3) (by decide +kernel) ?_
        refine h_cv (w := 22976471209061872915776293) (c := 53) (n := 2) (by decide +kernel) (by decide +kernel) rfl (zA_O hW) ⟨Nat.le_of_ble_eq_true rfl, Nat.le_of_ble_eq_true rfl⟩ (show ∀ cx ∈ [3, q, bR 0 0], cx < 8589934592 from zl_c (zlo (by decide)) (zl_c (zlo (by omega)) (zl_c r00.2 zl_n))) (st2 := []) rfl (l2 := [bR 0 0, q, 3, 1099511627776]) (by show (List.take 3 _).reverse ++ List.replicate (zMaxL 53 - 3) _ = _; rw [show zMaxL 53 = 4 by decide +kernel]; rfl) ?_
        refine m53_3 hW hq (gF_v (by decide +kernel) ?_)
        refine h_if (w := 281474988245777) (pc2 := 172) (by decide +kernel) (b := false) (by decide +kernel) (by omega)  (zc_ne_f li) ?_
        exact nx
    · have l3 : a (100 + 8 * k + 3) ≠ 0 := fun z => q0 (ki.mpr z)
      refine h_if (w := 281474984117009) (pc2 := 113) (by decide +kernel) (b := true) (by decide +kernel) (by omega)  (zc_ne_t q0) ?_
      refine h_con (w := 257) (pc2 := 114) (by decide +kernel) (v := 0) (by decide +kernel) ?_
      refine h_ldr (w := 259) (pc2 := 115) (by decide +kernel) (by decide +kernel) rfl r00 ?_
      refine h_ldi (w := 281474977104386) (pc2 := 117) (by decide +kernel) (by decide +kernel) rfl (by omega) ?_
      refine h_con (w := 196865) (pc2 := 118) (by decide +kernel) (v := 3) (by decide +kernel) ?_
      refine h_cv (w := 18140528122930397992715045) (c := 52) (n := 2) (by decide +kernel) (by decide +kernel) rfl (zA_O hW) ⟨Nat.le_of_ble_eq_true rfl, Nat.le_of_ble_eq_true rfl⟩ (show ∀ cx ∈ [3, k, bR 0 0], cx < 8589934592 from zl_c (zlo (by decide)) (zl_c (zlo (by omega)) (zl_c r00.2 zl_n))) (st2 := [0]) rfl (l2 := [bR 0 0, k, 3, 1099511627776]) (by show (List.take 3 _).reverse ++ List.replicate (zMaxL 52 - 3) _ = _; rw [show zMaxL 52 = 4 by decide +kernel]; rfl) ?_
      refine m52_3 hW hk (gF_v (by decide +kernel) ?_)
      refine h_if (w := 281474985100049) (pc2 := 128) (by decide +kernel) (b := true) (by decide +kernel) (by omega)  (zc_ne_t l3) ?_
      refine h_con (w := 257) (pc2 := 129) (by decide +kernel) (v := 0) (by decide +kernel) ?_
      refine h_icmp (w := 281474988245778) (pc2 := 132) (by decide +kernel) (b := false) (by decide +kernel) (by decide) (by decide) (zc_ne_f rfl) ?_
      refine h_ldi (w := 281474977169922) (pc2 := 134) (by decide +kernel) (by decide +kernel) rfl (by omega) ?_
      refine h_if (w := 9700113) (pc2 := 137) (by decide +kernel) (b := false) (by decide +kernel) (by omega)  (zc_eq_f q0) ?_
      refine h_ldr (w := 259) (pc2 := 138) (by decide +kernel) (by decide +kernel) rfl r00 ?_
      refine h_ldi (w := 281474977104386) (pc2 := 140) (by decide +kernel) (by decide +kernel) rfl (by omega) ?_
      refine h_con (w := 281474977169921) (pc2 := 142) (by decide +kernel) (v := 7) (by decide +kernel) ?_
      have i0 : mIt a k = 0 := mIt_0 (ee ▸ q0)
      refine h_cv (w := 18140528122930397992715045) (c := 52) (n := 2) (by decide +kernel) (by decide +kernel) rfl (zA_O hW) ⟨Nat.le_of_ble_eq_true rfl, Nat.le_of_ble_eq_true rfl⟩ (show ∀ cx ∈ [7, k, bR 0 0], cx < 8589934592 from zl_c (zlo (by decide)) (zl_c (zlo (by omega)) (zl_c r00.2 zl_n))) (st2 := []) rfl (l2 := [bR 0 0, k, 7, 1099511627776]) (by show (List.take 3 _).reverse ++ List.replicate (zMaxL 52 - 3) _ = _; rw [show zMaxL 52 = 4 by decide +kernel]; rfl) ?_
      refine m52_7 hW hk (gF_v (by decide +kernel) ?_)
      refine h_if (w := 281474988245777) (pc2 := 148) (by decide +kernel) (b := false) (by decide +kernel) (by omega)  (zc_ne_f i0) ?_
      refine h_ldi (w := 65794) (pc2 := 149) (by decide +kernel) (by decide +kernel) rfl (by omega) ?_
      by_cases q1 : tk = 0
      · skip
        refine h_if (w := 11272977) (pc2 := 172) (by decide +kernel) (b := true) (by decide +kernel) (by omega)  (zc_eq_t q1) ?_
        exact nx
      · skip
        refine h_if (w := 11272977) (pc2 := 152) (by decide +kernel) (b := false) (by decide +kernel) (by omega)  (zc_eq_f q1) ?_
        refine h_ldi (w := 281474977169922) (pc2 := 154) (by decide +kernel) (by decide +kernel) rfl (by omega) ?_
        refine h_if (w := 281474987983633) (pc2 := 172) (by decide +kernel) (b := true) (by decide +kernel) (by omega)  (zc_ne_t q0) ?_
        exact nx
/-- all that the law looks at in a harbour holds -/
theorem m62 {tk x2 x3 x4 x5 x6 x7 : Nat} (hW : oW a u m) (hu : u ≤ 4) (hI : vI B a) (hB : B < 90000) (ht : tk < 2) (hTk : tk ≠ 0 → aI a) (g : gFin1 sc Q frs 62 1 m) : gFin sc Q frs 62 0 [bR 0 0, tk, x2, x3, x4, x5, x6, x7] [] m := by
  have h16 := hI.1.1.1
  have fa := fDo_all (a := a) (a 1) (fun i hi => (hI.1.2.1 i hi).2.1.1)
  refine h_con (w := 257) (pc2 := 1) (by decide +kernel) (v := 0) (by decide +kernel) ?_
  refine h_sti (w := 131332) (pc2 := 2) (by decide +kernel) (n := 8) (by decide +kernel) rfl (by decide) (ls2 := [bR 0 0, tk, 0, x3, x4, x5, x6, x7]) rfl ?_
  refine h_con (w := 257) (pc2 := 3) (by decide +kernel) (v := 0) (by decide +kernel) ?_
  refine h_sti (w := 196868) (pc2 := 4) (by decide +kernel) (n := 8) (by decide +kernel) rfl (by decide) (ls2 := [bR 0 0, tk, 0, 0, x4, x5, x6, x7]) rfl ?_
  refine h_con (w := 257) (pc2 := 5) (by decide +kernel) (v := 0) (by decide +kernel) ?_
  refine h_sti (w := 281474976973316) (pc2 := 7) (by decide +kernel) (n := 8) (by decide +kernel) rfl (by decide) (ls2 := [bR 0 0, tk, 0, 0, 0, x5, x6, x7]) rfl ?_
  refine h_ldr (w := 259) (pc2 := 8) (by decide +kernel) (by decide +kernel) rfl r00 ?_
  refine h_con (w := 131329) (pc2 := 9) (by decide +kernel) (v := 2) (by decide +kernel) ?_
  refine h_cv (w := 10886548929847452648276773) (c := 55) (n := 1) (by decide +kernel) (by decide +kernel) rfl (zA_O hW) ⟨Nat.le_of_ble_eq_true rfl, Nat.le_of_ble_eq_true rfl⟩ (show ∀ cx ∈ [2, bR 0 0], cx < 8589934592 from zl_c (zlo (by decide)) (zl_c r00.2 zl_n)) (st2 := []) rfl (l2 := [bR 0 0, 2]) (by show (List.take 2 _).reverse ++ List.replicate (zMaxL 55 - 2) _ = _; rw [show zMaxL 55 = 2 by decide +kernel]; rfl) ?_
  refine m55_2 hW hu (gF_v (by decide +kernel) ?_)
  refine h_ldr (w := 259) (pc2 := 13) (by decide +kernel) (by decide +kernel) rfl r00 ?_
  refine h_con (w := 196865) (pc2 := 14) (by decide +kernel) (v := 3) (by decide +kernel) ?_
  refine h_cv (w := 10886548929847452648276773) (c := 55) (n := 1) (by decide +kernel) (by decide +kernel) rfl (zA_O hW) ⟨Nat.le_of_ble_eq_true rfl, Nat.le_of_ble_eq_true rfl⟩ (show ∀ cx ∈ [3, bR 0 0], cx < 8589934592 from zl_c (zlo (by decide)) (zl_c r00.2 zl_n)) (st2 := [(sm (a 1) (fDo a 1))]) rfl (l2 := [bR 0 0, 3]) (by show (List.take 2 _).reverse ++ List.replicate (zMaxL 55 - 2) _ = _; rw [show zMaxL 55 = 2 by decide +kernel]; rfl) ?_
  refine m55_3 hW hu (gF_v (by decide +kernel) ?_)
  refine h_add (w := 263) (pc2 := 18) (by decide +kernel) (by decide +kernel) (by omega) (by omega) (c := (sm (a 1) (fDo a 1) + sm (a 1) (fDo a 0))) (Nat.mod_eq_of_lt (by omega)) ?_
  refine h_ldr (w := 259) (pc2 := 19) (by decide +kernel) (by decide +kernel) rfl r00 ?_
  refine h_con (w := 262401) (pc2 := 20) (by decide +kernel) (v := 4) (by decide +kernel) ?_
  refine h_cv (w := 10886548929847452648276773) (c := 55) (n := 1) (by decide +kernel) (by decide +kernel) rfl (zA_O hW) ⟨Nat.le_of_ble_eq_true rfl, Nat.le_of_ble_eq_true rfl⟩ (show ∀ cx ∈ [4, bR 0 0], cx < 8589934592 from zl_c (zlo (by decide)) (zl_c r00.2 zl_n)) (st2 := [(sm (a 1) (fDo a 1) + sm (a 1) (fDo a 0))]) rfl (l2 := [bR 0 0, 4]) (by show (List.take 2 _).reverse ++ List.replicate (zMaxL 55 - 2) _ = _; rw [show zMaxL 55 = 2 by decide +kernel]; rfl) ?_
  refine m55_4 hW hu (gF_v (by decide +kernel) ?_)
  refine h_add (w := 263) (pc2 := 24) (by decide +kernel) (by decide +kernel) (by omega) (by omega) (c := (sm (a 1) (fDo a 1) + sm (a 1) (fDo a 0) + sm (a 1) (fDo a 2))) (Nat.mod_eq_of_lt (by omega)) ?_
  refine h_ldr (w := 259) (pc2 := 25) (by decide +kernel) (by decide +kernel) rfl r00 ?_
  refine h_con (w := 65793) (pc2 := 26) (by decide +kernel) (v := 1) (by decide +kernel) ?_
  refine h_cv (w := 10886548929847452648276773) (c := 55) (n := 1) (by decide +kernel) (by decide +kernel) rfl (zA_O hW) ⟨Nat.le_of_ble_eq_true rfl, Nat.le_of_ble_eq_true rfl⟩ (show ∀ cx ∈ [1, bR 0 0], cx < 8589934592 from zl_c (zlo (by decide)) (zl_c r00.2 zl_n)) (st2 := [(sm (a 1) (fDo a 1) + sm (a 1) (fDo a 0) + sm (a 1) (fDo a 2))]) rfl (l2 := [bR 0 0, 1]) (by show (List.take 2 _).reverse ++ List.replicate (zMaxL 55 - 2) _ = _; rw [show zMaxL 55 = 2 by decide +kernel]; rfl) ?_
  refine m55_1 hW hu (gF_v (by decide +kernel) ?_)
  refine h_icmp (w := 281474979726098) (pc2 := 32) (by decide +kernel) (b := false) (by decide +kernel) (by omega) (by omega) (zc_ne_f fa) ?_
  refine h_ldr (w := 259) (pc2 := 33) (by decide +kernel) (by decide +kernel) rfl r00 ?_
  refine h_con (w := 65793) (pc2 := 34) (by decide +kernel) (v := 1) (by decide +kernel) ?_
  refine h_cv (w := 10886548929847452648276773) (c := 55) (n := 1) (by decide +kernel) (by decide +kernel) rfl (zA_O hW) ⟨Nat.le_of_ble_eq_true rfl, Nat.le_of_ble_eq_true rfl⟩ (show ∀ cx ∈ [1, bR 0 0], cx < 8589934592 from zl_c (zlo (by decide)) (zl_c r00.2 zl_n)) (st2 := []) rfl (l2 := [bR 0 0, 1]) (by show (List.take 2 _).reverse ++ List.replicate (zMaxL 55 - 2) _ = _; rw [show zMaxL 55 = 2 by decide +kernel]; rfl) ?_
  refine m55_1 hW hu (gF_v (by decide +kernel) ?_)
  refine h_con (w := 281474977759745) (pc2 := 39) (by decide +kernel) (v := 16) (by decide +kernel) ?_
  refine h_icmp (w := 1125899909858066) (pc2 := 42) (by decide +kernel) (b := false) (by decide +kernel) (by omega) (by decide) (zc_gt_f (by omega) (by decide) (by omega)) ?_
  refine h_con (w := 65793) (pc2 := 43) (by decide +kernel) (v := 1) (by decide +kernel) ?_
  refine h_goto (w := 3080979) (pc2 := 47) (by decide +kernel) (by decide +kernel) ?_
  refine h_sti (w := 281474977038852) (pc2 := 49) (by decide +kernel) (n := 8) (by decide +kernel) rfl (by decide) (ls2 := [bR 0 0, tk, 0, 0, 0, 1, x6, x7]) rfl ?_
  refine h_con (w := 257) (pc2 := 50) (by decide +kernel) (v := 0) (by decide +kernel) ?_
  refine h_sti (w := 281474977104388) (pc2 := 52) (by decide +kernel) (n := 8) (by decide +kernel) rfl (by decide) (ls2 := [bR 0 0, tk, 0, 0, 0, 1, 0, x7]) rfl ?_
  exact m62_arms (x := 0) hW hu hI hB ht hTk g (a 1) 0 0 0 _ (Nat.zero_add _) rfl (by decide) rfl
theorem m63_arms {q w : Nat} (hW : oW a u m) (hu : u ≤ 4) (hI : vI B a) (hB : B < 90000) (hq : q < 12) (hw : w < 2) (hK : w ≠ 0 → a (300 + 30 * q + 2) + 1 < a (300 + 30 * q + 0)) (hk0 : aK 0 12 a) (g : ∀ y, gFin sc Q frs 63 124 [bR 0 0, 1, q, w, a 1, y] [] m) : ∀ (d k y : Nat), k + d = a 1 → gFin sc Q frs 63 36 [bR 0 0, 1, q, w, k, y] [] m := by
  obtain ⟨⟨⟨h16, hT⟩, hA, hL, hD⟩, hN, hB3⟩ := hI
  intro d
  induction d with
  | zero =>
    intro k y hd
    refine h_ldi (w := 281474976973314) (pc2 := 38) (by decide +kernel) (by decide +kernel) rfl (by omega) ?_
    refine h_ldr (w := 259) (pc2 := 39) (by decide +kernel) (by decide +kernel) rfl r00 ?_
    refine h_con (w := 65793) (pc2 := 40) (by decide +kernel) (v := 1) (by decide +kernel) ?_
    refine h_cv (w := 10886548929847452648276773) (c := 55) (n := 1) (by decide +kernel) (by decide +kernel) rfl (zA_O hW) ⟨Nat.le_of_ble_eq_true rfl, Nat.le_of_ble_eq_true rfl⟩ (show ∀ cx ∈ [1, bR 0 0], cx < 8589934592 from zl_c (zlo (by decide)) (zl_c r00.2 zl_n)) (st2 := [k]) rfl (l2 := [bR 0 0, 1]) (by show (List.take 2 _).reverse ++ List.replicate (zMaxL 55 - 2) _ = _; rw [show zMaxL 55 = 2 by decide +kernel]; rfl) ?_
    refine m55_1 hW hu (gF_v (by decide +kernel) ?_)
    refine h_icmp (w := 844424938259218) (pc2 := 124) (by decide +kernel) (b := true) (by decide +kernel) (by omega) (by omega) (zc_ge_t (by omega) (by omega) (by omega)) ?_
    rw [show k = a 1 by omega]
    exact g y
  | succ d IH =>
    intro k y hd
    have hk : k < a 1 := by omega
    obtain ⟨⟨k0, k1, k4⟩, ⟨k2, k3⟩, ki⟩ := hA k hk
    have nx : ∀ f, f < 2 → (f ≠ 0 → a (100 + 8 * k + 2) = 0 ∧ a (100 + 8 * k + 4) = 0 ∧ a (100 + 8 * k + 1) / 4 = q / 4 ∧ a (100 + 8 * k + 1) ≠ q) → gFin sc Q frs 63 97 [bR 0 0, 1, q, w, k, y] [f] m := by
      intro f hf hff
      refine h_sti (w := 281474977038852) (pc2 := 99) (by decide +kernel) (n := 6) (by decide +kernel) rfl (by omega) (ls2 := [bR 0 0, 1, q, w, k, f]) rfl ?_
      refine h_ldi (w := 65794) (pc2 := 100) (by decide +kernel) (by decide +kernel) rfl (by decide) ?_
      refine h_if (w := 7602961) (pc2 := 103) (by decide +kernel) (b := false) (by decide +kernel) (by decide)  (zc_eq_f (by decide)) ?_
      refine h_ldi (w := 196866) (pc2 := 104) (by decide +kernel) (by decide +kernel) rfl (by omega) ?_
      by_cases q1 : w = 0
      · skip
        refine h_if (w := 7340817) (pc2 := 112) (by decide +kernel) (b := true) (by decide +kernel) (by omega)  (zc_eq_t q1) ?_
        refine h_con (w := 65793) (pc2 := 113) (by decide +kernel) (v := 1) (by decide +kernel) ?_
        refine h_goto (w := 7668499) (pc2 := 117) (by decide +kernel) (by decide +kernel) ?_
        refine h_sti (w := 65796) (pc2 := 118) (by decide +kernel) (n := 6) (by decide +kernel) rfl (by decide) (ls2 := [bR 0 0, 1, q, w, k, f]) rfl ?_
        refine h_inc (w := 1125899906908934) (pc2 := 121) (by decide +kernel) (by decide +kernel) rfl (by omega) (c2 := (k + 1)) (by show (_ + 1) % 4294967296 = _; omega) (ls2 := [bR 0 0, 1, q, w, (k + 1), f]) rfl ?_
        refine h_goto (w := 2360083) (pc2 := 36) (by decide +kernel) (by decide +kernel) ?_
        exact IH (k + 1) _ (by omega)
      · have f0 : f = 0 := Decidable.byContradiction fun z => hk0 q (Nat.zero_le _) hq (hK q1) k hk (hff z)
        refine h_if (w := 7340817) (pc2 := 107) (by decide +kernel) (b := false) (by decide +kernel) (by omega)  (zc_eq_f q1) ?_
        refine h_ldi (w := 281474977038850) (pc2 := 109) (by decide +kernel) (by decide +kernel) rfl (by omega) ?_
        refine h_if (w := 281474984313617) (pc2 := 112) (by decide +kernel) (b := false) (by decide +kernel) (by omega)  (zc_ne_f f0) ?_
        refine h_con (w := 65793) (pc2 := 113) (by decide +kernel) (v := 1) (by decide +kernel) ?_
        refine h_goto (w := 7668499) (pc2 := 117) (by decide +kernel) (by decide +kernel) ?_
        refine h_sti (w := 65796) (pc2 := 118) (by decide +kernel) (n := 6) (by decide +kernel) rfl (by decide) (ls2 := [bR 0 0, 1, q, w, k, f]) rfl ?_
        refine h_inc (w := 1125899906908934) (pc2 := 121) (by decide +kernel) (by decide +kernel) rfl (by omega) (c2 := (k + 1)) (by show (_ + 1) % 4294967296 = _; omega) (ls2 := [bR 0 0, 1, q, w, (k + 1), f]) rfl ?_
        refine h_goto (w := 2360083) (pc2 := 36) (by decide +kernel) (by decide +kernel) ?_
        exact IH (k + 1) _ (by omega)
    refine h_ldi (w := 281474976973314) (pc2 := 38) (by decide +kernel) (by decide +kernel) rfl (by omega) ?_
    refine h_ldr (w := 259) (pc2 := 39) (by decide +kernel) (by decide +kernel) rfl r00 ?_
    refine h_con (w := 65793) (pc2 := 40) (by decide +kernel) (v := 1) (by decide +kernel) ?_
    refine h_cv (w := 10886548929847452648276773) (c := 55) (n := 1) (by decide +kernel) (by decide +kernel) rfl (zA_O hW) ⟨Nat.le_of_ble_eq_true rfl, Nat.le_of_ble_eq_true rfl⟩ (show ∀ cx ∈ [1, bR 0 0], cx < 8589934592 from zl_c (zlo (by decide)) (zl_c r00.2 zl_n)) (st2 := [k]) rfl (l2 := [bR 0 0, 1]) (by show (List.take 2 _).reverse ++ List.replicate (zMaxL 55 - 2) _ = _; rw [show zMaxL 55 = 2 by decide +kernel]; rfl) ?_
    refine m55_1 hW hu (gF_v (by decide +kernel) ?_)
    refine h_icmp (w := 844424938259218) (pc2 := 46) (by decide +kernel) (b := false) (by decide +kernel) (by omega) (by omega) (zc_ge_f (by omega) (by omega) (by omega)) ?_
    refine h_ldr (w := 259) (pc2 := 47) (by decide +kernel) (by decide +kernel) rfl r00 ?_
    refine h_ldi (w := 281474976973314) (pc2 := 49) (by decide +kernel) (by decide +kernel) rfl (by omega) ?_
    refine h_con (w := 131329) (pc2 := 50) (by decide +kernel) (v := 2) (by decide +kernel) ?_
    refine h_cv (w := 18140528122930397992715045) (c := 52) (n := 2) (by decide +kernel) (by decide +kernel) rfl (zA_O hW) ⟨Nat.le_of_ble_eq_true rfl, Nat.le_of_ble_eq_true rfl⟩ (show ∀ cx ∈ [2, k, bR 0 0], cx < 8589934592 from zl_c (zlo (by decide)) (zl_c (zlo (by omega)) (zl_c r00.2 zl_n))) (st2 := []) rfl (l2 := [bR 0 0, k, 2, 1099511627776]) (by show (List.take 3 _).reverse ++ List.replicate (zMaxL 52 - 3) _ = _; rw [show zMaxL 52 = 4 by decide +kernel]; rfl) ?_
    refine m52_2 hW hk (gF_v (by decide +kernel) ?_)
    by_cases q0 : ¬ a (100 + 8 * k + 2) = 0
    · skip
      refine h_if (w := 281474983002897) (pc2 := 96) (by decide +kernel) (b := true) (by decide +kernel) (by omega)  (zc_ne_t q0) ?_
      refine h_con (w := 257) (pc2 := 97) (by decide +kernel) (v := 0) (by decide +kernel) ?_
      exact nx 0 (by decide) (fun z => absurd rfl z)
    rw [Decidable.not_not] at q0
    refine h_if (w := 281474983002897) (pc2 := 56) (by decide +kernel) (b := false) (by decide +kernel) (by omega)  (zc_ne_f q0) ?_
    refine h_ldr (w := 259) (pc2 := 57) (by decide +kernel) (by decide +kernel) rfl r00 ?_
    refine h_ldi (w := 281474976973314) (pc2 := 59) (by decide +kernel) (by decide +kernel) rfl (by omega) ?_
    refine h_con (w := 262401) (pc2 := 60) (by decide +kernel) (v := 4) (by decide +kernel) ?_
    refine h_cv (w := 18140528122930397992715045) (c := 52) (n := 2) (by decide +kernel) (by decide +kernel) rfl (zA_O hW) ⟨Nat.le_of_ble_eq_true rfl, Nat.le_of_ble_eq_true rfl⟩ (show ∀ cx ∈ [4, k, bR 0 0], cx < 8589934592 from zl_c (zlo (by decide)) (zl_c (zlo (by omega)) (zl_c r00.2 zl_n))) (st2 := []) rfl (l2 := [bR 0 0, k, 4, 1099511627776]) (by show (List.take 3 _).reverse ++ List.replicate (zMaxL 52 - 3) _ = _; rw [show zMaxL 52 = 4 by decide +kernel]; rfl) ?_
    refine m52_4 hW hk (gF_v (by decide +kernel) ?_)
    by_cases q1 : ¬ a (100 + 8 * k + 4) = 0
    · rw [nb_ne.mpr q1]
      refine h_if (w := 281474983002897) (pc2 := 96) (by decide +kernel) (b := true) (by decide +kernel) (by decide)  (by decide +kernel) ?_
      refine h_con (w := 257) (pc2 := 97) (by decide +kernel) (v := 0) (by decide +kernel) ?_
      exact nx 0 (by decide) (fun z => absurd rfl z)
    rw [Decidable.not_not] at q1
    rw [nb_eq.mpr q1]
    refine h_if (w := 281474983002897) (pc2 := 66) (by decide +kernel) (b := false) (by decide +kernel) (by decide)  (by decide +kernel) ?_
    refine h_ldr (w := 259) (pc2 := 67) (by decide +kernel) (by decide +kernel) rfl r00 ?_
    refine h_ldi (w := 281474976973314) (pc2 := 69) (by decide +kernel) (by decide +kernel) rfl (by omega) ?_
    refine h_con (w := 65793) (pc2 := 70) (by decide +kernel) (v := 1) (by decide +kernel) ?_
    refine h_cv (w := 18140528122930397992715045) (c := 52) (n := 2) (by decide +kernel) (by decide +kernel) rfl (zA_O hW) ⟨Nat.le_of_ble_eq_true rfl, Nat.le_of_ble_eq_true rfl⟩ (show ∀ cx ∈ [1, k, bR 0 0], cx < 8589934592 from zl_c (zlo (by decide)) (zl_c (zlo (by omega)) (zl_c r00.2 zl_n))) (st2 := []) rfl (l2 := [bR 0 0, k, 1, 1099511627776]) (by show (List.take 3 _).reverse ++ List.replicate (zMaxL 52 - 3) _ = _; rw [show zMaxL 52 = 4 by decide +kernel]; rfl) ?_
    refine m52_1 hW hk (gF_v (by decide +kernel) ?_)
    refine h_con (w := 262401) (pc2 := 74) (by decide +kernel) (v := 4) (by decide +kernel) ?_
    refine h_div (w := 266) (pc2 := 75) (by decide +kernel) (by decide +kernel) ⟨by omega, by decide, by decide⟩ (c := (a (100 + 8 * k + 1) / 4)) rfl ?_
    refine h_ldi (w := 131330) (pc2 := 76) (by decide +kernel) (by decide +kernel) rfl (by omega) ?_
    refine h_con (w := 262401) (pc2 := 77) (by decide +kernel) (v := 4) (by decide +kernel) ?_
    refine h_div (w := 266) (pc2 := 78) (by decide +kernel) (by decide +kernel) ⟨by omega, by decide, by decide⟩ (c := (q / 4)) rfl ?_
    by_cases q2 : ¬ a (100 + 8 * k + 1) / 4 = q / 4
    · skip
      refine h_icmp (w := 281474983002898) (pc2 := 96) (by decide +kernel) (b := true) (by decide +kernel) (by omega) (by omega) (zc_ne_t q2) ?_
      refine h_con (w := 257) (pc2 := 97) (by decide +kernel) (v := 0) (by decide +kernel) ?_
      exact nx 0 (by decide) (fun z => absurd rfl z)
    rw [Decidable.not_not] at q2
    refine h_icmp (w := 281474983002898) (pc2 := 81) (by decide +kernel) (b := false) (by decide +kernel) (by omega) (by omega) (zc_ne_f q2) ?_
    refine h_ldr (w := 259) (pc2 := 82) (by decide +kernel) (by decide +kernel) rfl r00 ?_
    refine h_ldi (w := 281474976973314) (pc2 := 84) (by decide +kernel) (by decide +kernel) rfl (by omega) ?_
    refine h_con (w := 65793) (pc2 := 85) (by decide +kernel) (v := 1) (by decide +kernel) ?_
    refine h_cv (w := 18140528122930397992715045) (c := 52) (n := 2) (by decide +kernel) (by decide +kernel) rfl (zA_O hW) ⟨Nat.le_of_ble_eq_true rfl, Nat.le_of_ble_eq_true rfl⟩ (show ∀ cx ∈ [1, k, bR 0 0], cx < 8589934592 from zl_c (zlo (by decide)) (zl_c (zlo (by omega)) (zl_c r00.2 zl_n))) (st2 := []) rfl (l2 := [bR 0 0, k, 1, 1099511627776]) (by show (List.take 3 _).reverse ++ List.replicate (zMaxL 52 - 3) _ = _; rw [show zMaxL 52 = 4 by decide +kernel]; rfl) ?_
    refine m52_1 hW hk (gF_v (by decide +kernel) ?_)
    refine h_ldi (w := 131330) (pc2 := 89) (by decide +kernel) (by decide +kernel) rfl (by omega) ?_
    by_cases q3 : a (100 + 8 * k + 1) = q
    · skip
      refine h_icmp (w := 6292242) (pc2 := 96) (by decide +kernel) (b := true) (by decide +kernel) (by omega) (by omega) (zc_eq_t q3) ?_
      refine h_con (w := 257) (pc2 := 97) (by decide +kernel) (v := 0) (by decide +kernel) ?_
      exact nx 0 (by decide) (fun z => absurd rfl z)
    refine h_icmp (w := 6292242) (pc2 := 92) (by decide +kernel) (b := false) (by decide +kernel) (by omega) (by omega) (zc_eq_f q3) ?_
    refine h_con (w := 65793) (pc2 := 93) (by decide +kernel) (v := 1) (by decide +kernel) ?_
    refine h_goto (w := 6357779) (pc2 := 97) (by decide +kernel) (by decide +kernel) ?_
    exact nx 1 (by decide) (fun _ => ⟨q0, q1, q2, q3⟩)
theorem m63_loop (hW : oW a u m) (hu : u ≤ 4) (hI : vI B a) (hB : B < 90000) (hk0 : aK 0 12 a) (g : gFin1 sc Q frs 63 1 m) : ∀ (d q x y z : Nat), q + d = 12 → gFin sc Q frs 63 4 [bR 0 0, 1, q, x, y, z] [] m := by
  intro d
  induction d with
  | zero =>
    intro q x y z hd
    refine h_ldi (w := 131330) (pc2 := 5) (by decide +kernel) (by decide +kernel) rfl (by omega) ?_
    refine h_con (w := 281474977497601) (pc2 := 7) (by decide +kernel) (v := 12) (by decide +kernel) ?_
    refine h_icmp (w := 844424938652434) (pc2 := 130) (by decide +kernel) (b := true) (by decide +kernel) (by omega) (by decide) (zc_ge_t (by omega) (by omega) (by omega)) ?_
    refine h_ldi (w := 65794) (pc2 := 131) (by decide +kernel) (by decide +kernel) rfl (by decide) ?_
    exact h_ret (w := 301) (by decide +kernel) (by decide +kernel) (by decide) (fun _ => by decide) g
  | succ d IH =>
    intro q x y z hd
    have hq : q < 12 := by omega
    have hL := hI.1.2.2.1
    obtain ⟨l0, l2⟩ := (hL q hq).1
    have hl2 : a (300 + 30 * q + 2) < 4294967296 := by
      have := sm_le (f := fAt a q 2) (fun _ => i1_le) (a 1)
      have := hI.1.1.1
      omega
    refine h_ldi (w := 131330) (pc2 := 5) (by decide +kernel) (by decide +kernel) rfl (by omega) ?_
    refine h_con (w := 281474977497601) (pc2 := 7) (by decide +kernel) (v := 12) (by decide +kernel) ?_
    refine h_icmp (w := 844424938652434) (pc2 := 10) (by decide +kernel) (b := false) (by decide +kernel) (by omega) (by decide) (zc_ge_f (by omega) (by omega) (by omega)) ?_
    refine h_ldr (w := 259) (pc2 := 11) (by decide +kernel) (by decide +kernel) rfl r00 ?_
    refine h_ldi (w := 131330) (pc2 := 12) (by decide +kernel) (by decide +kernel) rfl (by omega) ?_
    refine h_con (w := 196865) (pc2 := 13) (by decide +kernel) (v := 3) (by decide +kernel) ?_
    refine h_cv (w := 22976471209061872915776293) (c := 53) (n := 2) (by decide +kernel) (by decide +kernel) rfl (zA_O hW) ⟨Nat.le_of_ble_eq_true rfl, Nat.le_of_ble_eq_true rfl⟩ (show ∀ cx ∈ [3, q, bR 0 0], cx < 8589934592 from zl_c (zlo (by decide)) (zl_c (zlo (by omega)) (zl_c r00.2 zl_n))) (st2 := []) rfl (l2 := [bR 0 0, q, 3, 1099511627776]) (by show (List.take 3 _).reverse ++ List.replicate (zMaxL 53 - 3) _ = _; rw [show zMaxL 53 = 4 by decide +kernel]; rfl) ?_
    refine m53_3 hW hq (gF_v (by decide +kernel) ?_)
    refine h_ldr (w := 259) (pc2 := 17) (by decide +kernel) (by decide +kernel) rfl r00 ?_
    refine h_ldi (w := 131330) (pc2 := 18) (by decide +kernel) (by decide +kernel) rfl (by omega) ?_
    refine h_con (w := 131329) (pc2 := 19) (by decide +kernel) (v := 2) (by decide +kernel) ?_
    refine h_cv (w := 22976471209061872915776293) (c := 53) (n := 2) (by decide +kernel) (by decide +kernel) rfl (zA_O hW) ⟨Nat.le_of_ble_eq_true rfl, Nat.le_of_ble_eq_true rfl⟩ (show ∀ cx ∈ [2, q, bR 0 0], cx < 8589934592 from zl_c (zlo (by decide)) (zl_c (zlo (by omega)) (zl_c r00.2 zl_n))) (st2 := [(a (300 + 30 * q + 0))]) rfl (l2 := [bR 0 0, q, 2, 1099511627776]) (by show (List.take 3 _).reverse ++ List.replicate (zMaxL 53 - 3) _ = _; rw [show zMaxL 53 = 4 by decide +kernel]; rfl) ?_
    refine m53_2 hW hq (gF_v (by decide +kernel) ?_)
    refine h_sub (w := 264) (pc2 := 23) (by decide +kernel) (by decide +kernel) (by omega) hl2 (c := (mOpen a q)) sub1_eq ?_
    refine h_con (w := 65793) (pc2 := 24) (by decide +kernel) (v := 1) (by decide +kernel) ?_
    have nx : ∀ w, w < 2 → (w ≠ 0 → a (300 + 30 * q + 2) + 1 < a (300 + 30 * q + 0)) → gFin sc Q frs 63 32 [bR 0 0, 1, q, x, y, z] [w] m := by
      intro w hw hww
      refine h_sti (w := 196868) (pc2 := 33) (by decide +kernel) (n := 6) (by decide +kernel) rfl (by omega) (ls2 := [bR 0 0, 1, q, w, y, z]) rfl ?_
      refine h_con (w := 257) (pc2 := 34) (by decide +kernel) (v := 0) (by decide +kernel) ?_
      refine h_sti (w := 281474976973316) (pc2 := 36) (by decide +kernel) (n := 6) (by decide +kernel) rfl (by decide) (ls2 := [bR 0 0, 1, q, w, 0, z]) rfl ?_
      refine m63_arms hW hu hI hB hq hw hww hk0 (fun y2 => ?_) (a 1) 0 z (Nat.zero_add _)
      refine h_inc (w := 562949953487622) (pc2 := 127) (by decide +kernel) (by decide +kernel) rfl (by omega) (c2 := (q + 1)) (by show (_ + 1) % 4294967296 = _; omega) (ls2 := [bR 0 0, 1, (q + 1), w, (a 1), y2]) rfl ?_
      refine h_goto (w := 262931) (pc2 := 4) (by decide +kernel) (by decide +kernel) ?_
      exact IH (q + 1) _ _ _ (by omega)
    cases c0 : zlt 1 (mOpen a q)
    · skip
      refine h_icmp (w := 1407374885585682) (pc2 := 31) (by decide +kernel) (b := true) (by decide +kernel) sub1_lt (by decide) (cmp5_t c0) ?_
      refine h_con (w := 257) (pc2 := 32) (by decide +kernel) (v := 0) (by decide +kernel) ?_
      exact nx 0 (by decide) (fun z => absurd rfl z)
    · skip
      refine h_icmp (w := 1407374885585682) (pc2 := 27) (by decide +kernel) (b := false) (by decide +kernel) sub1_lt (by decide) (cmp5_f c0) ?_
      refine h_con (w := 65793) (pc2 := 28) (by decide +kernel) (v := 1) (by decide +kernel) ?_
      refine h_goto (w := 2097939) (pc2 := 32) (by decide +kernel) (by decide +kernel) ?_
      exact nx 1 (by decide) (fun _ => (mOpen_v hq hI.1).mp c0)
theorem m63 {x1 x2 x3 x4 x5 : Nat} (hW : oW a u m) (hu : u ≤ 4) (hI : vI B a) (hB : B < 90000) (hk0 : aK 0 12 a) (g : gFin1 sc Q frs 63 1 m) : gFin sc Q frs 63 0 [bR 0 0, x1, x2, x3, x4, x5] [] m := by
  refine h_con (w := 65793) (pc2 := 1) (by decide +kernel) (v := 1) (by decide +kernel) ?_
  refine h_sti (w := 65796) (pc2 := 2) (by decide +kernel) (n := 6) (by decide +kernel) rfl (by decide) (ls2 := [bR 0 0, 1, x2, x3, x4, x5]) rfl ?_
  refine h_con (w := 257) (pc2 := 3) (by decide +kernel) (v := 0) (by decide +kernel) ?_
  refine h_sti (w := 131332) (pc2 := 4) (by decide +kernel) (n := 6) (by decide +kernel) rfl (by decide) (ls2 := [bR 0 0, 1, 0, x3, x4, x5]) rfl ?_
  exact m63_loop hW hu hI hB hk0 g 12 0 _ _ _ (by decide)
end BG
