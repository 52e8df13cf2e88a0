/-! ===== the law, turn by turn (printed by wip/gen/m8991.py) ===== -/
theorem zc_neg_t {v : Nat} (h : v < 4294967296 ∧ 2147483648 ≤ v) : zCmp 2 v 0 = true := by
  show zlt v 0 = true
  unfold zlt zs
  rw [decide_eq_true_iff, if_neg (by omega), if_pos (by decide)]
  omega
theorem add_sub1 {x y : Nat} (hx : x < 4294967296) (hy : y < 4294967296) : (y + sub1 x y) % 4294967296 = x := by
  have e : sub1 x y = (x + 4294967296 - y) % 4294967296 := rfl
  rw [e]
  omega
theorem sub1_v {x y : Nat} (h : y ≤ x) (hx : x < 4294967296) : sub1 x y = x - y := by
  have e : sub1 x y = (x + 4294967296 - y) % 4294967296 := rfl
  rw [e]
  omega
theorem vI_mo {B B' : Nat} {a : Nat → Nat} (h : vI B a) (hb : B ≤ B') : vI B' a := by
  obtain ⟨h1, h2, ⟨⟨b0, b2⟩, b3, b14⟩⟩ := h
  exact ⟨h1, h2, ⟨⟨by omega, b2⟩, by omega, by omega⟩⟩
theorem mU_le {u : Nat} : mU u ≤ 4 := by
  unfold mU
  split <;> omega
section BG
variable {sc : List Nat} {Q : Nat → zM → Prop} {frs : gCf}
theorem m65_loop {T : Nat} (hs : sOk sc) (hT : T ≤ 45) (g : ∀ m a u, oW a u m → gFin1 sc Q frs 65 1 m) : ∀ (d k x5 x6 x7 x8 x9 x10 x11 x12 x13 x14 x15 x16 x17 x18 x19 x20 : Nat) (a : Nat → Nat) (u : Nat) (m : zM), k + d = T → oW a u m → vI (61 * k) a → u ≤ 4 → gFin sc Q frs 65 32 [8589934595, bR 0 0, 1, T, k, x5, x6, x7, x8, x9, x10, x11, x12, x13, x14, x15, x16, x17, x18, x19, x20] [] m := by
  intro d
  induction d with
  | zero =>
    intro k x5 x6 x7 x8 x9 x10 x11 x12 x13 x14 x15 x16 x17 x18 x19 x20 a u m hd hW hI hu
    refine h_ldi (w := 281474976973314) (pc2 := 34) (by decide +kernel) (by decide +kernel) rfl (by omega) ?_
    refine h_ldi (w := 196866) (pc2 := 35) (by decide +kernel) (by decide +kernel) rfl (by omega) ?_
    refine h_icmp (w := 844424963556114) (pc2 := 510) (by decide +kernel) (b := true) (by decide +kernel) (by omega) (by omega) (zc_ge_t (by omega) (by omega) (by omega)) ?_
    refine h_ldi (w := 131330) (pc2 := 511) (by decide +kernel) (by decide +kernel) rfl (by decide) ?_
    exact h_ret (w := 301) (by decide +kernel) (by decide +kernel) (by decide) (fun _ => by decide) (g _ _ _ hW)
  | succ d IH =>
    intro k x5 x6 x7 x8 x9 x10 x11 x12 x13 x14 x15 x16 x17 x18 x19 x20 a u m hd hW hI hu
    have h16 := hI.1.1.1
    have hB : 61 * k < 90000 := by omega
    obtain ⟨⟨b0, b2⟩, b3, b14⟩ := hI.2.2
    obtain ⟨p0, hS0⟩ := hW.1
    have t4 := hS0.2.1.2.1.1 4
    have t14 := hS0.2.1.2.1.1 14
    have tw := sm_le (f := fDo a 1) (fun _ => i1_le) (a 1)
    have n12 := hI.2.1.2.1
    have n12 : a 0 < a (12 + 0) ∧ a (12 + 0) ≤ a 0 + 64 := n12
    have hz := cel_lt (k := 3 * k) hs
    have hx := cel_lt (k := 3 * k + 1) hs
    have hy := cel_lt (k := 3 * k + 2) hs
    obtain ⟨so, eso⟩ : ∃ so, so = lo1 (cel sc (3 * k)) 20 := ⟨_, rfl⟩
    have hso : so < 20 := by rw [eso]; exact lo1_lt (by decide)
    obtain ⟨t, et⟩ : ∃ t, t = tk1 sc (3 * k) := ⟨_, rfl⟩
    have htb : 1 ≤ t ∧ t ≤ 60 := by rw [et]; exact tk1_b
    have etk : t = 1 + lo1 (cel sc (3 * k + 2)) (bif Nat.beq (lo1 (cel sc (3 * k + 1)) 4) 0 then 60 else 5) := et
    have hrun := run_ok hI (show 61 * k + t < 1000000 by omega)
    obtain ⟨-, -, ⟨c0, c1⟩, ⟨c2, c3⟩, cI⟩ := ps_ok t (61 * k) a hI.1 hI.2.1 hI.2.2 (by omega)
    obtain ⟨c, ec⟩ : ∃ c, c = mPs t a := ⟨_, rfl⟩
    rw [← ec] at c0 c1 c2 c3 cI hrun
    obtain ⟨hWP, hIc⟩ := hrun
    obtain ⟨⟨d0, d2⟩, d3, d14⟩ := hIc.2.2
    refine h_ldi (w := 281474976973314) (pc2 := 34) (by decide +kernel) (by decide +kernel) rfl (by omega) ?_
    refine h_ldi (w := 196866) (pc2 := 35) (by decide +kernel) (by decide +kernel) rfl (by omega) ?_
    refine h_icmp (w := 844424963556114) (pc2 := 38) (by decide +kernel) (b := false) (by decide +kernel) (by omega) (by omega) (zc_ge_f (by omega) (by omega) (by omega)) ?_
    refine h_ldi (w := 131330) (pc2 := 39) (by decide +kernel) (by decide +kernel) rfl (by decide) ?_
    refine h_if (w := 33424145) (pc2 := 42) (by decide +kernel) (b := false) (by decide +kernel) (by decide)  (zc_eq_f (by decide)) ?_
    refine h_ldr (w := 65795) (pc2 := 43) (by decide +kernel) (by decide +kernel) rfl r00 ?_
    refine h_con (w := 281474978021889) (pc2 := 45) (by decide +kernel) (v := 20) (by decide +kernel) ?_
    refine h_cv (w := 10886548929847452648276773) (c := 55) (n := 1) (by decide +kernel) (by decide +kernel) rfl (zA_O hW) ⟨Nat.le_of_ble_eq_true rfl, Nat.le_of_ble_eq_true rfl⟩ (show ∀ cx ∈ [20, bR 0 0], cx < 8589934592 from zl_c (zlo (by decide)) (zl_c r00.2 zl_n)) (st2 := []) rfl (l2 := [bR 0 0, 20]) (by show (List.take 2 _).reverse ++ List.replicate (zMaxL 55 - 2) _ = _; rw [show zMaxL 55 = 2 by decide +kernel]; rfl) ?_
    refine m55_20 hW hu (gF_v (by decide +kernel) ?_)
    refine h_sti (w := 281474977038852) (pc2 := 50) (by decide +kernel) (n := 21) (by decide +kernel) rfl (by omega) (ls2 := [8589934595, bR 0 0, 1, T, k, u, x6, x7, x8, x9, x10, x11, x12, x13, x14, x15, x16, x17, x18, x19, x20]) rfl ?_
    refine h_ldr (w := 65795) (pc2 := 51) (by decide +kernel) (by decide +kernel) rfl r00 ?_
    refine h_con (w := 257) (pc2 := 52) (by decide +kernel) (v := 0) (by decide +kernel) ?_
    refine h_cv (w := 10886548929847452648276773) (c := 55) (n := 1) (by decide +kernel) (by decide +kernel) rfl (zA_O hW) ⟨Nat.le_of_ble_eq_true rfl, Nat.le_of_ble_eq_true rfl⟩ (show ∀ cx ∈ [0, bR 0 0], cx < 8589934592 from zl_c (zlo (by decide)) (zl_c r00.2 zl_n)) (st2 := []) rfl (l2 := [bR 0 0, 0]) (by show (List.take 2 _).reverse ++ List.replicate (zMaxL 55 - 2) _ = _; rw [show zMaxL 55 = 2 by decide +kernel]; rfl) ?_
    refine m55_0 hW hu (gF_v (by decide +kernel) ?_)
    refine h_sti (w := 281474977104388) (pc2 := 57) (by decide +kernel) (n := 21) (by decide +kernel) rfl (by omega) (ls2 := [8589934595, bR 0 0, 1, T, k, u, (a 0), x7, x8, x9, x10, x11, x12, x13, x14, x15, x16, x17, x18, x19, x20]) rfl ?_
    refine h_ldr (w := 65795) (pc2 := 58) (by decide +kernel) (by decide +kernel) rfl r00 ?_
    refine h_con (w := 281474977104385) (pc2 := 60) (by decide +kernel) (v := 6) (by decide +kernel) ?_
    refine h_cv (w := 10886548929847452648276773) (c := 55) (n := 1) (by decide +kernel) (by decide +kernel) rfl (zA_O hW) ⟨Nat.le_of_ble_eq_true rfl, Nat.le_of_ble_eq_true rfl⟩ (show ∀ cx ∈ [6, bR 0 0], cx < 8589934592 from zl_c (zlo (by decide)) (zl_c r00.2 zl_n)) (st2 := []) rfl (l2 := [bR 0 0, 6]) (by show (List.take 2 _).reverse ++ List.replicate (zMaxL 55 - 2) _ = _; rw [show zMaxL 55 = 2 by decide +kernel]; rfl) ?_
    refine m55_6 hW hu (gF_v (by decide +kernel) ?_)
    refine h_sti (w := 281474977169924) (pc2 := 65) (by decide +kernel) (n := 21) (by decide +kernel) rfl (by omega) (ls2 := [8589934595, bR 0 0, 1, T, k, u, (a 0), (a 2), x8, x9, x10, x11, x12, x13, x14, x15, x16, x17, x18, x19, x20]) rfl ?_
    refine h_ldr (w := 65795) (pc2 := 66) (by decide +kernel) (by decide +kernel) rfl r00 ?_
    refine h_con (w := 281474977169921) (pc2 := 68) (by decide +kernel) (v := 7) (by decide +kernel) ?_
    refine h_cv (w := 10886548929847452648276773) (c := 55) (n := 1) (by decide +kernel) (by decide +kernel) rfl (zA_O hW) ⟨Nat.le_of_ble_eq_true rfl, Nat.le_of_ble_eq_true rfl⟩ (show ∀ cx ∈ [7, bR 0 0], cx < 8589934592 from zl_c (zlo (by decide)) (zl_c r00.2 zl_n)) (st2 := []) rfl (l2 := [bR 0 0, 7]) (by show (List.take 2 _).reverse ++ List.replicate (zMaxL 55 - 2) _ = _; rw [show zMaxL 55 = 2 by decide +kernel]; rfl) ?_
    refine m55_7 hW hu (gF_v (by decide +kernel) ?_)
    refine h_sti (w := 281474977235460) (pc2 := 73) (by decide +kernel) (n := 21) (by decide +kernel) rfl (by omega) (ls2 := [8589934595, bR 0 0, 1, T, k, u, (a 0), (a 2), (a 3), x9, x10, x11, x12, x13, x14, x15, x16, x17, x18, x19, x20]) rfl ?_
    refine h_ldr (w := 65795) (pc2 := 74) (by decide +kernel) (by decide +kernel) rfl r00 ?_
    refine h_con (w := 131329) (pc2 := 75) (by decide +kernel) (v := 2) (by decide +kernel) ?_
    refine h_cv (w := 10886548929847452648276773) (c := 55) (n := 1) (by decide +kernel) (by decide +kernel) rfl (zA_O hW) ⟨Nat.le_of_ble_eq_true rfl, Nat.le_of_ble_eq_true rfl⟩ (show ∀ cx ∈ [2, bR 0 0], cx < 8589934592 from zl_c (zlo (by decide)) (zl_c r00.2 zl_n)) (st2 := []) rfl (l2 := [bR 0 0, 2]) (by show (List.take 2 _).reverse ++ List.replicate (zMaxL 55 - 2) _ = _; rw [show zMaxL 55 = 2 by decide +kernel]; rfl) ?_
    refine m55_2 hW hu (gF_v (by decide +kernel) ?_)
    refine h_sti (w := 281474977300996) (pc2 := 80) (by decide +kernel) (n := 21) (by decide +kernel) rfl (by omega) (ls2 := [8589934595, bR 0 0, 1, T, k, u, (a 0), (a 2), (a 3), (sm (a 1) (fDo a 1)), x10, x11, x12, x13, x14, x15, x16, x17, x18, x19, x20]) rfl ?_
    refine h_ldr (w := 65795) (pc2 := 81) (by decide +kernel) (by decide +kernel) rfl r00 ?_
    refine h_con (w := 281474977235457) (pc2 := 83) (by decide +kernel) (v := 8) (by decide +kernel) ?_
    refine h_cv (w := 10886548929847452648276773) (c := 55) (n := 1) (by decide +kernel) (by decide +kernel) rfl (zA_O hW) ⟨Nat.le_of_ble_eq_true rfl, Nat.le_of_ble_eq_true rfl⟩ (show ∀ cx ∈ [8, bR 0 0], cx < 8589934592 from zl_c (zlo (by decide)) (zl_c r00.2 zl_n)) (st2 := []) rfl (l2 := [bR 0 0, 8]) (by show (List.take 2 _).reverse ++ List.replicate (zMaxL 55 - 2) _ = _; rw [show zMaxL 55 = 2 by decide +kernel]; rfl) ?_
    refine m55_8 hW hu (gF_v (by decide +kernel) ?_)
    refine h_sti (w := 281474977366532) (pc2 := 88) (by decide +kernel) (n := 21) (by decide +kernel) rfl t4 (ls2 := [8589934595, bR 0 0, 1, T, k, u, (a 0), (a 2), (a 3), (sm (a 1) (fDo a 1)), (a 4), x11, x12, x13, x14, x15, x16, x17, x18, x19, x20]) rfl ?_
    refine h_ldr (w := 65795) (pc2 := 89) (by decide +kernel) (by decide +kernel) rfl r00 ?_
    refine h_con (w := 281474977300993) (pc2 := 91) (by decide +kernel) (v := 9) (by decide +kernel) ?_
    refine h_cv (w := 10886548929847452648276773) (c := 55) (n := 1) (by decide +kernel) (by decide +kernel) rfl (zA_O hW) ⟨Nat.le_of_ble_eq_true rfl, Nat.le_of_ble_eq_true rfl⟩ (show ∀ cx ∈ [9, bR 0 0], cx < 8589934592 from zl_c (zlo (by decide)) (zl_c r00.2 zl_n)) (st2 := []) rfl (l2 := [bR 0 0, 9]) (by show (List.take 2 _).reverse ++ List.replicate (zMaxL 55 - 2) _ = _; rw [show zMaxL 55 = 2 by decide +kernel]; rfl) ?_
    refine m55_9 hW hu (gF_v (by decide +kernel) ?_)
    refine h_sti (w := 281474977432068) (pc2 := 96) (by decide +kernel) (n := 21) (by decide +kernel) rfl t14 (ls2 := [8589934595, bR 0 0, 1, T, k, u, (a 0), (a 2), (a 3), (sm (a 1) (fDo a 1)), (a 4), (a 14), x12, x13, x14, x15, x16, x17, x18, x19, x20]) rfl ?_
    refine h_ldr2 (w := 259) (pc2 := 97) (by decide +kernel) (by decide +kernel) rfl (by decide) ?_
    refine h_con (w := 196865) (pc2 := 98) (by decide +kernel) (v := 3) (by decide +kernel) ?_
    refine h_ldi (w := 281474976973314) (pc2 := 100) (by decide +kernel) (by decide +kernel) rfl (by omega) ?_
    refine h_mul (w := 265) (pc2 := 101) (by decide +kernel) (by decide +kernel) (by decide) (by omega) (c := (3 * k)) (Nat.mod_eq_of_lt (by omega)) ?_
    refine h_c9 (w := 26602879732742811272676134) (c := 61) (n := 2) (by decide +kernel) (by decide +kernel) ⟨Nat.le_of_ble_eq_true rfl, Nat.le_of_ble_eq_true rfl⟩ (show ∀ cx ∈ [(3 * k), 8589934595], cx < 1099511627776 from ze_c (zlo2 (zlo (by omega))) (ze_c (by decide) ze_n)) (st2 := []) rfl (l2 := [8589934595, (3 * k)]) (by show (List.take 2 _).reverse ++ List.replicate (zMaxL 61 - 2) _ = _; rw [show zMaxL 61 = 2 by decide +kernel]; rfl) ?_
    refine m61 hs (by omega) (gF_v (by decide +kernel) ?_)
    refine h_con (w := 281474978021889) (pc2 := 106) (by decide +kernel) (v := 20) (by decide +kernel) ?_
    refine h_c8 (w := 33856360863454291482641190) (c := 60) (n := 2) (by decide +kernel) (by decide +kernel) ⟨Nat.le_of_ble_eq_true rfl, Nat.le_of_ble_eq_true rfl⟩ (show ∀ cx ∈ [20, (cel sc (3 * k))], cx < 8589934592 from zl_c (zlo (by decide)) (zl_c (zlo hz) zl_n)) (st2 := []) rfl (l2 := [(cel sc (3 * k)), 20]) (by show (List.take 2 _).reverse ++ List.replicate (zMaxL 60 - 2) _ = _; rw [show zMaxL 60 = 2 by decide +kernel]; rfl) ?_
    refine m60 hz ⟨by decide, by decide⟩ (gF_v (by decide +kernel) ?_)
    rw [← eso]
    refine h_sti (w := 281474977497604) (pc2 := 111) (by decide +kernel) (n := 21) (by decide +kernel) rfl (by omega) (ls2 := [8589934595, bR 0 0, 1, T, k, u, (a 0), (a 2), (a 3), (sm (a 1) (fDo a 1)), (a 4), (a 14), so, x13, x14, x15, x16, x17, x18, x19, x20]) rfl ?_
    refine h_con (w := 65793) (pc2 := 112) (by decide +kernel) (v := 1) (by decide +kernel) ?_
    refine h_ldr2 (w := 259) (pc2 := 113) (by decide +kernel) (by decide +kernel) rfl (by decide) ?_
    refine h_con (w := 196865) (pc2 := 114) (by decide +kernel) (v := 3) (by decide +kernel) ?_
    refine h_ldi (w := 281474976973314) (pc2 := 116) (by decide +kernel) (by decide +kernel) rfl (by omega) ?_
    refine h_mul (w := 265) (pc2 := 117) (by decide +kernel) (by decide +kernel) (by decide) (by omega) (c := (3 * k)) (Nat.mod_eq_of_lt (by omega)) ?_
    refine h_con (w := 131329) (pc2 := 118) (by decide +kernel) (v := 2) (by decide +kernel) ?_
    refine h_add (w := 263) (pc2 := 119) (by decide +kernel) (by decide +kernel) (by omega) (by decide) (c := (3 * k + 2)) (Nat.mod_eq_of_lt (by omega)) ?_
    refine h_c9 (w := 26602879732742811272676134) (c := 61) (n := 2) (by decide +kernel) (by decide +kernel) ⟨Nat.le_of_ble_eq_true rfl, Nat.le_of_ble_eq_true rfl⟩ (show ∀ cx ∈ [(3 * k + 2), 8589934595], cx < 1099511627776 from ze_c (zlo2 (zlo (by omega))) (ze_c (by decide) ze_n)) (st2 := [1]) rfl (l2 := [8589934595, (3 * k + 2)]) (by show (List.take 2 _).reverse ++ List.replicate (zMaxL 61 - 2) _ = _; rw [show zMaxL 61 = 2 by decide +kernel]; rfl) ?_
    refine m61 hs (by omega) (gF_v (by decide +kernel) ?_)
    refine h_ldr2 (w := 259) (pc2 := 123) (by decide +kernel) (by decide +kernel) rfl (by decide) ?_
    refine h_con (w := 196865) (pc2 := 124) (by decide +kernel) (v := 3) (by decide +kernel) ?_
    refine h_ldi (w := 281474976973314) (pc2 := 126) (by decide +kernel) (by decide +kernel) rfl (by omega) ?_
    refine h_mul (w := 265) (pc2 := 127) (by decide +kernel) (by decide +kernel) (by decide) (by omega) (c := (3 * k)) (Nat.mod_eq_of_lt (by omega)) ?_
    refine h_con (w := 65793) (pc2 := 128) (by decide +kernel) (v := 1) (by decide +kernel) ?_
    refine h_add (w := 263) (pc2 := 129) (by decide +kernel) (by decide +kernel) (by omega) (by decide) (c := (3 * k + 1)) (Nat.mod_eq_of_lt (by omega)) ?_
    refine h_c9 (w := 26602879732742811272676134) (c := 61) (n := 2) (by decide +kernel) (by decide +kernel) ⟨Nat.le_of_ble_eq_true rfl, Nat.le_of_ble_eq_true rfl⟩ (show ∀ cx ∈ [(3 * k + 1), 8589934595], cx < 1099511627776 from ze_c (zlo2 (zlo (by omega))) (ze_c (by decide) ze_n)) (st2 := [(cel sc (3 * k + 2)), 1]) rfl (l2 := [8589934595, (3 * k + 1)]) (by show (List.take 2 _).reverse ++ List.replicate (zMaxL 61 - 2) _ = _; rw [show zMaxL 61 = 2 by decide +kernel]; rfl) ?_
    refine m61 hs (by omega) (gF_v (by decide +kernel) ?_)
    refine h_con (w := 262401) (pc2 := 133) (by decide +kernel) (v := 4) (by decide +kernel) ?_
    have hl4 := lo1_lt (v := cel sc (3 * k + 1)) (n := 4) (by decide)
    refine h_c8 (w := 33856360863454291482641190) (c := 60) (n := 2) (by decide +kernel) (by decide +kernel) ⟨Nat.le_of_ble_eq_true rfl, Nat.le_of_ble_eq_true rfl⟩ (show ∀ cx ∈ [4, (cel sc (3 * k + 1))], cx < 8589934592 from zl_c (zlo (by decide)) (zl_c (zlo hx) zl_n)) (st2 := [(cel sc (3 * k + 2)), 1]) rfl (l2 := [(cel sc (3 * k + 1)), 4]) (by show (List.take 2 _).reverse ++ List.replicate (zMaxL 60 - 2) _ = _; rw [show zMaxL 60 = 2 by decide +kernel]; rfl) ?_
    refine m60 hx ⟨by decide, by decide⟩ (gF_v (by decide +kernel) ?_)
    have go : gFin sc Q frs 65 149 [8589934595, bR 0 0, 1, T, k, u, (a 0), (a 2), (a 3), (sm (a 1) (fDo a 1)), (a 4), (a 14), so, x13, x14, x15, x16, x17, x18, x19, x20] [t] m := by
      refine h_sti (w := 281474977563140) (pc2 := 151) (by decide +kernel) (n := 21) (by decide +kernel) rfl (by omega) (ls2 := [8589934595, bR 0 0, 1, T, k, u, (a 0), (a 2), (a 3), (sm (a 1) (fDo a 1)), (a 4), (a 14), so, t, x14, x15, x16, x17, x18, x19, x20]) rfl ?_
      refine h_ldr (w := 65795) (pc2 := 152) (by decide +kernel) (by decide +kernel) rfl r00 ?_
      refine h_ldi (w := 281474977563138) (pc2 := 154) (by decide +kernel) (by decide +kernel) rfl (by omega) ?_
      refine h_con (w := 257) (pc2 := 155) (by decide +kernel) (v := 0) (by decide +kernel) ?_
      refine h_cv (w := 68912922236294872541037349) (c := 54) (n := 2) (by decide +kernel) (by decide +kernel) rfl (zA_O hW) ⟨Nat.le_of_ble_eq_true rfl, Nat.le_of_ble_eq_true rfl⟩ (show ∀ cx ∈ [0, t, bR 0 0], cx < 8589934592 from zl_c (zlo (by decide)) (zl_c (zlo (by omega)) (zl_c r00.2 zl_n))) (st2 := []) rfl (l2 := [bR 0 0, t, 0]) (by show (List.take 3 _).reverse ++ List.replicate (zMaxL 54 - 3) _ = _; rw [show zMaxL 54 = 3 by decide +kernel]; rfl) ?_
      refine m54_0 (x := 0) hW hI hB htb (fun m1 hW1 => gF_v (by decide +kernel) ?_)
      rw [← ec]
      refine h_sti (w := 281474977628676) (pc2 := 160) (by decide +kernel) (n := 21) (by decide +kernel) rfl sub1_lt (ls2 := [8589934595, bR 0 0, 1, T, k, u, (a 0), (a 2), (a 3), (sm (a 1) (fDo a 1)), (a 4), (a 14), so, t, (sub1 (c 2) (a 2)), x15, x16, x17, x18, x19, x20]) rfl ?_
      refine h_ldr (w := 65795) (pc2 := 161) (by decide +kernel) (by decide +kernel) rfl r00 ?_
      refine h_ldi (w := 281474977563138) (pc2 := 163) (by decide +kernel) (by decide +kernel) rfl (by omega) ?_
      refine h_con (w := 65793) (pc2 := 164) (by decide +kernel) (v := 1) (by decide +kernel) ?_
      refine h_cv (w := 68912922236294872541037349) (c := 54) (n := 2) (by decide +kernel) (by decide +kernel) rfl (zA_O hW1) ⟨Nat.le_of_ble_eq_true rfl, Nat.le_of_ble_eq_true rfl⟩ (show ∀ cx ∈ [1, t, bR 0 0], cx < 8589934592 from zl_c (zlo (by decide)) (zl_c (zlo (by omega)) (zl_c r00.2 zl_n))) (st2 := []) rfl (l2 := [bR 0 0, t, 1]) (by show (List.take 3 _).reverse ++ List.replicate (zMaxL 54 - 3) _ = _; rw [show zMaxL 54 = 3 by decide +kernel]; rfl) ?_
      refine m54_1 (x := 0) hW1 hI hB htb (fun m2 hW2 => gF_v (by decide +kernel) ?_)
      rw [← ec]
      refine h_sti (w := 281474977694212) (pc2 := 169) (by decide +kernel) (n := 21) (by decide +kernel) rfl (mWt_lt 12 0 0 (by decide)) (ls2 := [8589934595, bR 0 0, 1, T, k, u, (a 0), (a 2), (a 3), (sm (a 1) (fDo a 1)), (a 4), (a 14), so, t, (sub1 (c 2) (a 2)), (mWt c 12 0 0), x16, x17, x18, x19, x20]) rfl ?_
      refine h_ldr (w := 65795) (pc2 := 170) (by decide +kernel) (by decide +kernel) rfl r00 ?_
      refine h_ldi (w := 281474977563138) (pc2 := 172) (by decide +kernel) (by decide +kernel) rfl (by omega) ?_
      refine h_con (w := 131329) (pc2 := 173) (by decide +kernel) (v := 2) (by decide +kernel) ?_
      refine h_cv (w := 68912922236294872541037349) (c := 54) (n := 2) (by decide +kernel) (by decide +kernel) rfl (zA_O hW2) ⟨Nat.le_of_ble_eq_true rfl, Nat.le_of_ble_eq_true rfl⟩ (show ∀ cx ∈ [2, t, bR 0 0], cx < 8589934592 from zl_c (zlo (by decide)) (zl_c (zlo (by omega)) (zl_c r00.2 zl_n))) (st2 := []) rfl (l2 := [bR 0 0, t, 2]) (by show (List.take 3 _).reverse ++ List.replicate (zMaxL 54 - 3) _ = _; rw [show zMaxL 54 = 3 by decide +kernel]; rfl) ?_
      refine m54_2 (x := 0) hW2 hI hB htb (fun m3 hW3 => gF_v (by decide +kernel) ?_)
      rw [← ec]
      refine h_sti (w := 281474977759748) (pc2 := 178) (by decide +kernel) (n := 21) (by decide +kernel) rfl sub1_lt (ls2 := [8589934595, bR 0 0, 1, T, k, u, (a 0), (a 2), (a 3), (sm (a 1) (fDo a 1)), (a 4), (a 14), so, t, (sub1 (c 2) (a 2)), (mWt c 12 0 0), (sub1 (c 4) (a 4)), x17, x18, x19, x20]) rfl ?_
      refine h_ldr (w := 65795) (pc2 := 179) (by decide +kernel) (by decide +kernel) rfl r00 ?_
      refine h_ldi (w := 281474977563138) (pc2 := 181) (by decide +kernel) (by decide +kernel) rfl (by omega) ?_
      refine h_con (w := 196865) (pc2 := 182) (by decide +kernel) (v := 3) (by decide +kernel) ?_
      refine h_cv (w := 68912922236294872541037349) (c := 54) (n := 2) (by decide +kernel) (by decide +kernel) rfl (zA_O hW3) ⟨Nat.le_of_ble_eq_true rfl, Nat.le_of_ble_eq_true rfl⟩ (show ∀ cx ∈ [3, t, bR 0 0], cx < 8589934592 from zl_c (zlo (by decide)) (zl_c (zlo (by omega)) (zl_c r00.2 zl_n))) (st2 := []) rfl (l2 := [bR 0 0, t, 3]) (by show (List.take 3 _).reverse ++ List.replicate (zMaxL 54 - 3) _ = _; rw [show zMaxL 54 = 3 by decide +kernel]; rfl) ?_
      refine m54_3 (x := 0) hW3 hI hB htb (fun m4 hW4 => gF_v (by decide +kernel) ?_)
      rw [← ec]
      refine h_sti (w := 281474977825284) (pc2 := 187) (by decide +kernel) (n := 21) (by decide +kernel) rfl sub1_lt (ls2 := [8589934595, bR 0 0, 1, T, k, u, (a 0), (a 2), (a 3), (sm (a 1) (fDo a 1)), (a 4), (a 14), so, t, (sub1 (c 2) (a 2)), (mWt c 12 0 0), (sub1 (c 4) (a 4)), (sub1 (c 14) (a 14)), x18, x19, x20]) rfl ?_
      refine h_ldr (w := 65795) (pc2 := 188) (by decide +kernel) (by decide +kernel) rfl r00 ?_
      refine h_con (w := 281474977497601) (pc2 := 190) (by decide +kernel) (v := 12) (by decide +kernel) ?_
      refine h_cv (w := 10886548929847452648276773) (c := 55) (n := 1) (by decide +kernel) (by decide +kernel) rfl (zA_O hW4) ⟨Nat.le_of_ble_eq_true rfl, Nat.le_of_ble_eq_true rfl⟩ (show ∀ cx ∈ [12, bR 0 0], cx < 8589934592 from zl_c (zlo (by decide)) (zl_c r00.2 zl_n)) (st2 := []) rfl (l2 := [bR 0 0, 12]) (by show (List.take 2 _).reverse ++ List.replicate (zMaxL 55 - 2) _ = _; rw [show zMaxL 55 = 2 by decide +kernel]; rfl) ?_
      refine m55_12 hW4 hu (gF_v (by decide +kernel) ?_)
      refine h_sti (w := 281474977890820) (pc2 := 195) (by decide +kernel) (n := 21) (by decide +kernel) rfl (by omega) (ls2 := [8589934595, bR 0 0, 1, T, k, u, (a 0), (a 2), (a 3), (sm (a 1) (fDo a 1)), (a 4), (a 14), so, t, (sub1 (c 2) (a 2)), (mWt c 12 0 0), (sub1 (c 4) (a 4)), (sub1 (c 14) (a 14)), (a (12 + 0)), x19, x20]) rfl ?_
      refine h_ldr (w := 65795) (pc2 := 196) (by decide +kernel) (by decide +kernel) rfl r00 ?_
      refine h_ldr2 (w := 259) (pc2 := 197) (by decide +kernel) (by decide +kernel) rfl (by decide) ?_
      refine h_con (w := 196865) (pc2 := 198) (by decide +kernel) (v := 3) (by decide +kernel) ?_
      refine h_ldi (w := 281474976973314) (pc2 := 200) (by decide +kernel) (by decide +kernel) rfl (by omega) ?_
      refine h_mul (w := 265) (pc2 := 201) (by decide +kernel) (by decide +kernel) (by decide) (by omega) (c := (3 * k)) (Nat.mod_eq_of_lt (by omega)) ?_
      have t447 : ∀ (a' : Nat → Nat) (u' : Nat) (m' : zM) (v r : Nat), oW a' u' m' → vI (61 * k + 60) a' → u' ≤ 4 → (r = 0 → (a' 0 = a 0 ∧ a' 3 = a 3 ∧ a' 4 = a 4)) → (r ≠ 0 → aI a') → r < 2 → gFin sc Q frs 65 447 [8589934595, bR 0 0, 1, T, k, u, (a 0), (a 2), (a 3), (sm (a 1) (fDo a 1)), (a 4), (a 14), so, t, (sub1 (c 2) (a 2)), (mWt c 12 0 0), (sub1 (c 4) (a 4)), (sub1 (c 14) (a 14)), (a (12 + 0)), v, r] [1] m' := by
        intro a' u' m' v r hW' hI' hu' hr0 hr1 hr
        have hB' : 61 * k + 60 < 90000 := by omega
        have e1 : vI (61 * (k + 1)) a' := vI_mo hI' (by omega)
        obtain ⟨⟨b0', b2'⟩, b3', b14'⟩ := hI'.2.2
        obtain ⟨p', hS'⟩ := hW'.1
        have t4' := hS'.2.1.2.1.1 4
        refine h_sti (w := 131332) (pc2 := 448) (by decide +kernel) (n := 21) (by decide +kernel) rfl (by decide) (ls2 := [8589934595, bR 0 0, 1, T, k, u, (a 0), (a 2), (a 3), (sm (a 1) (fDo a 1)), (a 4), (a 14), so, t, (sub1 (c 2) (a 2)), (mWt c 12 0 0), (sub1 (c 4) (a 4)), (sub1 (c 14) (a 14)), (a (12 + 0)), v, r]) rfl ?_
        refine h_ldi (w := 131330) (pc2 := 449) (by decide +kernel) (by decide +kernel) rfl (by decide) ?_
        refine h_if (w := 32899857) (pc2 := 452) (by decide +kernel) (b := false) (by decide +kernel) (by decide)  (zc_eq_f (by decide)) ?_
        refine h_ldi (w := 281474978021890) (pc2 := 454) (by decide +kernel) (by decide +kernel) rfl (by omega) ?_
        have t489 : gFin sc Q frs 65 489 [8589934595, bR 0 0, 1, T, k, u, (a 0), (a 2), (a 3), (sm (a 1) (fDo a 1)), (a 4), (a 14), so, t, (sub1 (c 2) (a 2)), (mWt c 12 0 0), (sub1 (c 4) (a 4)), (sub1 (c 14) (a 14)), (a (12 + 0)), v, r] [] m' := by
          refine h_ldr (w := 65795) (pc2 := 490) (by decide +kernel) (by decide +kernel) rfl r00 ?_
          refine h_ldi (w := 281474978021890) (pc2 := 492) (by decide +kernel) (by decide +kernel) rfl (by omega) ?_
          refine h_c8 (w := 82213541221992048147432230) (c := 62) (n := 2) (by decide +kernel) (by decide +kernel) ⟨Nat.le_of_ble_eq_true rfl, Nat.le_of_ble_eq_true rfl⟩ (show ∀ cx ∈ [r, bR 0 0], cx < 8589934592 from zl_c (zlo (by omega)) (zl_c r00.2 zl_n)) (st2 := []) rfl (l2 := [bR 0 0, r, 1099511627776, 1099511627776, 1099511627776, 1099511627776, 1099511627776, 1099511627776]) (by show (List.take 2 _).reverse ++ List.replicate (zMaxL 62 - 2) _ = _; rw [show zMaxL 62 = 8 by decide +kernel]; rfl) ?_
          refine m62 hW' hu' hI' hB' hr hr1 (gF_v (by decide +kernel) ?_)
          refine h_if (w := 32899857) (pc2 := 498) (by decide +kernel) (b := false) (by decide +kernel) (by decide)  (zc_eq_f (by decide)) ?_
          refine h_con (w := 65793) (pc2 := 499) (by decide +kernel) (v := 1) (by decide +kernel) ?_
          refine h_goto (w := 32965395) (pc2 := 503) (by decide +kernel) (by decide +kernel) ?_
          refine h_sti (w := 131332) (pc2 := 504) (by decide +kernel) (n := 21) (by decide +kernel) rfl (by decide) (ls2 := [8589934595, bR 0 0, 1, T, k, u, (a 0), (a 2), (a 3), (sm (a 1) (fDo a 1)), (a 4), (a 14), so, t, (sub1 (c 2) (a 2)), (mWt c 12 0 0), (sub1 (c 4) (a 4)), (sub1 (c 14) (a 14)), (a (12 + 0)), v, r]) rfl ?_
          refine h_inc (w := 1125899906908934) (pc2 := 507) (by decide +kernel) (by decide +kernel) rfl (by omega) (c2 := (k + 1)) (by show (_ + 1) % 4294967296 = _; omega) (ls2 := [8589934595, bR 0 0, 1, T, (k + 1), u, (a 0), (a 2), (a 3), (sm (a 1) (fDo a 1)), (a 4), (a 14), so, t, (sub1 (c 2) (a 2)), (mWt c 12 0 0), (sub1 (c 4) (a 4)), (sub1 (c 14) (a 14)), (a (12 + 0)), v, r]) rfl ?_
          refine h_goto (w := 2097939) (pc2 := 32) (by decide +kernel) (by decide +kernel) ?_
          exact IH (k + 1) _ _ _ _ _ _ _ _ _ _ _ _ _ _ _ _ _ _ _ (by omega) hW' e1 hu'
        by_cases q0 : r = 0
        · obtain ⟨z0, z3, z4⟩ := hr0 q0
          refine h_if (w := 281475008758545) (pc2 := 457) (by decide +kernel) (b := false) (by decide +kernel) (by omega)  (zc_ne_f q0) ?_
          refine h_ldr (w := 65795) (pc2 := 458) (by decide +kernel) (by decide +kernel) rfl r00 ?_
          refine h_con (w := 257) (pc2 := 459) (by decide +kernel) (v := 0) (by decide +kernel) ?_
          refine h_cv (w := 10886548929847452648276773) (c := 55) (n := 1) (by decide +kernel) (by decide +kernel) rfl (zA_O hW') ⟨Nat.le_of_ble_eq_true rfl, Nat.le_of_ble_eq_true rfl⟩ (show ∀ cx ∈ [0, bR 0 0], cx < 8589934592 from zl_c (zlo (by decide)) (zl_c r00.2 zl_n)) (st2 := []) rfl (l2 := [bR 0 0, 0]) (by show (List.take 2 _).reverse ++ List.replicate (zMaxL 55 - 2) _ = _; rw [show zMaxL 55 = 2 by decide +kernel]; rfl) ?_
          refine m55_0 hW' hu' (gF_v (by decide +kernel) ?_)
          refine h_ldi (w := 281474977104386) (pc2 := 464) (by decide +kernel) (by decide +kernel) rfl (by omega) ?_
          refine h_icmp (w := 281475009610514) (pc2 := 467) (by decide +kernel) (b := false) (by decide +kernel) (by omega) (by omega) (zc_ne_f z0) ?_
          refine h_ldr (w := 65795) (pc2 := 468) (by decide +kernel) (by decide +kernel) rfl r00 ?_
          refine h_con (w := 281474977169921) (pc2 := 470) (by decide +kernel) (v := 7) (by decide +kernel) ?_
          refine h_cv (w := 10886548929847452648276773) (c := 55) (n := 1) (by decide +kernel) (by decide +kernel) rfl (zA_O hW') ⟨Nat.le_of_ble_eq_true rfl, Nat.le_of_ble_eq_true rfl⟩ (show ∀ cx ∈ [7, bR 0 0], cx < 8589934592 from zl_c (zlo (by decide)) (zl_c r00.2 zl_n)) (st2 := []) rfl (l2 := [bR 0 0, 7]) (by show (List.take 2 _).reverse ++ List.replicate (zMaxL 55 - 2) _ = _; rw [show zMaxL 55 = 2 by decide +kernel]; rfl) ?_
          refine m55_7 hW' hu' (gF_v (by decide +kernel) ?_)
          refine h_ldi (w := 281474977235458) (pc2 := 475) (by decide +kernel) (by decide +kernel) rfl (by omega) ?_
          refine h_icmp (w := 281475009610514) (pc2 := 478) (by decide +kernel) (b := false) (by decide +kernel) (by omega) (by omega) (zc_ne_f z3) ?_
          refine h_ldr (w := 65795) (pc2 := 479) (by decide +kernel) (by decide +kernel) rfl r00 ?_
          refine h_con (w := 281474977235457) (pc2 := 481) (by decide +kernel) (v := 8) (by decide +kernel) ?_
          refine h_cv (w := 10886548929847452648276773) (c := 55) (n := 1) (by decide +kernel) (by decide +kernel) rfl (zA_O hW') ⟨Nat.le_of_ble_eq_true rfl, Nat.le_of_ble_eq_true rfl⟩ (show ∀ cx ∈ [8, bR 0 0], cx < 8589934592 from zl_c (zlo (by decide)) (zl_c r00.2 zl_n)) (st2 := []) rfl (l2 := [bR 0 0, 8]) (by show (List.take 2 _).reverse ++ List.replicate (zMaxL 55 - 2) _ = _; rw [show zMaxL 55 = 2 by decide +kernel]; rfl) ?_
          refine m55_8 hW' hu' (gF_v (by decide +kernel) ?_)
          refine h_ldi (w := 281474977366530) (pc2 := 486) (by decide +kernel) (by decide +kernel) rfl t4 ?_
          refine h_icmp (w := 281475009610514) (pc2 := 489) (by decide +kernel) (b := false) (by decide +kernel) t4' t4 (zc_ne_f z4) ?_
          exact t489
        · skip
          refine h_if (w := 281475008758545) (pc2 := 489) (by decide +kernel) (b := true) (by decide +kernel) (by omega)  (zc_ne_t q0) ?_
          exact t489
      have t279 : so ≤ 13 → ∀ (a' : Nat → Nat) (u' : Nat) (m' : zM) (v : Nat), oW a' u' m' → vI (61 * k + 60) a' → u' ≤ 4 → (a' 0 = a 0 ∧ a' 3 = a 3 ∧ a' 4 = a 4) → gFin sc Q frs 65 279 [8589934595, bR 0 0, 1, T, k, u, (a 0), (a 2), (a 3), (sm (a 1) (fDo a 1)), (a 4), (a 14), so, t, (sub1 (c 2) (a 2)), (mWt c 12 0 0), (sub1 (c 4) (a 4)), (sub1 (c 14) (a 14)), (a (12 + 0)), v, x20] [1] m' := by
        intro hs13 a' u' m' v hW' hI' hu' hr
        refine h_sti (w := 131332) (pc2 := 280) (by decide +kernel) (n := 21) (by decide +kernel) rfl (by decide) (ls2 := [8589934595, bR 0 0, 1, T, k, u, (a 0), (a 2), (a 3), (sm (a 1) (fDo a 1)), (a 4), (a 14), so, t, (sub1 (c 2) (a 2)), (mWt c 12 0 0), (sub1 (c 4) (a 4)), (sub1 (c 14) (a 14)), (a (12 + 0)), v, x20]) rfl ?_
        refine h_ldi (w := 281474977497602) (pc2 := 282) (by decide +kernel) (by decide +kernel) rfl (by omega) ?_
        refine h_con (w := 281474977563137) (pc2 := 284) (by decide +kernel) (v := 13) (by decide +kernel) ?_
        refine h_icmp (w := 1407374902952722) (pc2 := 296) (by decide +kernel) (b := true) (by decide +kernel) (by omega) (by decide) (zc_le_t (by omega) (by decide) (by omega)) ?_
        refine h_con (w := 257) (pc2 := 297) (by decide +kernel) (v := 0) (by decide +kernel) ?_
        refine h_sti (w := 281474978021892) (pc2 := 299) (by decide +kernel) (n := 21) (by decide +kernel) rfl (by decide) (ls2 := [8589934595, bR 0 0, 1, T, k, u, (a 0), (a 2), (a 3), (sm (a 1) (fDo a 1)), (a 4), (a 14), so, t, (sub1 (c 2) (a 2)), (mWt c 12 0 0), (sub1 (c 4) (a 4)), (sub1 (c 14) (a 14)), (a (12 + 0)), v, 0]) rfl ?_
        refine h_ldi (w := 131330) (pc2 := 300) (by decide +kernel) (by decide +kernel) rfl (by decide) ?_
        refine h_if (w := 29229841) (pc2 := 303) (by decide +kernel) (b := false) (by decide +kernel) (by decide)  (zc_eq_f (by decide)) ?_
        refine h_ldi (w := 281474978021890) (pc2 := 305) (by decide +kernel) (by decide +kernel) rfl (by decide) ?_
        refine h_if (w := 28967697) (pc2 := 442) (by decide +kernel) (b := true) (by decide +kernel) (by decide)  (zc_eq_t rfl) ?_
        refine h_con (w := 65793) (pc2 := 443) (by decide +kernel) (v := 1) (by decide +kernel) ?_
        refine h_goto (w := 29295379) (pc2 := 447) (by decide +kernel) (by decide +kernel) ?_
        exact t447 a' u' m' v 0 hW' hI' hu' (fun _ => hr) (fun z => absurd rfl z) (by decide)
      have t211 : ∀ (a' : Nat → Nat) (m' : zM) (v : Nat), oW a' (mU u) m' → gFin sc Q frs 65 279 [8589934595, bR 0 0, 1, T, k, u, (a 0), (a 2), (a 3), (sm (a 1) (fDo a 1)), (a 4), (a 14), so, t, (sub1 (c 2) (a 2)), (mWt c 12 0 0), (sub1 (c 4) (a 4)), (sub1 (c 14) (a 14)), (a (12 + 0)), v, x20] [1] m' → gFin sc Q frs 65 211 [8589934595, bR 0 0, 1, T, k, u, (a 0), (a 2), (a 3), (sm (a 1) (fDo a 1)), (a 4), (a 14), so, t, (sub1 (c 2) (a 2)), (mWt c 12 0 0), (sub1 (c 4) (a 4)), (sub1 (c 14) (a 14)), (a (12 + 0)), v, x20] [] m' := by
        intro a' m' v hW' nx
        have hmu := mU_le (u := u)
        refine h_ldr (w := 65795) (pc2 := 212) (by decide +kernel) (by decide +kernel) rfl r00 ?_
        refine h_con (w := 281474978021889) (pc2 := 214) (by decide +kernel) (v := 20) (by decide +kernel) ?_
        refine h_cv (w := 10886548929847452648276773) (c := 55) (n := 1) (by decide +kernel) (by decide +kernel) rfl (zA_O hW') ⟨Nat.le_of_ble_eq_true rfl, Nat.le_of_ble_eq_true rfl⟩ (show ∀ cx ∈ [20, bR 0 0], cx < 8589934592 from zl_c (zlo (by decide)) (zl_c r00.2 zl_n)) (st2 := []) rfl (l2 := [bR 0 0, 20]) (by show (List.take 2 _).reverse ++ List.replicate (zMaxL 55 - 2) _ = _; rw [show zMaxL 55 = 2 by decide +kernel]; rfl) ?_
        refine m55_20 hW' mU_le (gF_v (by decide +kernel) ?_)
        refine h_ldi (w := 281474977038850) (pc2 := 219) (by decide +kernel) (by decide +kernel) rfl (by omega) ?_
        refine h_con (w := 262401) (pc2 := 220) (by decide +kernel) (v := 4) (by decide +kernel) ?_
        by_cases q0 : u < 4
        · have em : mU u = u + 1 := if_pos q0
          refine h_icmp (w := 844424945206034) (pc2 := 223) (by decide +kernel) (b := false) (by decide +kernel) (by omega) (by decide) (zc_ge_f (by omega) (by omega) (by omega)) ?_
          refine h_ldi (w := 281474977038850) (pc2 := 225) (by decide +kernel) (by decide +kernel) rfl (by omega) ?_
          refine h_con (w := 65793) (pc2 := 226) (by decide +kernel) (v := 1) (by decide +kernel) ?_
          refine h_add (w := 263) (pc2 := 227) (by decide +kernel) (by decide +kernel) (by omega) (by decide) (c := (u + 1)) (Nat.mod_eq_of_lt (by omega)) ?_
          refine h_goto (w := 15139603) (pc2 := 231) (by decide +kernel) (by decide +kernel) ?_
          refine h_icmp (w := 281474992309010) (pc2 := 234) (by decide +kernel) (b := false) (by decide +kernel) (by omega) (by omega) (zc_ne_f em) ?_
          refine h_con (w := 65793) (pc2 := 235) (by decide +kernel) (v := 1) (by decide +kernel) ?_
          refine h_goto (w := 18285331) (pc2 := 279) (by decide +kernel) (by decide +kernel) ?_
          exact nx
        · have em : mU u = 4 := if_neg q0
          refine h_icmp (w := 844424945206034) (pc2 := 230) (by decide +kernel) (b := true) (by decide +kernel) (by omega) (by decide) (zc_ge_t (by omega) (by omega) (by omega)) ?_
          refine h_con (w := 262401) (pc2 := 231) (by decide +kernel) (v := 4) (by decide +kernel) ?_
          refine h_icmp (w := 281474992309010) (pc2 := 234) (by decide +kernel) (b := false) (by decide +kernel) (by omega) (by decide) (zc_ne_f em) ?_
          refine h_con (w := 65793) (pc2 := 235) (by decide +kernel) (v := 1) (by decide +kernel) ?_
          refine h_goto (w := 18285331) (pc2 := 279) (by decide +kernel) (by decide +kernel) ?_
          exact nx
      refine h_c9 (w := 72542890981863511818240806) (c := 64) (n := 3) (by decide +kernel) (by decide +kernel) ⟨Nat.le_of_ble_eq_true rfl, Nat.le_of_ble_eq_true rfl⟩ (show ∀ cx ∈ [(3 * k), 8589934595, bR 0 0], cx < 1099511627776 from ze_c (zlo2 (zlo (by omega))) (ze_c (by decide) (ze_c (zlo2 r00.2) ze_n))) (st2 := []) rfl (l2 := [bR 0 0, 8589934595, (3 * k), 1099511627776, 1099511627776, 1099511627776, 1099511627776]) (by show (List.take 3 _).reverse ++ List.replicate (zMaxL 64 - 3) _ = _; rw [show zMaxL 64 = 7 by decide +kernel]; rfl) ?_
      refine m64 hs hW4 hI hB hu (by omega) (fun hs13 v m5 a' u' hW5 hR => gF_v (by decide +kernel) ?_) (fun hs13 m5 hW5 => gF_v (by decide +kernel) ?_)
      · rw [← eso] at hs13
        have hv := aR_lt hR
        refine h_sti (w := 281474977956356) (pc2 := 206) (by decide +kernel) (n := 21) (by decide +kernel) rfl hv (ls2 := [8589934595, bR 0 0, 1, T, k, u, (a 0), (a 2), (a 3), (sm (a 1) (fDo a 1)), (a 4), (a 14), so, t, (sub1 (c 2) (a 2)), (mWt c 12 0 0), (sub1 (c 4) (a 4)), (sub1 (c 14) (a 14)), (a (12 + 0)), v, x20]) rfl ?_
        refine h_ldi (w := 281474977956354) (pc2 := 208) (by decide +kernel) (by decide +kernel) rfl hv ?_
        rcases hR with ⟨hneg, rfl, rfl⟩ | ⟨hpos, rfl, hI5, hR5⟩
        · skip
          refine h_if (w := 562949969281809) (pc2 := 242) (by decide +kernel) (b := true) (by decide +kernel) hv  (zc_neg_t hneg) ?_
          refine h_ldr (w := 65795) (pc2 := 243) (by decide +kernel) (by decide +kernel) rfl r00 ?_
          refine h_con (w := 281474978021889) (pc2 := 245) (by decide +kernel) (v := 20) (by decide +kernel) ?_
          refine h_cv (w := 10886548929847452648276773) (c := 55) (n := 1) (by decide +kernel) (by decide +kernel) rfl (zA_O hW5) ⟨Nat.le_of_ble_eq_true rfl, Nat.le_of_ble_eq_true rfl⟩ (show ∀ cx ∈ [20, bR 0 0], cx < 8589934592 from zl_c (zlo (by decide)) (zl_c r00.2 zl_n)) (st2 := []) rfl (l2 := [bR 0 0, 20]) (by show (List.take 2 _).reverse ++ List.replicate (zMaxL 55 - 2) _ = _; rw [show zMaxL 55 = 2 by decide +kernel]; rfl) ?_
          refine m55_20 hW5 hu (gF_v (by decide +kernel) ?_)
          refine h_ldi (w := 281474977038850) (pc2 := 250) (by decide +kernel) (by decide +kernel) rfl (by omega) ?_
          refine h_icmp (w := 281474994930450) (pc2 := 253) (by decide +kernel) (b := false) (by decide +kernel) (by omega) (by omega) (zc_ne_f rfl) ?_
          refine h_ldr (w := 65795) (pc2 := 254) (by decide +kernel) (by decide +kernel) rfl r00 ?_
          refine h_con (w := 257) (pc2 := 255) (by decide +kernel) (v := 0) (by decide +kernel) ?_
          refine h_cv (w := 10886548929847452648276773) (c := 55) (n := 1) (by decide +kernel) (by decide +kernel) rfl (zA_O hW5) ⟨Nat.le_of_ble_eq_true rfl, Nat.le_of_ble_eq_true rfl⟩ (show ∀ cx ∈ [0, bR 0 0], cx < 8589934592 from zl_c (zlo (by decide)) (zl_c r00.2 zl_n)) (st2 := []) rfl (l2 := [bR 0 0, 0]) (by show (List.take 2 _).reverse ++ List.replicate (zMaxL 55 - 2) _ = _; rw [show zMaxL 55 = 2 by decide +kernel]; rfl) ?_
          refine m55_0 hW5 hu (gF_v (by decide +kernel) ?_)
          refine h_ldi (w := 281474977104386) (pc2 := 260) (by decide +kernel) (by decide +kernel) rfl (by omega) ?_
          refine h_icmp (w := 281474994930450) (pc2 := 263) (by decide +kernel) (b := false) (by decide +kernel) (by omega) (by omega) (zc_ne_f rfl) ?_
          refine h_ldr (w := 65795) (pc2 := 264) (by decide +kernel) (by decide +kernel) rfl r00 ?_
          refine h_con (w := 281474977300993) (pc2 := 266) (by decide +kernel) (v := 9) (by decide +kernel) ?_
          refine h_cv (w := 10886548929847452648276773) (c := 55) (n := 1) (by decide +kernel) (by decide +kernel) rfl (zA_O hW5) ⟨Nat.le_of_ble_eq_true rfl, Nat.le_of_ble_eq_true rfl⟩ (show ∀ cx ∈ [9, bR 0 0], cx < 8589934592 from zl_c (zlo (by decide)) (zl_c r00.2 zl_n)) (st2 := []) rfl (l2 := [bR 0 0, 9]) (by show (List.take 2 _).reverse ++ List.replicate (zMaxL 55 - 2) _ = _; rw [show zMaxL 55 = 2 by decide +kernel]; rfl) ?_
          refine m55_9 hW5 hu (gF_v (by decide +kernel) ?_)
          refine h_ldi (w := 281474977432066) (pc2 := 271) (by decide +kernel) (by decide +kernel) rfl t14 ?_
          refine h_icmp (w := 281474994930450) (pc2 := 274) (by decide +kernel) (b := false) (by decide +kernel) t14 t14 (zc_ne_f rfl) ?_
          refine h_con (w := 65793) (pc2 := 275) (by decide +kernel) (v := 1) (by decide +kernel) ?_
          refine h_goto (w := 18285331) (pc2 := 279) (by decide +kernel) (by decide +kernel) ?_
          exact t279 hs13 a' u' m5 v hW5 (vI_mo hI (by omega)) hu ⟨rfl, rfl, rfl⟩
        · skip
          refine h_if (w := 562949969281809) (pc2 := 211) (by decide +kernel) (b := false) (by decide +kernel) hv  (zc_lt_f hpos (by decide) (Nat.zero_le _)) ?_
          exact t211 a' m5 v hW5 (t279 hs13 a' _ m5 v hW5 (vI_mo hI5 (by omega)) mU_le hR5.1)
      · rw [← eso] at hs13
        rw [← et, ← ec] at hW5 ⊢
        have hvv : sub1 (c 2) (a 2) = c 2 - a 2 := sub1_v c2 (by omega)
        obtain ⟨v, ev⟩ : ∃ v, v = sub1 (c 2) (a 2) := ⟨_, rfl⟩
        have hv : v < 2147483648 := by omega
        obtain ⟨p5, hS5⟩ := hW5.1
        have s4 := hS5.2.1.2.1.1 4
        have s14 := hS5.2.1.2.1.1 14
        have hmu := mU_le (u := u)
        have c16 := hIc.1.1.1
        have hm : t * c 1 ≤ 60 * 16 := Nat.mul_le_mul htb.2 c16
        rw [← c1] at c3
        obtain ⟨w, ew⟩ : ∃ w, w = t * c 1 := ⟨_, rfl⟩
        rw [← ew] at hm c3
        rw [← ev]
        refine h_sti (w := 281474977956356) (pc2 := 206) (by decide +kernel) (n := 21) (by decide +kernel) rfl (by omega) (ls2 := [8589934595, bR 0 0, 1, T, k, u, (a 0), (a 2), (a 3), (sm (a 1) (fDo a 1)), (a 4), (a 14), so, t, v, (mWt c 12 0 0), (sub1 (c 4) (a 4)), (sub1 (c 14) (a 14)), (a (12 + 0)), v, x20]) rfl ?_
        refine h_ldi (w := 281474977956354) (pc2 := 208) (by decide +kernel) (by decide +kernel) rfl (by omega) ?_
        refine h_if (w := 562949969281809) (pc2 := 211) (by decide +kernel) (b := false) (by decide +kernel) (by omega)  (zc_lt_f hv (by decide) (Nat.zero_le _)) ?_
        rw [← ev] at t211
        refine t211 c m5 v hW5 ?_
        refine h_sti (w := 131332) (pc2 := 280) (by decide +kernel) (n := 21) (by decide +kernel) rfl (by decide) (ls2 := [8589934595, bR 0 0, 1, T, k, u, (a 0), (a 2), (a 3), (sm (a 1) (fDo a 1)), (a 4), (a 14), so, t, v, (mWt c 12 0 0), (sub1 (c 4) (a 4)), (sub1 (c 14) (a 14)), (a (12 + 0)), v, x20]) rfl ?_
        refine h_ldi (w := 281474977497602) (pc2 := 282) (by decide +kernel) (by decide +kernel) rfl (by omega) ?_
        refine h_con (w := 281474977563137) (pc2 := 284) (by decide +kernel) (v := 13) (by decide +kernel) ?_
        refine h_icmp (w := 1407374902952722) (pc2 := 287) (by decide +kernel) (b := false) (by decide +kernel) (by omega) (by decide) (zc_le_f (by omega) (by decide) (by omega)) ?_
        refine h_ldi (w := 281474977956354) (pc2 := 289) (by decide +kernel) (by decide +kernel) rfl (by omega) ?_
        refine h_if (w := 562949972820753) (pc2 := 292) (by decide +kernel) (b := false) (by decide +kernel) (by omega)  (zc_lt_f hv (by decide) (Nat.zero_le _)) ?_
        refine h_con (w := 65793) (pc2 := 293) (by decide +kernel) (v := 1) (by decide +kernel) ?_
        refine h_goto (w := 19464979) (pc2 := 297) (by decide +kernel) (by decide +kernel) ?_
        refine h_sti (w := 281474978021892) (pc2 := 299) (by decide +kernel) (n := 21) (by decide +kernel) rfl (by decide) (ls2 := [8589934595, bR 0 0, 1, T, k, u, (a 0), (a 2), (a 3), (sm (a 1) (fDo a 1)), (a 4), (a 14), so, t, v, (mWt c 12 0 0), (sub1 (c 4) (a 4)), (sub1 (c 14) (a 14)), (a (12 + 0)), v, 1]) rfl ?_
        refine h_ldi (w := 131330) (pc2 := 300) (by decide +kernel) (by decide +kernel) rfl (by decide) ?_
        refine h_if (w := 29229841) (pc2 := 303) (by decide +kernel) (b := false) (by decide +kernel) (by decide)  (zc_eq_f (by decide)) ?_
        refine h_ldi (w := 281474978021890) (pc2 := 305) (by decide +kernel) (by decide +kernel) rfl (by decide) ?_
        refine h_if (w := 28967697) (pc2 := 308) (by decide +kernel) (b := false) (by decide +kernel) (by decide)  (zc_eq_f (by decide)) ?_
        refine h_ldi (w := 281474977956354) (pc2 := 310) (by decide +kernel) (by decide +kernel) rfl (by omega) ?_
        refine h_ldi (w := 281474977628674) (pc2 := 312) (by decide +kernel) (by decide +kernel) rfl (by omega) ?_
        refine h_icmp (w := 281475005940498) (pc2 := 315) (by decide +kernel) (b := false) (by decide +kernel) (by omega) (by omega) (zc_ne_f rfl) ?_
        refine h_ldr (w := 65795) (pc2 := 316) (by decide +kernel) (by decide +kernel) rfl r00 ?_
        refine h_con (w := 327937) (pc2 := 317) (by decide +kernel) (v := 5) (by decide +kernel) ?_
        refine h_cv (w := 10886548929847452648276773) (c := 55) (n := 1) (by decide +kernel) (by decide +kernel) rfl (zA_O hW5) ⟨Nat.le_of_ble_eq_true rfl, Nat.le_of_ble_eq_true rfl⟩ (show ∀ cx ∈ [5, bR 0 0], cx < 8589934592 from zl_c (zlo (by decide)) (zl_c r00.2 zl_n)) (st2 := []) rfl (l2 := [bR 0 0, 5]) (by show (List.take 2 _).reverse ++ List.replicate (zMaxL 55 - 2) _ = _; rw [show zMaxL 55 = 2 by decide +kernel]; rfl) ?_
        refine m55_5 hW5 mU_le (gF_v (by decide +kernel) ?_)
        refine h_ldi (w := 281474977694210) (pc2 := 322) (by decide +kernel) (by decide +kernel) rfl (mWt_lt 12 0 0 (by decide)) ?_
        refine h_icmp (w := 281475005940498) (pc2 := 325) (by decide +kernel) (b := false) (by decide +kernel) (mWt_lt 12 0 0 (by decide)) (mWt_lt 12 0 0 (by decide)) (zc_ne_f rfl) ?_
        refine h_ldr (w := 65795) (pc2 := 326) (by decide +kernel) (by decide +kernel) rfl r00 ?_
        refine h_con (w := 281474977235457) (pc2 := 328) (by decide +kernel) (v := 8) (by decide +kernel) ?_
        refine h_cv (w := 10886548929847452648276773) (c := 55) (n := 1) (by decide +kernel) (by decide +kernel) rfl (zA_O hW5) ⟨Nat.le_of_ble_eq_true rfl, Nat.le_of_ble_eq_true rfl⟩ (show ∀ cx ∈ [8, bR 0 0], cx < 8589934592 from zl_c (zlo (by decide)) (zl_c r00.2 zl_n)) (st2 := []) rfl (l2 := [bR 0 0, 8]) (by show (List.take 2 _).reverse ++ List.replicate (zMaxL 55 - 2) _ = _; rw [show zMaxL 55 = 2 by decide +kernel]; rfl) ?_
        refine m55_8 hW5 mU_le (gF_v (by decide +kernel) ?_)
        refine h_ldi (w := 281474977366530) (pc2 := 333) (by decide +kernel) (by decide +kernel) rfl t4 ?_
        refine h_ldi (w := 281474977759746) (pc2 := 335) (by decide +kernel) (by decide +kernel) rfl sub1_lt ?_
        refine h_add (w := 263) (pc2 := 336) (by decide +kernel) (by decide +kernel) t4 sub1_lt (c := (c 4)) (add_sub1 s4 t4) ?_
        refine h_icmp (w := 281475005940498) (pc2 := 339) (by decide +kernel) (b := false) (by decide +kernel) s4 s4 (zc_ne_f rfl) ?_
        refine h_ldr (w := 65795) (pc2 := 340) (by decide +kernel) (by decide +kernel) rfl r00 ?_
        refine h_con (w := 281474977300993) (pc2 := 342) (by decide +kernel) (v := 9) (by decide +kernel) ?_
        refine h_cv (w := 10886548929847452648276773) (c := 55) (n := 1) (by decide +kernel) (by decide +kernel) rfl (zA_O hW5) ⟨Nat.le_of_ble_eq_true rfl, Nat.le_of_ble_eq_true rfl⟩ (show ∀ cx ∈ [9, bR 0 0], cx < 8589934592 from zl_c (zlo (by decide)) (zl_c r00.2 zl_n)) (st2 := []) rfl (l2 := [bR 0 0, 9]) (by show (List.take 2 _).reverse ++ List.replicate (zMaxL 55 - 2) _ = _; rw [show zMaxL 55 = 2 by decide +kernel]; rfl) ?_
        refine m55_9 hW5 mU_le (gF_v (by decide +kernel) ?_)
        refine h_ldi (w := 281474977432066) (pc2 := 347) (by decide +kernel) (by decide +kernel) rfl t14 ?_
        refine h_ldi (w := 281474977825282) (pc2 := 349) (by decide +kernel) (by decide +kernel) rfl sub1_lt ?_
        refine h_add (w := 263) (pc2 := 350) (by decide +kernel) (by decide +kernel) t14 sub1_lt (c := (c 14)) (add_sub1 s14 t14) ?_
        refine h_icmp (w := 281475005940498) (pc2 := 353) (by decide +kernel) (b := false) (by decide +kernel) s14 s14 (zc_ne_f rfl) ?_
        refine h_ldr (w := 65795) (pc2 := 354) (by decide +kernel) (by decide +kernel) rfl r00 ?_
        refine h_con (w := 257) (pc2 := 355) (by decide +kernel) (v := 0) (by decide +kernel) ?_
        refine h_cv (w := 10886548929847452648276773) (c := 55) (n := 1) (by decide +kernel) (by decide +kernel) rfl (zA_O hW5) ⟨Nat.le_of_ble_eq_true rfl, Nat.le_of_ble_eq_true rfl⟩ (show ∀ cx ∈ [0, bR 0 0], cx < 8589934592 from zl_c (zlo (by decide)) (zl_c r00.2 zl_n)) (st2 := []) rfl (l2 := [bR 0 0, 0]) (by show (List.take 2 _).reverse ++ List.replicate (zMaxL 55 - 2) _ = _; rw [show zMaxL 55 = 2 by decide +kernel]; rfl) ?_
        refine m55_0 hW5 mU_le (gF_v (by decide +kernel) ?_)
        refine h_ldi (w := 281474977104386) (pc2 := 360) (by decide +kernel) (by decide +kernel) rfl (by omega) ?_
        refine h_ldi (w := 281474977563138) (pc2 := 362) (by decide +kernel) (by decide +kernel) rfl (by omega) ?_
        refine h_add (w := 263) (pc2 := 363) (by decide +kernel) (by decide +kernel) (by omega) (by omega) (c := (c 0)) (by omega) ?_
        refine h_icmp (w := 281475005940498) (pc2 := 366) (by decide +kernel) (b := false) (by decide +kernel) (by omega) (by omega) (zc_ne_f rfl) ?_
        refine h_ldr (w := 65795) (pc2 := 367) (by decide +kernel) (by decide +kernel) rfl r00 ?_
        refine h_con (w := 281474977104385) (pc2 := 369) (by decide +kernel) (v := 6) (by decide +kernel) ?_
        refine h_cv (w := 10886548929847452648276773) (c := 55) (n := 1) (by decide +kernel) (by decide +kernel) rfl (zA_O hW5) ⟨Nat.le_of_ble_eq_true rfl, Nat.le_of_ble_eq_true rfl⟩ (show ∀ cx ∈ [6, bR 0 0], cx < 8589934592 from zl_c (zlo (by decide)) (zl_c r00.2 zl_n)) (st2 := []) rfl (l2 := [bR 0 0, 6]) (by show (List.take 2 _).reverse ++ List.replicate (zMaxL 55 - 2) _ = _; rw [show zMaxL 55 = 2 by decide +kernel]; rfl) ?_
        refine m55_6 hW5 mU_le (gF_v (by decide +kernel) ?_)
        refine h_ldi (w := 281474977169922) (pc2 := 374) (by decide +kernel) (by decide +kernel) rfl (by omega) ?_
        refine h_ldi (w := 281474977956354) (pc2 := 376) (by decide +kernel) (by decide +kernel) rfl (by omega) ?_
        refine h_add (w := 263) (pc2 := 377) (by decide +kernel) (by decide +kernel) (by omega) (by omega) (c := (c 2)) (by omega) ?_
        refine h_icmp (w := 281475005940498) (pc2 := 380) (by decide +kernel) (b := false) (by decide +kernel) (by omega) (by omega) (zc_ne_f rfl) ?_
        refine h_ldr (w := 65795) (pc2 := 381) (by decide +kernel) (by decide +kernel) rfl r00 ?_
        refine h_con (w := 281474977169921) (pc2 := 383) (by decide +kernel) (v := 7) (by decide +kernel) ?_
        refine h_cv (w := 10886548929847452648276773) (c := 55) (n := 1) (by decide +kernel) (by decide +kernel) rfl (zA_O hW5) ⟨Nat.le_of_ble_eq_true rfl, Nat.le_of_ble_eq_true rfl⟩ (show ∀ cx ∈ [7, bR 0 0], cx < 8589934592 from zl_c (zlo (by decide)) (zl_c r00.2 zl_n)) (st2 := []) rfl (l2 := [bR 0 0, 7]) (by show (List.take 2 _).reverse ++ List.replicate (zMaxL 55 - 2) _ = _; rw [show zMaxL 55 = 2 by decide +kernel]; rfl) ?_
        refine m55_7 hW5 mU_le (gF_v (by decide +kernel) ?_)
        refine h_ldi (w := 281474977235458) (pc2 := 388) (by decide +kernel) (by decide +kernel) rfl (by omega) ?_
        refine h_ldi (w := 281474977563138) (pc2 := 390) (by decide +kernel) (by decide +kernel) rfl (by omega) ?_
        refine h_ldr (w := 65795) (pc2 := 391) (by decide +kernel) (by decide +kernel) rfl r00 ?_
        refine h_con (w := 65793) (pc2 := 392) (by decide +kernel) (v := 1) (by decide +kernel) ?_
        refine h_cv (w := 10886548929847452648276773) (c := 55) (n := 1) (by decide +kernel) (by decide +kernel) rfl (zA_O hW5) ⟨Nat.le_of_ble_eq_true rfl, Nat.le_of_ble_eq_true rfl⟩ (show ∀ cx ∈ [1, bR 0 0], cx < 8589934592 from zl_c (zlo (by decide)) (zl_c r00.2 zl_n)) (st2 := [t, (a 3), (c 3)]) rfl (l2 := [bR 0 0, 1]) (by show (List.take 2 _).reverse ++ List.replicate (zMaxL 55 - 2) _ = _; rw [show zMaxL 55 = 2 by decide +kernel]; rfl) ?_
        refine m55_1 hW5 mU_le (gF_v (by decide +kernel) ?_)
        refine h_mul (w := 265) (pc2 := 396) (by decide +kernel) (by decide +kernel) (by omega) (by omega) (c := w) (by rw [← ew]; exact Nat.mod_eq_of_lt (by omega)) ?_
        refine h_add (w := 263) (pc2 := 397) (by decide +kernel) (by decide +kernel) (by omega) (by omega) (c := (a 3 + w)) (Nat.mod_eq_of_lt (by omega)) ?_
        refine h_icmp (w := 1125899936072466) (pc2 := 400) (by decide +kernel) (b := false) (by decide +kernel) (by omega) (by omega) (zc_gt_f (by omega) (by omega) (by omega)) ?_
        have n442 : gFin sc Q frs 65 442 [8589934595, bR 0 0, 1, T, k, u, (a 0), (a 2), (a 3), (sm (a 1) (fDo a 1)), (a 4), (a 14), so, t, v, (mWt c 12 0 0), (sub1 (c 4) (a 4)), (sub1 (c 14) (a 14)), (a (12 + 0)), v, 1] [] m5 := by
          refine h_con (w := 65793) (pc2 := 443) (by decide +kernel) (v := 1) (by decide +kernel) ?_
          refine h_goto (w := 29295379) (pc2 := 447) (by decide +kernel) (by decide +kernel) ?_
          rw [← ev] at t447
          exact t447 c _ m5 v 1 hW5 (vI_mo hIc (by omega)) mU_le (fun z => absurd z (by decide)) (fun _ => cI (by omega)) (by decide)
        by_cases q1 : 1 < t
        · skip
          refine h_ldi (w := 281474977563138) (pc2 := 402) (by decide +kernel) (by decide +kernel) rfl (by omega) ?_
          refine h_con (w := 65793) (pc2 := 403) (by decide +kernel) (v := 1) (by decide +kernel) ?_
          refine h_icmp (w := 1125899934368530) (pc2 := 420) (by decide +kernel) (b := true) (by decide +kernel) (by omega) (by decide) (zc_gt_t (by omega) (by decide) q1) ?_
          refine h_ldi (w := 281474977563138) (pc2 := 422) (by decide +kernel) (by decide +kernel) rfl (by omega) ?_
          refine h_con (w := 65793) (pc2 := 423) (by decide +kernel) (v := 1) (by decide +kernel) ?_
          refine h_icmp (w := 1125899935810322) (pc2 := 442) (by decide +kernel) (b := true) (by decide +kernel) (by omega) (by decide) (zc_gt_t (by omega) (by decide) q1) ?_
          exact n442
        · have t1 : t = 1 := by omega
          have em : c = mTi a := by rw [ec, t1]; rfl
          obtain ⟨-, -, -, ⟨f3, -, -⟩, -, -, fK⟩ := ti_ok hI.1 hI.2.1 ⟨⟨by omega, by omega⟩, by omega, b2⟩
          rw [← em] at f3 fK
          refine h_ldi (w := 281474977563138) (pc2 := 402) (by decide +kernel) (by decide +kernel) rfl (by omega) ?_
          refine h_con (w := 65793) (pc2 := 403) (by decide +kernel) (v := 1) (by decide +kernel) ?_
          refine h_icmp (w := 1125899934368530) (pc2 := 406) (by decide +kernel) (b := false) (by decide +kernel) (by omega) (by decide) (zc_gt_f (by omega) (by decide) (by omega)) ?_
          refine h_ldr (w := 65795) (pc2 := 407) (by decide +kernel) (by decide +kernel) rfl r00 ?_
          refine h_con (w := 281474977169921) (pc2 := 409) (by decide +kernel) (v := 7) (by decide +kernel) ?_
          refine h_cv (w := 10886548929847452648276773) (c := 55) (n := 1) (by decide +kernel) (by decide +kernel) rfl (zA_O hW5) ⟨Nat.le_of_ble_eq_true rfl, Nat.le_of_ble_eq_true rfl⟩ (show ∀ cx ∈ [7, bR 0 0], cx < 8589934592 from zl_c (zlo (by decide)) (zl_c r00.2 zl_n)) (st2 := []) rfl (l2 := [bR 0 0, 7]) (by show (List.take 2 _).reverse ++ List.replicate (zMaxL 55 - 2) _ = _; rw [show zMaxL 55 = 2 by decide +kernel]; rfl) ?_
          refine m55_7 hW5 mU_le (gF_v (by decide +kernel) ?_)
          refine h_ldi (w := 281474977235458) (pc2 := 414) (by decide +kernel) (by decide +kernel) rfl (by omega) ?_
          refine h_ldi (w := 281474977300994) (pc2 := 416) (by decide +kernel) (by decide +kernel) rfl (by omega) ?_
          refine h_add (w := 263) (pc2 := 417) (by decide +kernel) (by decide +kernel) (by omega) (by omega) (c := (a 3 + sm (a 1) (fDo a 1))) (Nat.mod_eq_of_lt (by omega)) ?_
          refine h_icmp (w := 281475005940498) (pc2 := 420) (by decide +kernel) (b := false) (by decide +kernel) (by omega) (by omega) (zc_ne_f f3) ?_
          refine h_ldi (w := 281474977563138) (pc2 := 422) (by decide +kernel) (by decide +kernel) rfl (by omega) ?_
          refine h_con (w := 65793) (pc2 := 423) (by decide +kernel) (v := 1) (by decide +kernel) ?_
          refine h_icmp (w := 1125899935810322) (pc2 := 426) (by decide +kernel) (b := false) (by decide +kernel) (by omega) (by decide) (zc_gt_f (by omega) (by decide) (by omega)) ?_
          refine h_ldi (w := 281474977890818) (pc2 := 428) (by decide +kernel) (by decide +kernel) rfl (by omega) ?_
          refine h_ldi (w := 281474977104386) (pc2 := 430) (by decide +kernel) (by decide +kernel) rfl (by omega) ?_
          refine h_con (w := 65793) (pc2 := 431) (by decide +kernel) (v := 1) (by decide +kernel) ?_
          refine h_add (w := 263) (pc2 := 432) (by decide +kernel) (by decide +kernel) (by omega) (by decide) (c := (a 0 + 1)) (Nat.mod_eq_of_lt (by omega)) ?_
          by_cases q2 : a (12 + 0) = a 0 + 1
          · skip
            refine h_icmp (w := 281475005678354) (pc2 := 435) (by decide +kernel) (b := false) (by decide +kernel) (by omega) (by omega) (zc_ne_f q2) ?_
            refine h_ldr (w := 65795) (pc2 := 436) (by decide +kernel) (by decide +kernel) rfl r00 ?_
            refine h_c8 (w := 77378538919526857434923814) (c := 63) (n := 1) (by decide +kernel) (by decide +kernel) ⟨Nat.le_of_ble_eq_true rfl, Nat.le_of_ble_eq_true rfl⟩ (show ∀ cx ∈ [bR 0 0], cx < 8589934592 from zl_c r00.2 zl_n) (st2 := []) rfl (l2 := [bR 0 0, 1099511627776, 1099511627776, 1099511627776, 1099511627776, 1099511627776]) (by show (List.take 1 _).reverse ++ List.replicate (zMaxL 63 - 1) _ = _; rw [show zMaxL 63 = 6 by decide +kernel]; rfl) ?_
            refine m63 hW5 mU_le hIc (show 61 * k + t < 90000 by omega) (fK q2) (gF_v (by decide +kernel) ?_)
            refine h_if (w := 29229841) (pc2 := 442) (by decide +kernel) (b := false) (by decide +kernel) (by decide)  (zc_eq_f (by decide)) ?_
            exact n442
          · skip
            refine h_icmp (w := 281475005678354) (pc2 := 442) (by decide +kernel) (b := true) (by decide +kernel) (by omega) (by omega) (zc_ne_t q2) ?_
            exact n442
    by_cases q0 : lo1 (cel sc (3 * k + 1)) 4 = 0
    · rw [nb_eq.mpr q0, cond_true] at etk
      have hlt := lo1_lt (v := cel sc (3 * k + 2)) (n := 60) (by decide)
      refine h_if (w := 281474986148625) (pc2 := 139) (by decide +kernel) (b := false) (by decide +kernel) (by omega)  (zc_ne_f q0) ?_
      refine h_con (w := 281474980643329) (pc2 := 141) (by decide +kernel) (v := 60) (by decide +kernel) ?_
      refine h_goto (w := 9503507) (pc2 := 145) (by decide +kernel) (by decide +kernel) ?_
      refine h_c8 (w := 33856360863454291482641190) (c := 60) (n := 2) (by decide +kernel) (by decide +kernel) ⟨Nat.le_of_ble_eq_true rfl, Nat.le_of_ble_eq_true rfl⟩ (show ∀ cx ∈ [60, (cel sc (3 * k + 2))], cx < 8589934592 from zl_c (zlo (by decide)) (zl_c (zlo hy) zl_n)) (st2 := [1]) rfl (l2 := [(cel sc (3 * k + 2)), 60]) (by show (List.take 2 _).reverse ++ List.replicate (zMaxL 60 - 2) _ = _; rw [show zMaxL 60 = 2 by decide +kernel]; rfl) ?_
      refine m60 hy ⟨by decide, by decide⟩ (gF_v (by decide +kernel) ?_)
      refine h_add (w := 263) (pc2 := 149) (by decide +kernel) (by decide +kernel) (by decide) (by omega) (c := t) (by rw [etk]; exact Nat.mod_eq_of_lt (by omega)) ?_
      exact go
    · rw [nb_ne.mpr q0, cond_false] at etk
      have hlt := lo1_lt (v := cel sc (3 * k + 2)) (n := 5) (by decide)
      refine h_if (w := 281474986148625) (pc2 := 144) (by decide +kernel) (b := true) (by decide +kernel) (by omega)  (zc_ne_t q0) ?_
      refine h_con (w := 327937) (pc2 := 145) (by decide +kernel) (v := 5) (by decide +kernel) ?_
      refine h_c8 (w := 33856360863454291482641190) (c := 60) (n := 2) (by decide +kernel) (by decide +kernel) ⟨Nat.le_of_ble_eq_true rfl, Nat.le_of_ble_eq_true rfl⟩ (show ∀ cx ∈ [5, (cel sc (3 * k + 2))], cx < 8589934592 from zl_c (zlo (by decide)) (zl_c (zlo hy) zl_n)) (st2 := [1]) rfl (l2 := [(cel sc (3 * k + 2)), 5]) (by show (List.take 2 _).reverse ++ List.replicate (zMaxL 60 - 2) _ = _; rw [show zMaxL 60 = 2 by decide +kernel]; rfl) ?_
      refine m60 hy ⟨by decide, by decide⟩ (gF_v (by decide +kernel) ?_)
      refine h_add (w := 263) (pc2 := 149) (by decide +kernel) (by decide +kernel) (by decide) (by omega) (c := t) (by rw [etk]; exact Nat.mod_eq_of_lt (by omega)) ?_
      exact go
theorem m65 (hs : sOk sc) {a : Nat → Nat} {m : zM} (hW : oW a 0 m) (hI : vI 0 a) (g : ∀ m a u, oW a u m → gFin1 sc Q frs 65 1 m) : gFin sc Q frs 65 8 [8589934595, bR 0 0, 1099511627776, 1099511627776, 1099511627776, 1099511627776, 1099511627776, 1099511627776, 1099511627776, 1099511627776, 1099511627776, 1099511627776, 1099511627776, 1099511627776, 1099511627776, 1099511627776, 1099511627776, 1099511627776, 1099511627776, 1099511627776, 1099511627776] [] m := by
  have hl := hs.1
  refine h_con (w := 65793) (pc2 := 9) (by decide +kernel) (v := 1) (by decide +kernel) ?_
  refine h_sti (w := 131332) (pc2 := 10) (by decide +kernel) (n := 21) (by decide +kernel) rfl (by decide) (ls2 := [8589934595, bR 0 0, 1, 1099511627776, 1099511627776, 1099511627776, 1099511627776, 1099511627776, 1099511627776, 1099511627776, 1099511627776, 1099511627776, 1099511627776, 1099511627776, 1099511627776, 1099511627776, 1099511627776, 1099511627776, 1099511627776, 1099511627776, 1099511627776]) rfl ?_
  refine h_ldr2 (w := 259) (pc2 := 11) (by decide +kernel) (by decide +kernel) rfl (by decide) ?_
  refine h_lens (w := 288) (pc2 := 12) (by decide +kernel) (by decide +kernel) hl ?_
  refine h_con (w := 196865) (pc2 := 13) (by decide +kernel) (v := 3) (by decide +kernel) ?_
  refine h_div (w := 266) (pc2 := 14) (by decide +kernel) (by decide +kernel) ⟨hl, by decide, by decide⟩ (c := (sc.length / 3)) rfl ?_
  refine h_con (w := 281474979660289) (pc2 := 16) (by decide +kernel) (v := 45) (by decide +kernel) ?_
  by_cases q0 : sc.length / 3 ≤ 45
  · skip
    refine h_icmp (w := 1407374885126930) (pc2 := 24) (by decide +kernel) (b := true) (by decide +kernel) (by omega) (by decide) (zc_le_t (by omega) (by decide) q0) ?_
    refine h_ldr2 (w := 259) (pc2 := 25) (by decide +kernel) (by decide +kernel) rfl (by decide) ?_
    refine h_lens (w := 288) (pc2 := 26) (by decide +kernel) (by decide +kernel) hl ?_
    refine h_con (w := 196865) (pc2 := 27) (by decide +kernel) (v := 3) (by decide +kernel) ?_
    refine h_div (w := 266) (pc2 := 28) (by decide +kernel) (by decide +kernel) ⟨hl, by decide, by decide⟩ (c := (sc.length / 3)) rfl ?_
    refine h_sti (w := 196868) (pc2 := 29) (by decide +kernel) (n := 21) (by decide +kernel) rfl (by omega) (ls2 := [8589934595, bR 0 0, 1, (sc.length / 3), 1099511627776, 1099511627776, 1099511627776, 1099511627776, 1099511627776, 1099511627776, 1099511627776, 1099511627776, 1099511627776, 1099511627776, 1099511627776, 1099511627776, 1099511627776, 1099511627776, 1099511627776, 1099511627776, 1099511627776]) rfl ?_
    refine h_con (w := 257) (pc2 := 30) (by decide +kernel) (v := 0) (by decide +kernel) ?_
    refine h_sti (w := 281474976973316) (pc2 := 32) (by decide +kernel) (n := 21) (by decide +kernel) rfl (by decide) (ls2 := [8589934595, bR 0 0, 1, (sc.length / 3), 0, 1099511627776, 1099511627776, 1099511627776, 1099511627776, 1099511627776, 1099511627776, 1099511627776, 1099511627776, 1099511627776, 1099511627776, 1099511627776, 1099511627776, 1099511627776, 1099511627776, 1099511627776, 1099511627776]) rfl ?_
    exact m65_loop hs q0 g _ 0 _ _ _ _ _ _ _ _ _ _ _ _ _ _ _ _ a 0 m (Nat.zero_add _) hW hI (by decide)
  · skip
    refine h_icmp (w := 1407374885126930) (pc2 := 19) (by decide +kernel) (b := false) (by decide +kernel) (by omega) (by decide) (zc_le_f (by omega) (by decide) (by omega)) ?_
    refine h_con (w := 281474979660289) (pc2 := 21) (by decide +kernel) (v := 45) (by decide +kernel) ?_
    refine h_goto (w := 1835795) (pc2 := 28) (by decide +kernel) (by decide +kernel) ?_
    refine h_sti (w := 196868) (pc2 := 29) (by decide +kernel) (n := 21) (by decide +kernel) rfl (by decide) (ls2 := [8589934595, bR 0 0, 1, 45, 1099511627776, 1099511627776, 1099511627776, 1099511627776, 1099511627776, 1099511627776, 1099511627776, 1099511627776, 1099511627776, 1099511627776, 1099511627776, 1099511627776, 1099511627776, 1099511627776, 1099511627776, 1099511627776, 1099511627776]) rfl ?_
    refine h_con (w := 257) (pc2 := 30) (by decide +kernel) (v := 0) (by decide +kernel) ?_
    refine h_sti (w := 281474976973316) (pc2 := 32) (by decide +kernel) (n := 21) (by decide +kernel) rfl (by decide) (ls2 := [8589934595, bR 0 0, 1, 45, 0, 1099511627776, 1099511627776, 1099511627776, 1099511627776, 1099511627776, 1099511627776, 1099511627776, 1099511627776, 1099511627776, 1099511627776, 1099511627776, 1099511627776, 1099511627776, 1099511627776, 1099511627776, 1099511627776]) rfl ?_
    exact m65_loop hs (Nat.le_refl 45) g 45 0 _ _ _ _ _ _ _ _ _ _ _ _ _ _ _ _ a 0 m (by decide) hW hI (by decide)
end BG
