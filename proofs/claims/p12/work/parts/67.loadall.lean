theorem tEnd {BF Bc v : Nat} {m0 m : zM} {ρ0 : Nat → Nat} {sc : List Nat} (hB : Bc ≤ BF) (g2 : gM Bc m) (g3 : gW qr233.2.2.2.1 m0 m) (hv : v < 4294967296) : gQ sc qr233.2.2.1 qr233.2.2.2.1 BF m0 ρ0 v m :=
  ⟨⟨gM_mono hB g2, g3⟩, ((0, 0, 4294967295, 1, 0, 0), []), List.mem_singleton.mpr rfl, ⟨gA_top hv, rfl⟩, fun f hf => by cases hf⟩
set_option maxRecDepth 100000 in
theorem tSubR : eSubW qr233.2.2.2.1 qr94.2.2.2.1 = true := by decide +kernel
set_option maxRecDepth 100000 in
theorem tSubA : eSubW qr233.2.2.2.1 qr183.2.2.2.1 = true := by decide +kernel
theorem tRows : (qr94.2.1 = ([], 87, 0, [(1, 56, 0, 0, 57, 0), eAny], [], [], 16000) ∧ qr94.2.2.2.2 = 0 ∧ qr94.1 = 87) ∧ (qr183.2.1 = ([], 113, 0, [(1, 50, 0, 0, 51, 0), eAny, eAny], [], [], 16000) ∧ qr183.2.2.2.2 = 0 ∧ qr183.1 = 113) := ⟨⟨rfl, rfl, rfl⟩, rfl, rfl, rfl⟩
theorem tEnd1 (sc : List Nat) {ρ : Nat → Nat} {Bc kM x BF : Nat} {m0 m : zM} {ρ0 : Nat → Nat} (hkM : kM = eSg.getD 56 0 - 1) (hr : gRig sc ρ) (hBF : BF ≤ 1073741824) (hB : Bc ≤ BF) (g2 : gM Bc m) (g3 : gW qr233.2.2.2.1 m0 m) : gFin sc (gQ sc qr233.2.2.1 qr233.2.2.2.1 BF m0 ρ0) [] 115 17 [4294967297 + kM, 0, x] [] m := by
  have h0 := t_at
  simp only [Bool.and_eq_true, decide_eq_true_eq] at h0
  obtain ⟨⟨⟨s1, s2, s3⟩, -⟩, -⟩ := h0
  obtain ⟨⟨w1, w2, w3⟩, w4, w5, w6⟩ := tRows
  obtain ⟨hl, hne1, hne2⟩ := t_len
  obtain ⟨q1, q1'⟩ := eSg_rg s1
  obtain ⟨q2, q2'⟩ := eSg_rg s2
  obtain ⟨q3, q3'⟩ := eSg_rg s3
  obtain ⟨fM, fn, ft, ⟨c1, c2, c3⟩, ⟨e0, e10, e11⟩, ty, t0, t1, t2⟩ := t_mem g2
  have hM : zAt m (4294967297 + kM) = some (6, 12, fM) := by rw [zAt_k (by omega), hkM]; exact c1
  have hN : zAt m (4294967297 + (eSg.getD 50 0 - 1)) = some (7, 471, fn) := by rw [zAt_k (by omega)]; exact c2
  have hT : zAt m (4294967297 + (eSg.getD 55 0 - 1)) = some (7, 60, ft) := by rw [zAt_k (by omega)]; exact c3
  have hv : ∀ q, q < 12 → fn (231 + 20 * q) ≤ 9 := fun q hq => by
    have := ty (231 + 20 * q) (by omega)
    rw [ty_now (by omega) (by omega), if_pos (by omega)] at this
    have h := gA_le this
    omega
  refine ql_loop hM hN hT e0 e10 (T := fM 11) rfl e11 hv t0 t2 ?_ (fun hp => ?_) 12 0 rfl (fun p hp => absurd hp (Nat.not_lt_zero p))
  · exact tEnd hB g2 g3 (by decide)
  have bM := zAt_lt hM
  -- the state is recorded
  refine h_ldr (w := 259) (pc2 := 41) (by decide +kernel) (by decide +kernel) rfl bM ?_
  have gm1 : gE Bc ρ 16000 (1, 56, 0, 0, 57, 0) (4294967297 + kM) := ⟨Or.inr (Or.inl ⟨rfl, _, q1, by rw [hkM], q1'⟩), Or.inr (Or.inr ⟨by omega, by rw [hkM]; exact (hr.1 56 s1).symm⟩), by decide⟩
  have gan : ∀ c, gE Bc ρ 16000 eAny c := fun c => ⟨Or.inr (Or.inr (Or.inr (Or.inl rfl))), Or.inl rfl, by decide⟩
  have gs1 : gS sc Bc ρ qr94.2.1 [] 87 0 [4294967297 + kM, 1099511627776] [] m := by
    rw [w1]
    exact ⟨⟨rfl, rfl⟩, ⟨trivial, ⟨gm1, gan _, trivial⟩, trivial⟩, (fun f hf => (List.not_mem_nil hf).elim), (by show 10000 ≤ 16000; decide), hr⟩
  have r1 := qr94t sc ρ [4294967297 + kM, 1099511627776] m Bc (by rw [w3]; exact gs1) g2 (by rw [w2]; omega)
  rw [w2, w3] at r1
  obtain ⟨n1, v1, m1, z1, ⟨gm, gw⟩, -⟩ := r1
  have gm : gM Bc m1 := gm
  refine h_call (w := 53204302171859374558348069) (a := 87) (by decide +kernel) (by decide +kernel) (zCOk_v (n := 0) (by decide +kernel) rfl hM (by decide +kernel) ⟨Nat.le_of_ble_eq_true rfl, Nat.le_of_ble_eq_true rfl⟩ (fun c hc => by
      have hc : c ∈ [4294967297 + kM] := hc
      simp only [List.mem_cons, List.not_mem_nil, or_false] at hc
      subst hc
      omega)) (st2 := []) rfl (l2 := [4294967297 + kM, 1099511627776]) (by show (List.take 1 _).reverse ++ List.replicate (zMaxL 87 - 1) _ = _; rw [show zMaxL 87 = 2 by decide +kernel]; rfl) ⟨n1, v1, m1, z1, ?_⟩
  show gFin sc _ [] 115 44 [4294967297 + kM, 12, x] (if zRet 87 = 0 then [] else [v1]) m1
  rw [if_pos (show zRet 87 = 0 by decide +kernel)]
  -- what it leaves as it was
  obtain ⟨fM1, d1, d1'⟩ := gw _ _ _ _ c1
  obtain ⟨fn1, d2, d2'⟩ := gw _ _ _ _ c2
  obtain ⟨ft1, d3, d3'⟩ := gw _ _ _ _ c3
  have hW94 : qr94.2.2.2.1 = [(52, 0, 1883), (56, 3, 3)] := by decide +kernel
  rw [hW94] at d1' d2' d3'
  have hfn : fn1 = fn := funext fun j => d2' j (fun q hq h1 _ _ => by
    rw [q2'] at h1
    simp only [List.mem_cons, List.not_mem_nil, or_false] at hq
    rcases hq with rfl | rfl
    · exact absurd h1 (by decide)
    · exact absurd h1 (by decide))
  have hft : ft1 = ft := funext fun j => d3' j (fun q hq h1 _ _ => by
    rw [q3'] at h1
    simp only [List.mem_cons, List.not_mem_nil, or_false] at hq
    rcases hq with rfl | rfl
    · exact absurd h1 (by decide)
    · exact absurd h1 (by decide))
  have hfM : ∀ j, j ≠ 3 → fM1 j = fM j := fun j hj => d1' j (fun q hq h1 h2 h3 => by
    rw [q1'] at h1
    simp only [List.mem_cons, List.not_mem_nil, or_false] at hq
    rcases hq with rfl | rfl
    · exact absurd h1 (by decide)
    · exact hj (by have h2 : 3 ≤ j := h2; have h3 : j ≤ 3 := h3; omega))
  subst hfn
  subst hft
  have gW1 : gW qr233.2.2.2.1 m0 m1 := gW_tr g3 (gW_sub tSubR gw)
  have hM2 : ∀ g : Nat → Nat, zAt (m1.set (eSg.getD 50 0 - 1) (7, 471, g)) (4294967297 + kM) = some (6, 12, fM1) := fun g => by
    rw [zAt_k (by omega), List.getElem?_set_ne (by omega), hkM]
    exact d1
  have hN2 : ∀ g : Nat → Nat, zAt (m1.set (eSg.getD 50 0 - 1) (7, 471, g)) (4294967297 + (eSg.getD 50 0 - 1)) = some (7, 471, g) := fun g => by
    rw [zAt_k (by omega), List.getElem?_set_self (List.getElem?_eq_some_iff.mp d2).1]
  have hT2 : ∀ g : Nat → Nat, zAt (m1.set (eSg.getD 50 0 - 1) (7, 471, g)) (4294967297 + (eSg.getD 55 0 - 1)) = some (7, 60, ft1) := fun g => by
    rw [zAt_k (by omega), List.getElem?_set_ne (by omega)]
    exact d3
  have hS2 : ∀ g g2 : Nat → Nat, (m1.set (eSg.getD 50 0 - 1) (7, 471, g)).set (4294967297 + (eSg.getD 50 0 - 1) - 4294967297) (7, 471, g2) = m1.set (eSg.getD 50 0 - 1) (7, 471, g2) := fun g g2 => by
    rw [Nat.add_sub_cancel_left, List.set_set]
  have hm1 : m1.set (eSg.getD 50 0 - 1) (7, 471, fn1) = m1 := t_cell d2
  refine h_con (w := 257) (pc2 := 45) (by decide +kernel) (v := 0) (by decide +kernel) ?_
  refine h_sti (w := 65796) (pc2 := 46) (by decide +kernel) (n := 3) (by decide +kernel) rfl (by omega) (ls2 := [4294967297 + kM, 0, x]) rfl ?_
  rw [← hm1]
  refine out_loop (MN := fun g => m1.set (eSg.getD 50 0 - 1) (7, 471, g)) (fn := fn1) (Bc := Bc) hM2 hN2 hT2 hS2 ((hfM 0 (by decide)).trans e0) ((hfM 10 (by decide)).trans e10) (T := fM 11) (hfM 11 (by decide)) e11 t0 t1 t2 (fun g y hG => ?_) (fM 11) 0 x fn1 (Nat.zero_add _) ⟨ty, fun j _ => rfl⟩ hp
  -- the end: all that wait are counted
  have bM2 := zAt_lt (hM2 g)
  have bN2 := zAt_lt (hN2 g)
  have gM2 : gM Bc (m1.set (eSg.getD 50 0 - 1) (7, 471, g)) := tM_set gm hG.1
  have gW2 : gW qr233.2.2.2.1 m0 (m1.set (eSg.getD 50 0 - 1) (7, 471, g)) := gW_tr gW1 (tW_set (by decide +kernel) d2 hG.2)
  have hMg := hM2 g
  show gFin sc _ [] 115 104 [4294967297 + kM, fM 11, y] [] (m1.set (eSg.getD 50 0 - 1) (7, 471, g))
  generalize m1.set (eSg.getD 50 0 - 1) (7, 471, g) = m2 at hMg gM2 gW2 ⊢
  refine h_ldr (w := 259) (pc2 := 105) (by decide +kernel) (by decide +kernel) rfl bM2 ?_
  refine h_get (w := 8462480738991254120891158) (pc2 := 108) (by decide +kernel) (by decide +kernel) hMg (v := 4294967297 + (eSg.getD 50 0 - 1)) ((hfM 0 (by decide)).trans e0) ?_
  have gn2 : gE Bc ρ 16000 (1, 50, 0, 0, 51, 0) (4294967297 + (eSg.getD 50 0 - 1)) := ⟨Or.inr (Or.inl ⟨rfl, _, q2, rfl, q2'⟩), Or.inr (Or.inr ⟨by omega, (hr.1 50 s2).symm⟩), by decide⟩
  have gs2 : gS sc Bc ρ qr183.2.1 [] 113 0 [4294967297 + (eSg.getD 50 0 - 1), 1099511627776, 1099511627776] [] m2 := by
    rw [w4]
    exact ⟨⟨rfl, rfl⟩, ⟨trivial, ⟨gn2, gan _, gan _, trivial⟩, trivial⟩, (fun f hf => (List.not_mem_nil hf).elim), (by show 10000 ≤ 16000; decide), hr⟩
  have r2 := qr183t sc ρ [4294967297 + (eSg.getD 50 0 - 1), 1099511627776, 1099511627776] m2 Bc (by rw [w6]; exact gs2) gM2 (by rw [w5]; omega)
  rw [w5, w6] at r2
  obtain ⟨n2, v2, m3, z2, ⟨gm3, gw3⟩, q, hq, ⟨hv3, -⟩, -⟩ := r2
  have gm3 : gM Bc m3 := gm3
  have hE : qr183.2.2.1 = [((0, 0, 4294967295, 1, 0, 0), [])] := rfl
  rw [hE] at hq
  rcases List.mem_singleton.mp hq with rfl
  have hv4 := (gA_i0 hv3).1
  refine h_call (w := 152337805800249305907397414) (a := 113) (by decide +kernel) (by decide +kernel) (zCOk_s (n := 1) (by decide +kernel) (by decide +kernel) ⟨Nat.le_of_ble_eq_true rfl, Nat.le_of_ble_eq_true rfl⟩ (fun c hc => by
      have hc : c ∈ [4294967297 + (eSg.getD 50 0 - 1)] := hc
      simp only [List.mem_cons, List.not_mem_nil, or_false] at hc
      subst hc
      omega)) (st2 := []) rfl (l2 := [4294967297 + (eSg.getD 50 0 - 1), 1099511627776, 1099511627776]) (by show (List.take 1 _).reverse ++ List.replicate (zMaxL 113 - 1) _ = _; rw [show zMaxL 113 = 3 by decide +kernel]; rfl) ⟨n2, v2, m3, z2, ?_⟩
  show gFin sc _ [] 115 111 [4294967297 + kM, fM 11, y] (if zRet 113 = 0 then [] else [v2]) m3
  rw [if_neg (show ¬ zRet 113 = 0 by decide +kernel)]
  exact h_ret (w := 301) (by decide +kernel) (by decide +kernel) hv4 (fun h => absurd h (by decide +kernel)) (tEnd hB gm3 (gW_tr gW2 (gW_sub tSubA gw3)) hv4)
theorem tLem (sc : List Nat) (BF : Nat) (m0 : zM) (ρ0 : Nat → Nat) (hBF : BF ≤ 1073741824) : gLem sc (gQ sc qr233.2.2.1 qr233.2.2.2.1 BF m0 ρ0) qr233.2.2.2.1 BF m0 ρ0 tC 0 := by
  intro P hP ρ frs i pc cl cst m Bc g0 g1 g2 g3 _ g5
  rcases List.mem_singleton.mp hP with rfl
  obtain ⟨⟨h1, h2⟩, ⟨h3, h4, h5⟩, h6, h7, h8⟩ := g1
  have h1 : 115 = i := h1
  have h2 : 17 = pc := h2
  subst h1
  subst h2
  rcases frs with _ | ⟨⟨_, _, _, _⟩, _⟩
  rotate_left
  · exact h3.elim
  obtain ⟨c1, t1, rfl, a1, b1⟩ := gL_cons h4
  obtain ⟨c2, t2, rfl, a2, b2⟩ := gL_cons b1
  obtain ⟨c3, t3, rfl, a3, b3⟩ := gL_cons b2
  rcases t3 with _ | ⟨_, _⟩
  rotate_left
  · exact b3.elim
  rcases cst with _ | ⟨_, _⟩
  rotate_left
  · exact h5.elim
  have h0 := t_at
  simp only [Bool.and_eq_true, decide_eq_true_eq] at h0
  have e1 := gA_sing h0.1.1.1 (gA_name a1.1)
  have e2 := gA_le (b := 2147483648) (gA_one a2.1)
  have e3 : c2 = 0 := by omega
  subst e3
  subst e1
  exact tEnd1 sc rfl h8 hBF (by omega) g2 g3
set_option maxRecDepth 100000 in
theorem qr233t (sc : List Nat) : gSum sc qr233 := gSum_ofL (su := qs233) (inl := ([], [])) (sp := []) (L := [(tC, 0)]) (fuel := 100000) (k := 0) eDat_t (qh233 sc) (gLs_cons (by decide +kernel) (fun BF m0 ρ0 hB => tLem sc BF m0 ρ0 hB) (fun BF m0 ρ0 hB q hq => by cases hq)) (by decide +kernel) (Nat.zero_le _)
