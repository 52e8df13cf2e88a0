/-! ===== a load is taken, an arm departs, a look is planned: what is kept ===== -/
section VT
variable {a c e : Nat → Nat} {k q : Nat}
theorem vC_tl (h : vC a) (hk : k < a 1) (h2 : a (100 + 8 * k + 2) = 0) (eq : q = a (100 + 8 * k + 1)) (hq : q < 12) (h0 : a (300 + 30 * q + 0) ≠ 0) : vC (mTl a k q) ∧ (∀ y, y < 100 → mTl a k q y = a y) ∧ aS a (mTl a k q) k q ∧ mTl a k q (100 + 8 * k + 2) = 1 ∧ (∀ i, i < a 1 → mTl a k q (100 + 8 * i + 1) = a (100 + 8 * i + 1)) ∧ ∀ r, r < 12 → mTl a k q (300 + 30 * r + 0) ≤ a (300 + 30 * r + 0) := by
  obtain ⟨⟨h16, hT⟩, hA, hL, hD⟩ := h
  obtain ⟨⟨a0, a1, a4⟩, ⟨a2, a3⟩, ai⟩ := hA k hk
  obtain ⟨⟨l0, l2⟩, lw⟩ := hL q hq
  have hk17 : k < 17 := by omega
  have en : ∀ y, y ≠ 100 + 8 * k + 3 → y ≠ 100 + 8 * k + 2 → y ≠ 300 + 30 * q + 0 → ¬ (303 + 30 * q ≤ y ∧ y < 303 + 30 * q + 9) → mTl a k q y = a y := fun y h1 h2 h3 h4 => mTl_n hk17 h0 l0 h1 h2 h3 h4
  have el := mTl_l (a := a) hk17 h0 l0
  have ew : mTl1 a k (300 + 30 * q + 0) = a (300 + 30 * q + 0) := by rw [mTl1_d, bU_n (by omega)]
  have ev := mTk1_v (a := mTl1 a k) (q := q) (by rw [ew]; exact h0) (by rw [ew]; exact l0)
  rw [ew] at ev
  have e2 : mTl a k q (100 + 8 * k + 2) = 1 := by
    rw [mTl_d, bU_n (by omega), mTk_d, ev, bSh_n (by omega), mTk1_d, bU_n (by omega), mTl1_d, bU_s]
  have e3 : mTl a k q (100 + 8 * k + 3) = a (303 + 30 * q + 0) := by
    rw [mTl_d, bU_s, mTl1_d, bU_n (by omega)]
  have es : ∀ j, j < a (300 + 30 * q + 0) - 1 → mTl a k q (303 + 30 * q + j) = a (303 + 30 * q + (j + 1)) := fun j hj => by
    rw [mTl_d, bU_n (by omega), mTk_d, ev]
    unfold bSh
    rw [if_pos (by omega), mTk1_d, bU_n (by omega), mTl1_d, bU_n (by omega)]
    exact congrArg a (by omega)
  have hw0 := lw 0 (by omega)
  have hS : aS a (mTl a k q) k q := ⟨fun i hi j hj h17 => en _ (by omega) (by omega) (by omega) (by omega), fun r hr hrq j hj => en _ (by omega) (by omega) (by omega) (by omega)⟩
  have h1 := en 1 (by omega) (by omega) (by omega) (by omega)
  have g2 := en 2 (by omega) (by omega) (by omega) (by omega)
  refine ⟨⟨⟨by omega, vT_st hT (fun y h5 h6 => en y (by omega) (by omega) (by omega) (by omega))⟩, vA_st hA (by omega) h1 hS (fun _ => ?_), vL_st hL (by omega) h1 hS hk (fun r hr hrq => ?_) (fun _ => ?_), vD_st hD (by omega) h1 hS hk hq ?_ ?_⟩, fun y hy => en y (by omega) (by omega) (by omega) (by omega), hS, e2, fun i hi => en _ (by omega) (by omega) (by omega) (by omega), fun r hr => ?_⟩
  · rw [en (100 + 8 * k + 0) (by omega) (by omega) (by omega) (by omega), en (100 + 8 * k + 1) (by omega) (by omega) (by omega) (by omega), en (100 + 8 * k + 4) (by omega) (by omega) (by omega) (by omega), e2, e3]
    exact ⟨⟨a0, a1, a4⟩, ⟨by decide, hw0.2⟩, ⟨fun h => absurd h (by decide), fun h => by omega⟩⟩
  · rw [fAt_0 (by omega), fAt_0 (by omega)]
  · rw [el, en (300 + 30 * q + 2) (by omega) (by omega) (by omega) (by omega), fAt_0 (by omega), fAt_0 (by omega)]
    refine ⟨⟨by omega, rfl⟩, fun j hj => ?_⟩
    rw [es j hj]
    exact lw (j + 1) (by omega)
  · rw [en _ (by omega) (by omega) (by omega) (by omega), g2]
  · rw [en _ (by omega) (by omega) (by omega) (by omega), g2]
  · by_cases z : r = q
    · rw [z, el]
      omega
    · rw [en _ (by omega) (by omega) (by omega) (by omega)]
      exact Nat.le_refl _
/-- an arm departs -/
theorem vC_dp (h : vC a) (hk : k < a 1) (h2 : a (100 + 8 * k + 2) = 0) (hq : q < 12) (h14 : a 14 < 4294967295) : vC (mDp a k q) ∧ ((∀ y, y < 100 → y ≠ 14 → mDp a k q y = a y) ∧ mDp a k q 14 = a 14 + 1) ∧ aS a (mDp a k q) k q ∧ mDp a k q (100 + 8 * k + 2) = 2 ∧ ∀ r, r < 12 → mDp a k q (300 + 30 * r + 0) = a (300 + 30 * r + 0) ∧ a (300 + 30 * r + 2) ≤ mDp a k q (300 + 30 * r + 2) := by
  obtain ⟨⟨h16, hT⟩, hA, hL, hD⟩ := h
  obtain ⟨⟨a0, a1, a4⟩, ⟨a2, a3⟩, ai⟩ := hA k hk
  obtain ⟨⟨l0, l2⟩, lw⟩ := hL q hq
  have hk17 : k < 17 := by omega
  have hsm : a (300 + 30 * q + 2) ≤ 17 := by
    rw [l2]
    exact Nat.le_trans (sm_le (fun i => i1_le) _) (by omega)
  have en : ∀ y, y ≠ 14 → y ≠ 100 + 8 * k + 1 → y ≠ 100 + 8 * k + 2 → y ≠ 100 + 8 * k + 3 → y ≠ 100 + 8 * k + 6 → y ≠ 100 + 8 * k + 7 → y ≠ 300 + 30 * q + 2 → mDp a k q y = a y := fun y h1 h2 h3 h4 h5 h6 h7 => mDp_n hk17 hq h1 h2 h3 h4 h5 h6 h7
  have e1 := mDp_1 (a := a) (k := k) (to := q) hk17
  have e2 := mDp_2 (a := a) (k := k) (to := q) hk17
  have e3 := mDp_3 (a := a) (k := k) (to := q) hk17
  have e14 := mDp_14 (a := a) (k := k) (to := q) hk17
  rw [inc1_v h14] at e14
  have ec := mDp_c (a := a) (k := k) (to := q) hk17
  rw [inc1_v (by omega)] at ec
  have hS : aS a (mDp a k q) k q := ⟨fun i hi j hj h17 => en _ (by omega) (by omega) (by omega) (by omega) (by omega) (by omega) (by omega), fun r hr hrq j hj => en _ (by omega) (by omega) (by omega) (by omega) (by omega) (by omega) (by omega)⟩
  have h1 := en 1 (by omega) (by omega) (by omega) (by omega) (by omega) (by omega) (by omega)
  have g2 := en 2 (by omega) (by omega) (by omega) (by omega) (by omega) (by omega) (by omega)
  refine ⟨⟨⟨by omega, vT_st hT (fun y h5 h6 => en y (by omega) (by omega) (by omega) (by omega) (by omega) (by omega) (by omega))⟩, vA_st hA (by omega) h1 hS (fun _ => ?_), vL_st hL (by omega) h1 hS hk (fun r hr hrq => ?_) (fun _ => ?_), vD_st hD (by omega) h1 hS hk hq ?_ ?_⟩, ⟨fun y hy h => en y h (by omega) (by omega) (by omega) (by omega) (by omega) (by omega), e14⟩, hS, e2, fun r hr => ⟨en _ (by omega) (by omega) (by omega) (by omega) (by omega) (by omega) (by omega), ?_⟩⟩
  · rw [en (100 + 8 * k + 0) (by omega) (by omega) (by omega) (by omega) (by omega) (by omega) (by omega), en (100 + 8 * k + 4) (by omega) (by omega) (by omega) (by omega) (by omega) (by omega) (by omega), e1, e2]
    obtain ⟨t5, t6, -⟩ := hT
    exact ⟨⟨a0, hq, a4⟩, ⟨by decide, by omega⟩, ⟨fun h => absurd h (by decide), fun h => by omega⟩⟩
  · rw [fAt_0q (by omega), fAt_0 (by omega)]
  · rw [en (300 + 30 * q + 0) (by omega) (by omega) (by omega) (by omega) (by omega) (by omega) (by omega), ec, fAt_0 (a := a) (by omega), fAt_1 e1 e2]
    refine ⟨⟨l0, rfl⟩, fun j hj => ?_⟩
    rw [en _ (by omega) (by omega) (by omega) (by omega) (by omega) (by omega) (by omega)]
    exact lw j hj
  · rw [en _ (by omega) (by omega) (by omega) (by omega) (by omega) (by omega) (by omega), g2]
  · rw [en _ (by omega) (by omega) (by omega) (by omega) (by omega) (by omega) (by omega), g2]
  · by_cases z : r = q
    · rw [z, ec]
      omega
    · rw [en _ (by omega) (by omega) (by omega) (by omega) (by omega) (by omega) (by omega)]
      exact Nat.le_refl _
/-- fewer arms idle, more arms come: nothing else -/
def mo (a c : Nat → Nat) : Prop := c 1 = a 1 ∧ (∀ i, i < a 1 → c (100 + 8 * i + 2) = 0 → a (100 + 8 * i + 2) = 0 ∧ c (100 + 8 * i + 1) = a (100 + 8 * i + 1) ∧ c (100 + 8 * i + 4) = a (100 + 8 * i + 4)) ∧ ∀ r, r < 12 → c (300 + 30 * r + 0) = a (300 + 30 * r + 0) ∧ a (300 + 30 * r + 2) ≤ c (300 + 30 * r + 2)
theorem mo_rf : mo a a := ⟨rfl, fun _ _ h => ⟨h, rfl, rfl⟩, fun _ _ => ⟨rfl, Nat.le_refl _⟩⟩
theorem mo_tr (h : mo a c) (g : mo c e) : mo a e := by
  obtain ⟨h1, h2, h3⟩ := h
  obtain ⟨g1, g2, g3⟩ := g
  refine ⟨g1.trans h1, fun i hi z => ?_, fun r hr => ⟨(g3 r hr).1.trans (h3 r hr).1, Nat.le_trans (h3 r hr).2 (g3 r hr).2⟩⟩
  obtain ⟨z1, z2, z3⟩ := g2 i (by omega) z
  obtain ⟨y1, y2, y3⟩ := h2 i hi z1
  exact ⟨y1, z2.trans y2, z3.trans y3⟩
theorem mo_dp (h : vC a) (hk : k < a 1) (h2 : a (100 + 8 * k + 2) = 0) (hq : q < 12) (h14 : a 14 < 4294967295) : mo a (mDp a k q) := by
  obtain ⟨-, ⟨n1, -⟩, n2, n3, n4⟩ := vC_dp h hk h2 hq h14
  have h16 := h.1.1
  refine ⟨n1 1 (by decide) (by decide), fun i hi z => ?_, n4⟩
  by_cases e : i = k
  · rw [e, n3] at z
    exact absurd z (by decide)
  · have e2 := n2.1 i e 2 (by decide) (by omega)
    exact ⟨e2 ▸ z, n2.1 i e 1 (by decide) (by omega), n2.1 i e 4 (by decide) (by omega)⟩
/-- an idle arm stands where nothing waits -/
def aI (a : Nat → Nat) : Prop := ∀ i, i < a 1 → a (100 + 8 * i + 2) = 0 → a (300 + 30 * a (100 + 8 * i + 1) + 0) = 0
theorem aI_mo (h : mo a c) (hA : vA a) (hI : aI a) : aI c := by
  intro i hi z
  rw [h.1] at hi
  obtain ⟨z1, z2, z3⟩ := h.2.1 i hi z
  rw [z2, (h.2.2 _ (hA i hi).1.2.1).1]
  exact hI i hi z1
/-- no quay of those wants two arms while another one of its basin has one to lend -/
def aK (fi en : Nat) (a : Nat → Nat) : Prop := ∀ q, fi ≤ q → q < en → a (300 + 30 * q + 2) + 1 < a (300 + 30 * q + 0) → ∀ i, i < a 1 → ¬ (a (100 + 8 * i + 2) = 0 ∧ a (100 + 8 * i + 4) = 0 ∧ a (100 + 8 * i + 1) / 4 = q / 4 ∧ a (100 + 8 * i + 1) ≠ q)
theorem aK_mo {fi en : Nat} (he : en ≤ 12) (h : mo a c) (hK : aK fi en a) : aK fi en c := by
  intro q h1 h2 hw i hi hf
  rw [h.1] at hi
  obtain ⟨f1, f2, f3, f4⟩ := hf
  obtain ⟨z1, z2, z3⟩ := h.2.1 i hi f1
  obtain ⟨y1, y2⟩ := h.2.2 q (by omega)
  exact hK q h1 h2 (by omega) i hi ⟨z1, z3 ▸ f2, z2 ▸ f3, z2 ▸ f4⟩
/-- numbers outside arms and lines, and the idle ticks, are free -/
theorem vC_fr (h : vC a) (hT : vT c) (h1 : c 1 = a 1) (h2 : c 2 = a 2) (hA : ∀ i, i < a 1 → ∀ j, j < 7 → c (100 + 8 * i + j) = a (100 + 8 * i + j)) (hL : ∀ y, 300 ≤ y → c y = a y) : vC c := by
  obtain ⟨⟨h16, -⟩, gA, gL, gD⟩ := h
  refine ⟨⟨by omega, hT⟩, fun i hi => ?_, fun r hr => ?_, ?_⟩
  · rw [h1] at hi
    rw [hA i hi 0 (by decide), hA i hi 1 (by decide), hA i hi 2 (by decide), hA i hi 3 (by decide), hA i hi 4 (by decide)]
    exact gA i hi
  · obtain ⟨⟨l0, l2⟩, lw⟩ := gL r hr
    rw [hL _ (by omega), hL _ (by omega), h1, show sm (a 1) (fAt c r 2) = sm (a 1) (fAt a r 2) from sm_eq _ (fun i hi => fAt_e (hA i hi 1 (by decide)) (hA i hi 2 (by decide)))]
    refine ⟨⟨l0, l2⟩, fun j hj => ?_⟩
    rw [hL _ (by omega)]
    exact lw j hj
  · unfold vD
    rw [h1, h2, show sm 12 (fDn c) = sm 12 (fDn a) from sm_eq _ (fun i hi => hL _ (by omega)), show sm (a 1) (fLd c) = sm (a 1) (fLd a) from sm_eq _ (fun i hi => hA i hi 5 (by decide))]
    exact gD
theorem mo_fr (h1 : c 1 = a 1) (hA : ∀ i, i < a 1 → ∀ j, j < 7 → c (100 + 8 * i + j) = a (100 + 8 * i + j)) (hL : ∀ y, 300 ≤ y → c y = a y) : mo a c := by
  refine ⟨h1, fun i hi z => ?_, fun r hr => ⟨hL _ (by omega), Nat.le_of_eq (hL _ (by omega)).symm⟩⟩
  rw [hA i hi 2 (by decide)] at z
  exact ⟨z, hA i hi 1 (by decide), hA i hi 4 (by decide)⟩
/-- a look is planned -/
theorem mDb_v {lv : Nat} (h : 1 ≤ a (10 + lv) ∧ a (10 + lv) ≤ 64) : a (10 + lv) ≤ mDb a lv ∧ mDb a lv ≤ 64 := by
  have hm : mul1 (a (10 + lv)) 2 = a (10 + lv) * 2 := Nat.mod_eq_of_lt (by omega)
  unfold mDb
  rw [hm]
  obtain ⟨x, ex⟩ : ∃ x, x = a (10 + lv) := ⟨_, rfl⟩
  rw [← ex] at h ⊢
  unfold min1
  cases q : zlt 64 (x * 2)
  · rw [zlt_iff (by decide) (by omega)] at q
    have := of_decide_eq_false q
    rw [cond_false]
    omega
  · rw [zlt_iff (by decide) (by omega)] at q
    have := of_decide_eq_true q
    rw [cond_true]
    omega
theorem mPl_v {lv fd : Nat} (hl : lv < 2) (ht : vT a) (hd : a (5 + (2 + lv)) ≤ a (10 + lv) ∧ a (10 + lv) ≤ 64) (h0 : a 0 < 1073741824) : (∀ y, y ≠ 10 + lv → y ≠ 12 + lv → mPl a lv fd y = a y) ∧ (a (5 + (2 + lv)) ≤ mPl a lv fd (10 + lv) ∧ mPl a lv fd (10 + lv) ≤ 64) ∧ a 0 < mPl a lv fd (12 + lv) ∧ mPl a lv fd (12 + lv) ≤ a 0 + 64 := by
  have hs : 1 ≤ a (5 + (2 + lv)) ∧ a (5 + (2 + lv)) ≤ 64 := by
    obtain ⟨-, -, t7, t8⟩ := ht
    rcases (show lv = 0 ∨ lv = 1 by omega) with rfl | rfl
    · exact t7
    · exact t8
  have hb := mDb_v (a := a) (lv := lv) (by omega)
  obtain ⟨d, ed⟩ : ∃ d, d = (bif Nat.beq fd 0 then mDb a lv else a (5 + (2 + lv))) := ⟨_, rfl⟩
  have hd2 : a (5 + (2 + lv)) ≤ d ∧ d ≤ 64 := by
    rw [ed]
    cases Nat.beq fd 0
    · rw [cond_false]
      omega
    · rw [cond_true]
      omega
  have e : mPl a lv fd = mPl2 a lv d := by
    unfold mPl
    rw [← ed]
  have e10 : mPl1 a lv d (10 + lv) = d := by rw [mPl1_d, bU_s]
  have e0 : mPl1 a lv d 0 = a 0 := by rw [mPl1_d, bU_n (by omega)]
  have ea : add1 (a 0) d = a 0 + d := Nat.mod_eq_of_lt (by omega)
  rw [e, mPl2_d, e10, e0, ea]
  refine ⟨fun y h1 h2 => by rw [bU_n h2, mPl1_d, bU_n h1], ?_, ?_⟩
  · rw [bU_n (by omega), e10]
    exact hd2
  · rw [bU_s]
    omega
theorem mIn_1 {x y : Nat} : mIn x y = 1 ↔ x / 4 = y / 4 := by
  unfold mIn
  by_cases h : x / 4 = y / 4
  · rw [nb_eq.mpr h]
    exact ⟨fun _ => h, fun _ => rfl⟩
  · rw [nb_ne.mpr h]
    exact ⟨fun z => absurd z (by decide), fun z => absurd z h⟩
/-- the neediest quay: what is known of it -/
theorem mNd_ok : ∀ (d q f mo : Nat), (mNd a d q f mo = f ∧ ∀ r, q ≤ r → r < q + d → zlt mo (mOpen a r) = false) ∨ (q ≤ mNd a d q f mo ∧ mNd a d q f mo < q + d ∧ zlt mo (mOpen a (mNd a d q f mo)) = true) := by
  intro d
  induction d with
  | zero => exact fun q f mo => Or.inl ⟨rfl, fun r h1 h2 => by omega⟩
  | succ d IH =>
    intro q f mo
    have e : mNd a (d + 1) q f mo = bif zlt mo (mOpen a q) then mNd a d (q + 1) q (mOpen a q) else mNd a d (q + 1) f mo := rfl
    cases c : zlt mo (mOpen a q)
    · rw [c, cond_false] at e
      rw [e]
      rcases IH (q + 1) f mo with ⟨h1, h2⟩ | ⟨h1, h2, h3⟩
      · refine Or.inl ⟨h1, fun r h3 h4 => ?_⟩
        by_cases z : r = q
        · rw [z]
          exact c
        · exact h2 r (by omega) (by omega)
      · exact Or.inr ⟨by omega, by omega, h3⟩
    · rw [c, cond_true] at e
      rw [e]
      rcases IH (q + 1) q (mOpen a q) with ⟨h1, h2⟩ | ⟨h1, h2, h3⟩
      · exact Or.inr ⟨by omega, by omega, by rw [h1]; exact c⟩
      · refine Or.inr ⟨by omega, by omega, ?_⟩
        have c1 := of_decide_eq_true c
        have c2 := of_decide_eq_true h3
        exact decide_eq_true (Nat.lt_trans c1 c2)
theorem mOpen_v (hq : q < 12) (h : vC a) : zlt 1 (mOpen a q) = true ↔ a (300 + 30 * q + 2) + 1 < a (300 + 30 * q + 0) := by
  obtain ⟨⟨h16, -⟩, -, hL, -⟩ := h
  obtain ⟨⟨l0, l2⟩, -⟩ := hL q hq
  have hsm : a (300 + 30 * q + 2) ≤ 17 := by
    rw [l2]
    exact Nat.le_trans (sm_le (fun i => i1_le) _) (by omega)
  obtain ⟨x, ex⟩ : ∃ x, x = a (300 + 30 * q + 0) := ⟨_, rfl⟩
  obtain ⟨y, ey⟩ : ∃ y, y = a (300 + 30 * q + 2) := ⟨_, rfl⟩
  have eo : mOpen a q = (x + 4294967296 - y) % 4294967296 := by rw [ex, ey]; rfl
  rw [eo, ← ex, ← ey]
  rw [← ex] at l0
  rw [← ey] at hsm
  unfold zlt zs
  rw [decide_eq_true_iff, if_pos (by decide)]
  by_cases z : y ≤ x
  · rw [show (x + 4294967296 - y) % 4294967296 = x - y by omega, if_pos (by omega)]
    omega
  · rw [show (x + 4294967296 - y) % 4294967296 = x + 4294967296 - y by omega, if_neg (by omega)]
    omega
end VT
