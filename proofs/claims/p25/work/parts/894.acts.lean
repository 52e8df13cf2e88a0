/-! ===== acts keep the invariant ===== -/
section VV
variable {a c e : Nat → Nat} {k q : Nat}
def vI (B : Nat) (a : Nat → Nat) : Prop := vC a ∧ vN a ∧ vB B a
/-- an act but a run: what it leaves -/
def vR (a c : Nat → Nat) : Prop := (c 0 = a 0 ∧ c 3 = a 3 ∧ c 4 = a 4) ∧ c 2 = a 2 ∧ c 14 ≤ a 14 + 1
theorem vB_r {B : Nat} (h : vB B a) (r : vR a c) : vB (B + 1) c := by
  obtain ⟨⟨b0, b2⟩, b3, b14⟩ := h
  obtain ⟨⟨r0, r3, r4⟩, r2, r14⟩ := r
  exact ⟨⟨by omega, by omega⟩, by omega, by omega⟩
theorem vN_r (h : vN a) (hy : ∀ y, y < 14 → y ≠ 1 → c y = a y) : vN c := by
  unfold vN
  rw [hy 0 (by decide) (by decide), hy 7 (by decide) (by decide), hy 8 (by decide) (by decide), hy 10 (by decide) (by decide), hy 11 (by decide) (by decide), hy 12 (by decide) (by decide), hy 13 (by decide) (by decide), hy 9 (by decide) (by decide)]
  exact h
theorem ad_ok {B h t : Nat} (hI : vI B a) (hn : a 1 < 16) (hh : h < 12) (ht : t < 2) : vI (B + 1) (mAd a h t) ∧ vR a (mAd a h t) := by
  obtain ⟨⟨⟨h16, hT⟩, hA, hL, hD⟩, hN, hB⟩ := hI
  obtain ⟨n, en⟩ : ∃ n, n = a 1 := ⟨_, rfl⟩
  have eb : ∀ y, y ≠ 1 → mAd a h t y = mBg a n h t y := fun y hy => by rw [mAd_d en, bU_n hy]
  have e1 : mAd a h t 1 = n + 1 := by rw [mAd_d en, bU_s, inc1_v (by omega)]
  have ey : ∀ y, y ≠ 1 → ¬ (100 + 8 * n ≤ y ∧ y < 108 + 8 * n) → mAd a h t y = a y := fun y h1 h2 => (eb y h1).trans (if_neg h2)
  have ez : ∀ j, j < 8 → mAd a h t (100 + 8 * n + j) = if j ≤ 1 then h else if j = 4 then t else 0 := fun j hj => by
    rw [eb _ (by omega)]
    unfold mBg
    rw [if_pos (by omega)]
    by_cases q1 : j ≤ 1
    · rw [if_pos (by omega), if_pos q1]
    · rw [if_neg (by omega), if_neg q1]
      by_cases q2 : j = 4
      · rw [if_pos (by omega), if_pos q2]
      · rw [if_neg (by omega), if_neg q2]
  have w2 : mAd a h t (100 + 8 * n + 2) = 0 := ez 2 (by decide)
  have w0 : mAd a h t (100 + 8 * n + 0) = h := ez 0 (by decide)
  have w1 : mAd a h t (100 + 8 * n + 1) = h := ez 1 (by decide)
  have w3 : mAd a h t (100 + 8 * n + 3) = 0 := ez 3 (by decide)
  have w4 : mAd a h t (100 + 8 * n + 4) = t := ez 4 (by decide)
  have hR : vR a (mAd a h t) := ⟨⟨ey 0 (by decide) (by omega), ey 3 (by decide) (by omega), ey 4 (by decide) (by omega)⟩, ey 2 (by decide) (by omega), Nat.le_trans (Nat.le_of_eq (ey 14 (by decide) (by omega))) (Nat.le_succ _)⟩
  refine ⟨⟨⟨⟨by omega, vT_st hT (fun y h5 h6 => ey y (by omega) (by omega))⟩, fun i hi => ?_, fun r hr => ?_, ?_⟩, vN_r hN (fun y h1 h2 => ey y h2 (by omega)), vB_r hB hR⟩, hR⟩
  · rw [e1] at hi
    by_cases z : i = n
    · rw [z, w0, w1, w4, w2, w3]
      exact ⟨⟨hh, hh, ht⟩, ⟨by decide, by decide⟩, Iff.rfl⟩
    · rw [ey (100 + 8 * i + 0) (by omega) (by omega), ey (100 + 8 * i + 1) (by omega) (by omega), ey (100 + 8 * i + 2) (by omega) (by omega), ey (100 + 8 * i + 3) (by omega) (by omega), ey (100 + 8 * i + 4) (by omega) (by omega)]
      exact hA i (by omega)
  · obtain ⟨⟨l0, l2⟩, lw⟩ := hL r hr
    rw [ey (300 + 30 * r + 0) (by omega) (by omega), ey (300 + 30 * r + 2) (by omega) (by omega), e1]
    refine ⟨⟨l0, ?_⟩, fun j hj => ?_⟩
    · rw [l2, ← en]
      show _ = sm n (fAt (mAd a h t) r 2) + fAt (mAd a h t) r 2 n
      rw [fAt_0 (by omega)]
      exact sm_eq n (fun i hi => (fAt_e (ey _ (by omega) (by omega)) (ey _ (by omega) (by omega))).symm)
    · rw [ey _ (by omega) (by omega)]
      exact lw j hj
  · unfold vD
    rw [ey 2 (by omega) (by omega), show sm 12 (fDn (mAd a h t)) = sm 12 (fDn a) from sm_eq _ (fun i hi => ey _ (by omega) (by omega)), e1]
    refine ⟨hD.1, ?_⟩
    show sm n (fLd (mAd a h t)) + fLd (mAd a h t) n ≤ a 2
    rw [show fLd (mAd a h t) n = 0 from ez 5 (by decide), show sm n (fLd (mAd a h t)) = sm n (fLd a) from sm_eq n (fun i hi => ey _ (by omega) (by omega)), en]
    exact hD.2
theorem ht_ok {B x v : Nat} (hI : vI B a) (hk : k < a 1) (hx : (x = 0 ∧ v < 12) ∨ (x = 4 ∧ v < 2)) : vI (B + 1) (bU a (100 + 8 * k + x) v) ∧ vR a (bU a (100 + 8 * k + x) v) := by
  obtain ⟨⟨⟨h16, hT⟩, hA, hL, hD⟩, hN, hB⟩ := hI
  obtain ⟨c, ec⟩ : ∃ c, c = bU a (100 + 8 * k + x) v := ⟨_, rfl⟩
  have en : ∀ y, y ≠ 100 + 8 * k + x → c y = a y := fun y hy => by rw [ec, bU_n hy]
  have es : c (100 + 8 * k + x) = v := by rw [ec, bU_s]
  rw [← ec]
  have hR : vR a c := ⟨⟨en 0 (by omega), en 3 (by omega), en 4 (by omega)⟩, en 2 (by omega), Nat.le_trans (Nat.le_of_eq (en 14 (by omega))) (Nat.le_succ _)⟩
  have hS : aS a c k 0 := ⟨fun i hi j hj h17 => en _ (by omega), fun r hr hrq j hj => en _ (by omega)⟩
  have h1 := en 1 (by omega)
  have fe : ∀ r, fAt c r 2 k = fAt a r 2 k := fun r => fAt_e (en _ (by omega)) (en _ (by omega))
  refine ⟨⟨⟨⟨by omega, vT_st hT (fun y h5 h6 => en y (by omega))⟩, vA_st hA (by omega) h1 hS (fun _ => ?_), vL_st hL (by omega) h1 hS hk (fun r _ _ => fe r) (fun h0 => ?_), vD_st hD (by omega) h1 hS hk (by decide) ?_ ?_⟩, vN_r hN (fun y h1 h2 => en y (by omega)), vB_r hB hR⟩, hR⟩
  · obtain ⟨⟨g0, g1, g4⟩, g2⟩ := hA k hk
    rw [en (100 + 8 * k + 1) (by omega), en (100 + 8 * k + 2) (by omega), en (100 + 8 * k + 3) (by omega)]
    rcases hx with ⟨rfl, hv⟩ | ⟨rfl, hv⟩
    · rw [es, en (100 + 8 * k + 4) (by omega)]
      exact ⟨⟨hv, g1, g4⟩, g2⟩
    · rw [es, en (100 + 8 * k + 0) (by omega)]
      exact ⟨⟨g0, g1, hv⟩, g2⟩
  · obtain ⟨⟨l0, l2⟩, lw⟩ := hL 0 h0
    rw [en (300 + 30 * 0 + 0) (by omega), en (300 + 30 * 0 + 2) (by omega), fe]
    refine ⟨⟨l0, rfl⟩, fun j hj => ?_⟩
    rw [en _ (by omega)]
    exact lw j hj
  · rw [en _ (by omega), en 2 (by omega)]
  · rw [en _ (by omega), en 2 (by omega)]
theorem dp_ok {B : Nat} (hI : vI B a) (hB' : B < 1000000) (hk : k < a 1) (h2 : a (100 + 8 * k + 2) = 0) (hq : q < 12) : vI (B + 1) (mDp a k q) ∧ vR a (mDp a k q) := by
  obtain ⟨h, hN, hB⟩ := hI
  obtain ⟨n1, ⟨n2, n3⟩, -, -, -⟩ := vC_dp h hk h2 hq (by have := hB.2.2; omega)
  have hR : vR a (mDp a k q) := ⟨⟨n2 0 (by decide) (by decide), n2 3 (by decide) (by decide), n2 4 (by decide) (by decide)⟩, n2 2 (by decide) (by decide), Nat.le_of_eq n3⟩
  exact ⟨⟨n1, vN_r hN (fun y h1 h2 => n2 y (by omega) (by omega)), vB_r hB hR⟩, hR⟩
/-- a change at one quay's line -/
theorem vC_q (h : vC a) (h1 : c 1 = a 1) (h2 : c 2 = a 2) (hT : ∀ y, 5 ≤ y → y < 9 → c y = a y) (hA : ∀ i, i < a 1 → ∀ j, j < 7 → c (100 + 8 * i + j) = a (100 + 8 * i + j)) (hL : ∀ r, r < 12 → r ≠ q → ∀ j, j < 12 → c (300 + 30 * r + j) = a (300 + 30 * r + j)) (hq : q < 12 → (c (300 + 30 * q + 0) ≤ 9 ∧ c (300 + 30 * q + 2) = a (300 + 30 * q + 2) ∧ c (300 + 30 * q + 1) = a (300 + 30 * q + 1)) ∧ ∀ j, j < c (300 + 30 * q + 0) → 1 ≤ c (303 + 30 * q + j) ∧ c (303 + 30 * q + j) ≤ 99) : vC c := by
  obtain ⟨⟨h16, gT⟩, gA, gL, gD⟩ := h
  have hs : ∀ r, sm (a 1) (fAt c r 2) = sm (a 1) (fAt a r 2) := fun r => sm_eq _ (fun i hi => fAt_e (hA i hi 1 (by decide)) (hA i hi 2 (by decide)))
  refine ⟨⟨by omega, vT_st gT hT⟩, fun i hi => ?_, fun r hr => ?_, ?_⟩
  · rw [h1] at hi
    rw [hA i hi 0 (by decide), hA i hi 1 (by decide), hA i hi 2 (by decide), hA i hi 3 (by decide), hA i hi 4 (by decide)]
    exact gA i hi
  · obtain ⟨⟨l0, l2⟩, lw⟩ := gL r hr
    rw [h1, hs]
    by_cases z : r = q
    · rw [z] at hr l2 ⊢
      obtain ⟨⟨d0, d2, -⟩, dw⟩ := hq hr
      exact ⟨⟨d0, by omega⟩, dw⟩
    · rw [hL r hr z 0 (by decide), hL r hr z 2 (by decide)]
      refine ⟨⟨l0, l2⟩, fun j hj => ?_⟩
      rw [show 303 + 30 * r + j = 300 + 30 * r + (3 + j) by omega, hL r hr z (3 + j) (by omega), show 300 + 30 * r + (3 + j) = 303 + 30 * r + j by omega]
      exact lw j hj
  · unfold vD
    rw [h1, h2, show sm 12 (fDn c) = sm 12 (fDn a) from sm_eq _ (fun r hr => by
      by_cases z : r = q
      · rw [z] at hr ⊢
        exact (hq hr).1.2.2
      · exact hL r hr z 1 (by decide)), show sm (a 1) (fLd c) = sm (a 1) (fLd a) from sm_eq _ (fun i hi => hA i hi 5 (by decide))]
    exact gD
theorem ap_ok {B v : Nat} (hI : vI B a) (hq : q < 12) (h9 : a (300 + 30 * q + 0) < 9) (hv : 1 ≤ v ∧ v ≤ 99) : (vI (B + 1) (mAp a q v) ∧ vR a (mAp a q v)) ∧ mAp a q v (300 + 30 * q + 0) = a (300 + 30 * q + 0) + 1 := by
  obtain ⟨h, hN, hB⟩ := hI
  obtain ⟨n, en⟩ : ∃ n, n = a (300 + 30 * q + 0) := ⟨_, rfl⟩
  have hn : n < 9 := by omega
  have ey : ∀ y, y ≠ 300 + 30 * q + 0 → y ≠ 303 + 30 * q + n → mAp a q v y = a y := fun y h1 h2 => by rw [mAp_d en, bU_n h1, mAp1_d en, bU_n h2]
  have e0 : mAp a q v (300 + 30 * q + 0) = n + 1 := by rw [mAp_d en, bU_s, inc1_v (by omega)]
  have ew : mAp a q v (303 + 30 * q + n) = v := by rw [mAp_d en, bU_n (by omega), mAp1_d en, bU_s]
  have hR : vR a (mAp a q v) := ⟨⟨ey 0 (by omega) (by omega), ey 3 (by omega) (by omega), ey 4 (by omega) (by omega)⟩, ey 2 (by omega) (by omega), Nat.le_trans (Nat.le_of_eq (ey 14 (by omega) (by omega))) (Nat.le_succ _)⟩
  have h16 := h.1.1
  refine ⟨⟨⟨vC_q (q := q) h (ey 1 (by omega) (by omega)) (ey 2 (by omega) (by omega)) (fun y h5 h6 => ey y (by omega) (by omega)) (fun i hi j hj => ey _ (by omega) (by omega)) (fun r hr hrq j hj => ey _ (by omega) (by omega)) (fun _ => ⟨⟨by omega, ey _ (by omega) (by omega), ey _ (by omega) (by omega)⟩, fun j hj => ?_⟩), vN_r hN (fun y h1 h2 => ey y (by omega) (by omega)), vB_r hB hR⟩, hR⟩, by omega⟩
  by_cases z : j = n
  · rw [z, ew]
    exact hv
  · rw [ey _ (by omega) (by omega)]
    exact (h.2.2.1 q hq).2 j (by omega)
theorem ch_ok {B w v : Nat} (hI : vI B a) (hB' : B < 1000000) (hw : w < 5) (hv : 1 ≤ v ∧ v ≤ 20) : vI (B + 1) (mCh a w v) ∧ vR a (mCh a w v) := by
  obtain ⟨h, hN, hB⟩ := hI
  have h16 := h.1.1
  obtain ⟨⟨t5, t5'⟩, ⟨t6, t6'⟩, ⟨t7, t7'⟩, t8, t8'⟩ := h.1.2
  obtain ⟨⟨⟨m7, m10⟩, m8, m11⟩, ⟨m12, m12'⟩, ⟨m13, m13'⟩, m9⟩ := hN
  have b0 := hB.1.1
  have ea : add1 (a 0) v = a 0 + v := Nat.mod_eq_of_lt (by omega)
  obtain ⟨c, ec⟩ : ∃ c, c = mCh a w v := ⟨_, rfl⟩
  have ey : ∀ y, ¬ (5 ≤ y ∧ y < 14) → c y = a y := fun y hy => by
    rw [ec]
    unfold mCh
    by_cases q2 : w = 2
    · rw [nb_eq.mpr q2, cond_true, mCh2_d, bU_n (by omega), bU_n (by omega)]
      exact bU_n (by omega)
    · rw [nb_ne.mpr q2, cond_false]
      by_cases q3 : w = 3
      · rw [nb_eq.mpr q3, cond_true, mCh2_d, bU_n (by omega), bU_n (by omega)]
        exact bU_n (by omega)
      · rw [nb_ne.mpr q3, cond_false]
        exact bU_n (by omega)
  have et : vT c ∧ vN c := by
    have e0 := ey 0 (by omega)
    rcases (show w = 0 ∨ w = 1 ∨ w = 2 ∨ w = 3 ∨ w = 4 by omega) with rfl | rfl | rfl | rfl | rfl
    · have ez : ∀ y, c y = if y = 5 then v else a y := fun y => by rw [ec]; rfl
      have e5 : c 5 = v := ez 5
      have eo : ∀ y, y ≠ 5 → c y = a y := fun y hy => (ez y).trans (if_neg hy)
      unfold vT vN
      rw [e5, eo 6 (by decide), eo 7 (by decide), eo 8 (by decide), eo 0 (by decide), eo 10 (by decide), eo 11 (by decide), eo 12 (by decide), eo 13 (by decide), eo 9 (by decide)]
      omega
    · have ez : ∀ y, c y = if y = 6 then v else a y := fun y => by rw [ec]; rfl
      have e5 : c 6 = v := ez 6
      have eo : ∀ y, y ≠ 6 → c y = a y := fun y hy => (ez y).trans (if_neg hy)
      unfold vT vN
      rw [e5, eo 5 (by decide), eo 7 (by decide), eo 8 (by decide), eo 0 (by decide), eo 10 (by decide), eo 11 (by decide), eo 12 (by decide), eo 13 (by decide), eo 9 (by decide)]
      omega
    · have ez : ∀ y, c y = if y = 12 then add1 (a 0) v else if y = 10 then v else if y = 7 then v else a y := fun y => by rw [ec]; rfl
      have e5 : c 7 = v := ez 7
      have e6 : c 10 = v := ez 10
      have e7 : c 12 = a 0 + v := (ez 12).trans ea
      have eo : ∀ y, y ≠ 7 → y ≠ 10 → y ≠ 12 → c y = a y := fun y h1 h2 h3 => (ez y).trans ((if_neg h3).trans ((if_neg h2).trans (if_neg h1)))
      unfold vT vN
      rw [e5, e6, e7, eo 5 (by decide) (by decide) (by decide), eo 6 (by decide) (by decide) (by decide), eo 8 (by decide) (by decide) (by decide), eo 0 (by decide) (by decide) (by decide), eo 11 (by decide) (by decide) (by decide), eo 13 (by decide) (by decide) (by decide), eo 9 (by decide) (by decide) (by decide)]
      omega
    · have ez : ∀ y, c y = if y = 13 then add1 (a 0) v else if y = 11 then v else if y = 8 then v else a y := fun y => by rw [ec]; rfl
      have e5 : c 8 = v := ez 8
      have e6 : c 11 = v := ez 11
      have e7 : c 13 = a 0 + v := (ez 13).trans ea
      have eo : ∀ y, y ≠ 8 → y ≠ 11 → y ≠ 13 → c y = a y := fun y h1 h2 h3 => (ez y).trans ((if_neg h3).trans ((if_neg h2).trans (if_neg h1)))
      unfold vT vN
      rw [e5, e6, e7, eo 5 (by decide) (by decide) (by decide), eo 6 (by decide) (by decide) (by decide), eo 7 (by decide) (by decide) (by decide), eo 0 (by decide) (by decide) (by decide), eo 10 (by decide) (by decide) (by decide), eo 12 (by decide) (by decide) (by decide), eo 9 (by decide) (by decide) (by decide)]
      omega
    · have ez : ∀ y, c y = if y = 9 then v else a y := fun y => by rw [ec]; rfl
      have eo : ∀ y, y ≠ 9 → c y = a y := fun y hy => (ez y).trans (if_neg hy)
      have e5 : c 9 = v := ez 9
      unfold vT vN
      rw [e5, eo 5 (by decide), eo 6 (by decide), eo 7 (by decide), eo 8 (by decide), eo 0 (by decide), eo 10 (by decide), eo 11 (by decide), eo 12 (by decide), eo 13 (by decide)]
      omega
  rw [← ec]
  have hR : vR a c := ⟨⟨ey 0 (by omega), ey 3 (by omega), ey 4 (by omega)⟩, ey 2 (by omega), Nat.le_trans (Nat.le_of_eq (ey 14 (by omega))) (Nat.le_succ _)⟩
  exact ⟨⟨vC_fr h et.1 (ey 1 (by omega)) (ey 2 (by omega)) (fun i hi j hj => ey _ (by omega)) (fun y hy => ey y (by omega)), et.2, vB_r hB hR⟩, hR⟩
theorem sm_rm {f : Nat → Nat} : ∀ n, k ≤ n → sm n (fun i => f (if i < k then i else i + 1)) + f k = sm (n + 1) f
  | 0, h => by
    rw [show k = 0 by omega]
    rfl
  | n + 1, h => by
    show sm n (fun i => f (if i < k then i else i + 1)) + f (if n < k then n else n + 1) + f k = sm (n + 1) f + f (n + 1)
    by_cases q : k = n + 1
    · rw [q, if_pos (Nat.lt_succ_self n)]
      have e : sm n (fun i => f (if i < n + 1 then i else i + 1)) = sm n f := sm_eq n (fun i hi => congrArg f (if_pos (by omega)))
      rw [e]
      rfl
    · have e := sm_rm (f := f) n (by omega)
      rw [if_neg (by omega)]
      omega
theorem to_ok {B : Nat} (hI : vI B a) (hB' : B < 1000000) (hk : k < a 1) (h9 : a (100 + 8 * k + 2) = 1 → a (300 + 30 * a (100 + 8 * k + 1) + 0) < 9) : vI (B + 1) (mTo a k) ∧ vR a (mTo a k) := by
  obtain ⟨h, hN, hB⟩ := hI
  obtain ⟨⟨h16, hT⟩, hA, hL, hD⟩ := h
  obtain ⟨⟨k0, k1, k4⟩, ⟨k2, k3⟩, ki⟩ := hA k hk
  obtain ⟨q, eq⟩ : ∃ q, q = a (100 + 8 * k + 1) := ⟨_, rfl⟩
  rw [← eq] at k1 h9
  obtain ⟨⟨l0, l2⟩, lw⟩ := hL q k1
  have hsm : a (300 + 30 * q + 2) ≤ 17 := by
    rw [l2]
    exact Nat.le_trans (sm_le (fun i => i1_le) _) (by omega)
  have hge : fAt a q 2 k ≤ a (300 + 30 * q + 2) := by
    rw [l2]
    exact sm_ge _ hk
  obtain ⟨c, ec⟩ : ∃ c, c = mTo1 a k := ⟨_, rfl⟩
  -- what happens to the line
  have hc : (∀ y, y < 300 → c y = a y) ∧ (∀ r, r < 12 → r ≠ q → ∀ j, j < 12 → c (300 + 30 * r + j) = a (300 + 30 * r + j)) ∧ (c (300 + 30 * q + 0) ≤ 9 ∧ c (300 + 30 * q + 1) = a (300 + 30 * q + 1) ∧ c (300 + 30 * q + 2) + fAt a q 2 k = a (300 + 30 * q + 2)) ∧ ∀ j, j < c (300 + 30 * q + 0) → 1 ≤ c (303 + 30 * q + j) ∧ c (303 + 30 * q + j) ≤ 99 := by
    by_cases q1 : a (100 + 8 * k + 2) = 1
    · have e0 : c = mPf a q (a (100 + 8 * k + 3)) := by
        rw [ec]
        unfold mTo1
        rw [nb_eq.mpr q1, cond_true, ← eq]
      have hl := h9 q1
      obtain ⟨n, en⟩ : ∃ n, n = a (300 + 30 * q + 0) := ⟨_, rfl⟩
      have d0 : c (300 + 30 * q + 0) = n + 1 := by rw [e0, mPf_d en, bU_s, inc1_v (by omega)]
      have dn : ∀ y, y ≠ 300 + 30 * q + 0 → ¬ (303 + 30 * q ≤ y ∧ y < 304 + 30 * q + n) → c y = a y := fun y h1 h2 => by
        rw [e0, mPf_d en, bU_n h1, mPf2_d, bU_n (by omega), mPf1_d en, bSu_n (by omega)]
      have dw : c (303 + 30 * q + 0) = a (100 + 8 * k + 3) := by rw [e0, mPf_d en, bU_n (by omega), mPf2_d, bU_s]
      have ds : ∀ j, 1 ≤ j → j < n + 1 → c (303 + 30 * q + j) = a (303 + 30 * q + (j - 1)) := fun j h1 h2 => by
        rw [e0, mPf_d en, bU_n (by omega), mPf2_d, bU_n (by omega), mPf1_d en, bSu_s (by omega)]
        exact congrArg a (by omega)
      refine ⟨fun y hy => dn y (by omega) (by omega), fun r hr hrq j hj => dn _ (by omega) (by omega), ⟨by omega, dn _ (by omega) (by omega), ?_⟩, fun j hj => ?_⟩
      · rw [dn _ (by omega) (by omega), fAt_0 (by omega), Nat.add_zero]
      · by_cases z : j = 0
        · rw [z, dw]
          exact ⟨by have := ki.mpr; omega, k3⟩
        · rw [ds j (by omega) (by omega)]
          exact lw (j - 1) (by omega)
    · by_cases q2 : a (100 + 8 * k + 2) = 2
      · have e0 : c = mWay3 a q := by
          rw [ec]
          unfold mTo1
          rw [nb_ne.mpr q1, cond_false, nb_eq.mpr q2, cond_true, ← eq]
        have f1 := fAt_1 (a := a) (i := k) eq.symm q2
        rw [f1] at hge
        have d2 : c (300 + 30 * q + 2) = a (300 + 30 * q + 2) - 1 := by rw [e0, mWay3_d, bU_s, dec1_v (by omega) (by omega)]
        have dn : ∀ y, y ≠ 300 + 30 * q + 2 → c y = a y := fun y hy => by rw [e0, mWay3_d, bU_n hy]
        refine ⟨fun y hy => dn y (by omega), fun r hr hrq j hj => dn _ (by omega), ⟨?_, dn _ (by omega), by omega⟩, fun j hj => ?_⟩
        · rw [dn _ (by omega)]
          exact l0
        · rw [dn _ (by omega)] at hj ⊢
          exact lw j hj
      · have e0 : c = a := by
          rw [ec]
          unfold mTo1
          rw [nb_ne.mpr q1, cond_false, nb_ne.mpr q2, cond_false]
        rw [e0, fAt_0 q2]
        exact ⟨fun _ _ => rfl, fun _ _ _ _ _ => rfl, ⟨l0, rfl, rfl⟩, lw⟩
  obtain ⟨c1, c2, ⟨c3, c4, c5⟩, c6⟩ := hc
  have et : mTo a k = mRm c k := by rw [ec]; unfold mTo; rfl
  obtain ⟨n, en⟩ : ∃ n, n + 1 = a 1 := ⟨a 1 - 1, by omega⟩
  have r1 : mRm c k 1 = n := by
    unfold mRm
    rw [if_pos rfl, c1 1 (by decide), dec1_v (by omega) (by omega)]
    omega
  have ry : ∀ y, y ≠ 1 → (y < 100 ∨ 300 ≤ y) → mRm c k y = c y := fun y h1 h2 => by
    unfold mRm
    rw [if_neg h1, if_neg (by omega)]
  have ra : ∀ i, i < n → ∀ j, j < 8 → mRm c k (100 + 8 * i + j) = a (100 + 8 * (if i < k then i else i + 1) + j) := fun i hi j hj => by
    have hr : mRm c k (100 + 8 * i + j) = c (if 100 + 8 * i + j < 100 + 8 * k then 100 + 8 * i + j else 100 + 8 * i + j + 8) := by
      unfold mRm
      rw [if_neg (by omega), if_pos (by omega)]
    rw [hr]
    by_cases z : i < k
    · rw [if_pos z, if_pos (by omega)]
      exact c1 _ (by omega)
    · rw [if_neg z, if_neg (by omega), c1 _ (by omega)]
      exact congrArg a (by omega)
  have rg : ∀ y, y < 100 → y ≠ 1 → mRm c k y = a y := fun y h1 h2 => (ry y h2 (Or.inl h1)).trans (c1 y (by omega))
  have hs : ∀ i, i < n → (if i < k then i else i + 1) < a 1 := fun i hi => by split <;> omega
  rw [et]
  have hR : vR a (mRm c k) := ⟨⟨rg 0 (by omega) (by omega), rg 3 (by omega) (by omega), rg 4 (by omega) (by omega)⟩, rg 2 (by omega) (by omega), Nat.le_trans (Nat.le_of_eq (rg 14 (by omega) (by omega))) (Nat.le_succ _)⟩
  refine ⟨⟨⟨⟨by omega, vT_st hT (fun y h5 h6 => rg y (by omega) (by omega))⟩, fun i hi => ?_, fun r hr => ?_, ?_⟩, vN_r hN (fun y h1 h2 => rg y (by omega) h2), vB_r hB hR⟩, hR⟩
  · rw [r1] at hi
    rw [ra i hi 0 (by decide), ra i hi 1 (by decide), ra i hi 2 (by decide), ra i hi 3 (by decide), ra i hi 4 (by decide)]
    exact hA _ (hs i hi)
  · have s1 : sm n (fAt (mRm c k) r 2) + fAt a r 2 k = sm (a 1) (fAt a r 2) := by
      have e1 := sm_rm (f := fAt a r 2) (k := k) n (by omega)
      have e2 : sm n (fAt (mRm c k) r 2) = sm n (fun i => fAt a r 2 (if i < k then i else i + 1)) := sm_eq n (fun i hi => by
        show fAt (mRm c k) r 2 i = fAt a r 2 (if i < k then i else i + 1)
        unfold fAt
        rw [ra i hi 1 (by decide), ra i hi 2 (by decide)])
      rw [e2, e1, en]
    obtain ⟨⟨m0, m2⟩, mw⟩ := hL r hr
    rw [r1, ry (300 + 30 * r + 0) (by omega) (by omega), ry (300 + 30 * r + 2) (by omega) (by omega)]
    by_cases z : r = q
    · rw [z] at s1 m2 ⊢
      refine ⟨⟨c3, by omega⟩, fun j hj => ?_⟩
      rw [ry _ (by omega) (by omega)]
      exact c6 j hj
    · rw [fAt_0q (by omega)] at s1
      rw [c2 r hr z 0 (by decide), c2 r hr z 2 (by decide)]
      refine ⟨⟨m0, by omega⟩, fun j hj => ?_⟩
      rw [ry _ (by omega) (by omega), show 303 + 30 * r + j = 300 + 30 * r + (3 + j) by omega, c2 r hr z (3 + j) (by omega), show 300 + 30 * r + (3 + j) = 303 + 30 * r + j by omega]
      exact mw j hj
  · have s2 : sm n (fLd (mRm c k)) + fLd a k = sm (a 1) (fLd a) := by
      have e1 := sm_rm (f := fLd a) (k := k) n (by omega)
      have e2 : sm n (fLd (mRm c k)) = sm n (fun i => fLd a (if i < k then i else i + 1)) := sm_eq n (fun i hi => ra i hi 5 (by decide))
      rw [e2, e1, en]
    have s3 : sm 12 (fDn (mRm c k)) = sm 12 (fDn a) := sm_eq _ (fun r hr => by
      show mRm c k (300 + 30 * r + 1) = a (300 + 30 * r + 1)
      rw [ry _ (by omega) (by omega)]
      by_cases z : r = q
      · rw [z]
        exact c4
      · exact c2 r hr z 1 (by decide))
    obtain ⟨d1, d2⟩ := hD
    unfold vD
    rw [r1, s3, rg 2 (by decide) (by decide)]
    exact ⟨d1, by omega⟩
theorem run_ok {B d : Nat} (hI : vI B a) (hd : B + d < 1000000) : WP d a ∧ vI (B + d) (mPs d a) := by
  obtain ⟨h, hN, hB⟩ := hI
  obtain ⟨g1, ⟨g2, g3, g4⟩, -⟩ := ps_ok d B a h hN hB hd
  exact ⟨g1, g2, g3, g4⟩
end VV
