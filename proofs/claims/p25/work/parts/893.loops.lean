/-! ===== loops over the arms, lending, the looks: what is kept ===== -/
section VU
variable {a c e : Nat → Nat} {k q : Nat}
theorem fDo_1 {d i : Nat} (h : a (100 + 8 * i + 2) = d) : fDo a d i = 1 := by
  unfold fDo
  rw [nb_eq.mpr h]
  rfl
theorem fDo_0 {d i : Nat} (h : a (100 + 8 * i + 2) ≠ d) : fDo a d i = 0 := by
  unfold fDo
  rw [nb_ne.mpr h]
  rfl
theorem fDo_e {d i : Nat} (h : c (100 + 8 * i + 2) = a (100 + 8 * i + 2)) : fDo c d i = fDo a d i := by
  unfold fDo
  rw [h]
theorem go1_ok (h : vC a) (hk : k < a 1) (hb : a 2 < 4294967295 ∧ a 3 < 4294967295) : vC (mGo1 a k) ∧ ((∀ y, y < 100 → y ≠ 2 → y ≠ 3 → mGo1 a k y = a y) ∧ mGo1 a k 3 = a 3 + fDo a 1 k ∧ a 2 ≤ mGo1 a k 2 ∧ mGo1 a k 2 + a 3 ≤ a 2 + mGo1 a k 3) ∧ ∀ i, i ≠ k → i < 17 → mGo1 a k (100 + 8 * i + 2) = a (100 + 8 * i + 2) := by
  by_cases q2 : a (100 + 8 * k + 2) = 2
  · have e : mGo1 a k = mWay a k := by
      unfold mGo1
      rw [nb_eq.mpr q2, cond_true]
    obtain ⟨n1, n2, n3, -, -⟩ := vC_way h hk q2
    have z2 := n2 2 (by decide)
    have z3 := n2 3 (by decide)
    rw [e, fDo_0 (by omega)]
    exact ⟨n1, ⟨fun y h1 _ _ => n2 y h1, by omega, by omega, by omega⟩, fun i hi h17 => n3.1 i hi 2 (by decide) h17⟩
  · by_cases q1 : a (100 + 8 * k + 2) = 1
    · have e : mGo1 a k = mWk a k := by
        unfold mGo1
        rw [nb_ne.mpr q2, cond_false, nb_eq.mpr q1, cond_true]
      obtain ⟨n1, ⟨n2, n4, n5, n6⟩, n3, -, -⟩ := vC_wk h hk q1 hb
      rw [e, fDo_1 q1]
      exact ⟨n1, ⟨n2, n4, n5, by omega⟩, fun i hi h17 => n3.1 i hi 2 (by decide) h17⟩
    · have e : mGo1 a k = a := by
        unfold mGo1
        rw [nb_ne.mpr q2, cond_false, nb_ne.mpr q1, cond_false]
      rw [e, fDo_0 q1]
      exact ⟨h, ⟨fun _ _ _ _ => rfl, rfl, Nat.le_refl _, Nat.le_refl _⟩, fun _ _ _ => rfl⟩
theorem fDo_le {d i : Nat} : fDo a d i ≤ 1 := i1_le
theorem go_ok : ∀ (d k : Nat) (a : Nat → Nat), k + d = a 1 → vC a → a 2 + d < 4294967295 → a 3 + d < 4294967295 → vC (mGoL d k a) ∧ (∀ y, y < 100 → y ≠ 2 → y ≠ 3 → mGoL d k a y = a y) ∧ mGoL d k a 3 + sm k (fDo a 1) = a 3 + sm (k + d) (fDo a 1) ∧ a 2 ≤ mGoL d k a 2 ∧ mGoL d k a 2 + a 3 ≤ a 2 + mGoL d k a 3 := by
  intro d
  induction d with
  | zero => exact fun k a _ h _ _ => ⟨h, fun _ _ _ _ => rfl, rfl, Nat.le_refl _, Nat.le_refl _⟩
  | succ d IH =>
    intro k a hk h h2 h3
    have hka : k < a 1 := by omega
    have h17 := h.1.1
    obtain ⟨n1, ⟨n2, n3, n4, n5⟩, n6⟩ := go1_ok h hka ⟨by omega, by omega⟩
    have n7 := n2 1 (by decide) (by decide) (by decide)
    have hf := fDo_le (a := a) (d := 1) (i := k)
    obtain ⟨g1, g2, g3, g4, g5⟩ := IH (k + 1) (mGo1 a k) (by omega) n1 (by omega) (by omega)
    have s1 : sm (k + 1 + d) (fDo (mGo1 a k) 1) + fDo a 1 k = sm (k + 1 + d) (fDo a 1) + fDo (mGo1 a k) 1 k := sm_ch _ (by omega) (fun i hi e => fDo_e (n6 i e (by omega)))
    have s2 : sm (k + 1) (fDo (mGo1 a k) 1) = sm k (fDo a 1) + fDo (mGo1 a k) 1 k := by
      show sm k (fDo (mGo1 a k) 1) + fDo (mGo1 a k) 1 k = _
      rw [show sm k (fDo (mGo1 a k) 1) = sm k (fDo a 1) from sm_eq k (fun i hi => fDo_e (n6 i (by omega) (by omega)))]
    rw [show k + 1 + d = k + (d + 1) by omega] at s1 g3
    refine ⟨g1, fun y y1 y2 y3 => (g2 y y1 y2 y3).trans (n2 y y1 y2 y3), ?_, ?_, ?_⟩
    · show mGoL d (k + 1) (mGo1 a k) 3 + sm k (fDo a 1) = _
      omega
    · show a 2 ≤ mGoL d (k + 1) (mGo1 a k) 2
      omega
    · show mGoL d (k + 1) (mGo1 a k) 2 + a 3 ≤ a 2 + mGoL d (k + 1) (mGo1 a k) 3
      omega
/-- the arms before k idle where nothing waits -/
def aIk (k : Nat) (a : Nat → Nat) : Prop := ∀ i, i < k → i < a 1 → a (100 + 8 * i + 2) = 0 → a (300 + 30 * a (100 + 8 * i + 1) + 0) = 0
theorem tk1_ok (h : vC a) (hk : k < a 1) (hI : aIk k a) : vC (mT1 a k) ∧ (∀ y, y < 100 → mT1 a k y = a y) ∧ aIk (k + 1) (mT1 a k) := by
  have h16 := h.1.1
  obtain ⟨q, eq⟩ : ∃ q, q = a (100 + 8 * k + 1) := ⟨_, rfl⟩
  have hq : q < 12 := by rw [eq]; exact (h.2.1 k hk).1.2.1
  by_cases q2 : a (100 + 8 * k + 2) = 0
  · by_cases q1 : a (300 + 30 * q + 0) = 0
    · have e : mT1 a k = a := by
        unfold mT1
        rw [← eq, nb_eq.mpr q2, cond_true, nb_eq.mpr q1, cond_true]
      rw [e]
      refine ⟨h, fun _ _ => rfl, fun i hi hi2 z => ?_⟩
      by_cases ik : i = k
      · rw [ik, ← eq]
        exact q1
      · exact hI i (by omega) hi2 z
    · have e : mT1 a k = mTl a k q := by
        unfold mT1
        rw [← eq, nb_eq.mpr q2, cond_true, nb_ne.mpr q1, cond_false]
      rw [e]
      obtain ⟨n1, n2, n3, n4, n5, n6⟩ := vC_tl h hk q2 eq hq q1
      refine ⟨n1, n2, fun i hi hi2 z => ?_⟩
      rw [n2 1 (by decide)] at hi2
      by_cases ik : i = k
      · rw [ik, n4] at z
        exact absurd z (by decide)
      · rw [n3.1 i ik 2 (by decide) (by omega)] at z
        rw [n5 i hi2]
        have := hI i (by omega) hi2 z
        have := n6 _ (h.2.1 i hi2).1.2.1
        omega
  · have e : mT1 a k = a := by
      unfold mT1
      rw [nb_ne.mpr q2, cond_false]
    rw [e]
    refine ⟨h, fun _ _ => rfl, fun i hi hi2 z => ?_⟩
    by_cases ik : i = k
    · rw [ik] at z
      exact absurd z q2
    · exact hI i (by omega) hi2 z
theorem tk_ok : ∀ (d k : Nat) (a : Nat → Nat), k + d = a 1 → vC a → aIk k a → vC (mTLo d k a) ∧ (∀ y, y < 100 → mTLo d k a y = a y) ∧ aI (mTLo d k a) := by
  intro d
  induction d with
  | zero =>
    intro k a hk h hI
    exact ⟨h, fun _ _ => rfl, fun i hi z => hI i (by show i < k; have : i < a 1 := hi; omega) hi z⟩
  | succ d IH =>
    intro k a hk h hI
    obtain ⟨n1, n2, n3⟩ := tk1_ok h (by omega) hI
    have n4 := n2 1 (by decide)
    obtain ⟨g1, g2, g3⟩ := IH (k + 1) (mT1 a k) (by omega) n1 n3
    exact ⟨g1, fun y hy => (g2 y hy).trans (n2 y hy), g3⟩
/-- lending -/
theorem le_ok {fi en f d : Nat} (he : en ≤ 12) (hf : fi ≤ en) (h : vC a) (h14 : a 14 + d < 2147483648) : vC (mLe fi en f d a) ∧ (∀ y, y < 100 → y ≠ 14 → mLe fi en f d a y = a y) ∧ (a 14 ≤ mLe fi en f d a 14 ∧ mLe fi en f d a 14 ≤ a 14 + d) ∧ mo a (mLe fi en f d a) := by
  have g := mLe_ind (R := fun n c => vC c ∧ (∀ y, y < 100 → y ≠ 14 → c y = a y) ∧ (a 14 ≤ c 14 ∧ c 14 + n ≤ a 14 + d) ∧ mo a c) he hf (f := f) (fun _ c r => Nat.le_trans r.1.1.1 (by decide)) (fun n c r => ⟨r.1, r.2.1, ⟨r.2.2.1.1, by have := r.2.2.1.2; omega⟩, r.2.2.2⟩) (fun n c j q r hj h1 h2 h3 => by
    obtain ⟨r1, r2, r3, r4⟩ := r
    obtain ⟨n1, ⟨n2, n3⟩, n4, n5, n6⟩ := vC_dp r1 hj h3.1 (show q < 12 by omega) (by omega)
    exact ⟨n1, fun y y1 y2 => (n2 y y1 y2).trans (r2 y y1 y2), by omega, mo_tr r4 (mo_dp r1 hj h3.1 (by omega) (by omega))⟩) d a ⟨h, fun _ _ _ => rfl, ⟨Nat.le_refl _, Nat.le_refl _⟩, mo_rf⟩
  exact ⟨g.1, g.2.1, ⟨g.2.2.1.1, by have := g.2.2.1.2; omega⟩, g.2.2.2⟩
/-- behind a lending within a basin no quay wants two while another one has one to lend -/
theorem le_lk {bs : Nat} (hb : bs < 3) : ∀ (d : Nat) (a : Nat → Nat), vC a → aI a → a 14 + d < 2147483648 → sm (a 1) (fDo a 0) ≤ d → aK (4 * bs) (4 * bs + 4) (mLe (4 * bs) (4 * bs + 4) 1 d a) := by
  intro d
  induction d with
  | zero =>
    intro a h hI h14 hd
    rw [mLe_0]
    intro q h1 h2 hw i hi hf
    have := sm_ge (f := fDo a 0) (a 1) hi
    rw [fDo_1 hf.1] at this
    omega
  | succ d IH =>
    intro a h hI h14 hd
    have h16 := h.1.1
    rw [mLe_s]
    have hn := mNd_ok (a := a) (4 * bs + 4 - 4 * bs) (4 * bs) 4294967295 1
    obtain ⟨q, eq⟩ : ∃ q, q = mNd a (4 * bs + 4 - 4 * bs) (4 * bs) 4294967295 1 := ⟨_, rfl⟩
    rw [← eq] at hn ⊢
    by_cases q0 : q = 4294967295
    · rw [nb_eq.mpr q0, cond_true]
      intro r h1 h2 hw
      rcases hn with ⟨-, g2⟩ | ⟨g1, g2, -⟩
      · have z := g2 r h1 (by omega)
        rw [(mOpen_v (show r < 12 by omega) h).mpr hw] at z
        exact absurd z (by decide)
      · omega
    · rw [nb_ne.mpr q0, cond_false]
      obtain ⟨g1, g2, g3⟩ : 4 * bs ≤ q ∧ q < 4 * bs + (4 * bs + 4 - 4 * bs) ∧ zlt 1 (mOpen a q) = true := by
        rcases hn with ⟨g, -⟩ | g
        · exact absurd g q0
        · exact g
      have hq : q < 12 := by omega
      have hw := (mOpen_v hq h).mp g3
      have hh := mHf_in (a := a) q 1 (a 1) 0
      have ho := mHf_ok (a := a) (q := q) (f := 1) (a 1) 0 (by omega)
      obtain ⟨j, ej⟩ : ∃ j, j = mHf a q 1 (a 1) 0 := ⟨_, rfl⟩
      rw [← ej] at hh ho ⊢
      by_cases q1 : j = 4294967295
      · rw [nb_eq.mpr q1, cond_true]
        intro r h1 h2 hwr i hi hfr
        obtain ⟨f1, f2, f3, f4⟩ := hfr
        by_cases z : a (100 + 8 * i + 1) = q
        · have := hI i hi f1
          rw [z] at this
          omega
        · exact ho.1 q1 i (Nat.zero_le _) (by omega) ⟨f1, f2, z, mIn_1.mpr (by omega)⟩
      · rw [nb_ne.mpr q1, cond_false]
        have hj : j < a 1 := by omega
        have hfr := ho.2 q1
        obtain ⟨n1, ⟨n2, n3⟩, n4, n5, n6⟩ := vC_dp h hj hfr.1 hq (by omega)
        have n7 := n2 1 (by decide) (by decide)
        have s1 : sm (a 1) (fDo (mDp a j q) 0) + fDo a 0 j = sm (a 1) (fDo a 0) + fDo (mDp a j q) 0 j := sm_ch _ hj (fun i hi e => fDo_e (n4.1 i e 2 (by decide) (by omega)))
        rw [fDo_1 hfr.1, fDo_0 (by omega)] at s1
        exact IH (mDp a j q) n1 (aI_mo (mo_dp h hj hfr.1 hq (by omega)) h.2.1 hI) (by omega) (by rw [n7]; omega)
theorem aK_3 (h0 : aK 0 4 a) (h1 : aK 4 8 a) (h2 : aK 8 12 a) : aK 0 12 a := by
  intro q g1 g2
  by_cases z : q < 4
  · exact h0 q g1 z
  · by_cases z2 : q < 8
    · exact h1 q (by omega) z2
    · exact h2 q (by omega) g2
theorem fDo_sm {d : Nat} (h : vC a) : sm (a 1) (fDo a d) ≤ a 1 := sm_le (fun _ => i1_le) _
/-- the look within basins, but for its plan -/
theorem lb_ok (h : vC a) (hI : aI a) (h14 : a 14 < 1073741824) : vC (mLb3 a) ∧ (∀ y, y < 100 → y ≠ 14 → mLb3 a y = a y) ∧ (a 14 ≤ mLb3 a 14 ∧ mLb3 a 14 ≤ a 14 + 51) ∧ mo a (mLb3 a) ∧ aK 0 12 (mLb3 a) := by
  have h16 := h.1.1
  obtain ⟨p1, p2, p3, p4⟩ := le_ok (a := a) (fi := 0) (en := 4) (f := 1) (d := a 1) (by decide) (by decide) h (by omega)
  have p5 := le_lk (bs := 0) (by decide) (a 1) a h hI (by omega) (fDo_sm h)
  have e1 : mLb1 a = mLe 0 4 1 (a 1) a := rfl
  rw [← e1] at p1 p2 p3 p4
  have p5 : aK 0 4 (mLb1 a) := p5
  have i1 := aI_mo p4 h.2.1 hI
  have o1 : mLb1 a 1 = a 1 := p4.1
  obtain ⟨r1, r2, r3, r4⟩ := le_ok (a := mLb1 a) (fi := 4) (en := 8) (f := 1) (d := mLb1 a 1) (by decide) (by decide) p1 (by omega)
  have r5 := le_lk (bs := 1) (by decide) (mLb1 a 1) (mLb1 a) p1 i1 (by omega) (fDo_sm p1)
  have e2 : mLb2 a = mLe 4 8 1 (mLb1 a 1) (mLb1 a) := rfl
  rw [← e2] at r1 r2 r3 r4
  have r5 : aK 4 8 (mLb2 a) := r5
  have i2 := aI_mo r4 p1.2.1 i1
  have o2 : mLb2 a 1 = mLb1 a 1 := r4.1
  obtain ⟨s1, s2, s3, s4⟩ := le_ok (a := mLb2 a) (fi := 8) (en := 12) (f := 1) (d := mLb2 a 1) (by decide) (by decide) r1 (by omega)
  have s5 := le_lk (bs := 2) (by decide) (mLb2 a 1) (mLb2 a) r1 i2 (by omega) (fDo_sm r1)
  have e3 : mLb3 a = mLe 8 12 1 (mLb2 a 1) (mLb2 a) := rfl
  rw [← e3] at s1 s2 s3 s4
  have s5 : aK 8 12 (mLb3 a) := s5
  exact ⟨s1, fun y y1 y2 => ((s2 y y1 y2).trans (r2 y y1 y2)).trans (p2 y y1 y2), ⟨by omega, by omega⟩, mo_tr p4 (mo_tr r4 s4), aK_3 (aK_mo (by decide) (mo_tr r4 s4) p5) (aK_mo (by decide) s4 r5) s5⟩
/-- a plan changes nothing else -/
theorem pl_ok {lv fd : Nat} (hl : lv < 2) (h : vC a) (hd : a (5 + (2 + lv)) ≤ a (10 + lv) ∧ a (10 + lv) ≤ 64) (h0 : a 0 < 1073741824) : vC (mPl a lv fd) ∧ mo a (mPl a lv fd) := by
  obtain ⟨n1, -⟩ := mPl_v (fd := fd) hl h.1.2 hd h0
  exact ⟨vC_fr h (vT_st h.1.2 (fun y h5 h6 => n1 y (by omega) (by omega))) (n1 1 (by omega) (by omega)) (n1 2 (by omega) (by omega)) (fun i hi j hj => n1 _ (by omega) (by omega)) (fun y hy => n1 y (by omega) (by omega)), mo_fr (n1 1 (by omega) (by omega)) (fun i hi j hj => n1 _ (by omega) (by omega)) (fun y hy => n1 y (by omega) (by omega))⟩
/-- arms go home -/
theorem gh1_ok (h : vC a) (hk : k < a 1) (h14 : a 14 < 1073741824) : vC (mGh a k) ∧ (∀ y, y < 100 → y ≠ 14 → mGh a k y = a y) ∧ (a 14 ≤ mGh a k 14 ∧ mGh a k 14 ≤ a 14 + 1) ∧ mo a (mGh a k) := by
  have h16 := h.1.1
  have n1 : ∀ y, y ≠ 100 + 8 * k + 7 → mGh1 a k y = a y := fun y hy => mGh1_n hy
  have c1 : vC (mGh1 a k) := vC_fr h (vT_st h.1.2 (fun y h5 h6 => n1 y (by omega))) (n1 1 (by omega)) (n1 2 (by omega)) (fun i hi j hj => n1 _ (by omega)) (fun y hy => n1 y (by omega))
  have m1 : mo a (mGh1 a k) := mo_fr (n1 1 (by omega)) (fun i hi j hj => n1 _ (by omega)) (fun y hy => n1 y (by omega))
  have e14 := n1 14 (by omega)
  rcases mGh_c (a := a) (k := k) with e | ⟨e, z1, z2⟩
  · rw [e]
    exact ⟨c1, fun y y1 y2 => n1 y (by omega), ⟨by omega, by omega⟩, m1⟩
  · rw [e]
    have hh := (h.2.1 k hk).1.1
    have hd : mGh1 a k (100 + 8 * k + 2) = 0 := by
      have w : (bif Nat.beq (mAw a k) 0 then 0 else inc1 (a (100 + 8 * k + 7))) = mGh1 a k (100 + 8 * k + 7) := (bU_s).symm
      by_cases q0 : a (100 + 8 * k + 2) = 0
      · rw [n1 _ (by omega)]
        exact q0
      · have ew : mAw a k = 0 := by
          unfold mAw
          rw [nb_ne.mpr q0, cond_false]
        rw [nb_eq.mpr ew, cond_true] at w
        rw [← w] at z2
        rw [z1] at z2
        exact absurd z2 (by decide)
    have hk1 : k < mGh1 a k 1 := by rw [n1 1 (by omega)]; exact hk
    obtain ⟨d1, ⟨d2, d3⟩, d4, d5, d6⟩ := vC_dp c1 hk1 hd hh (by omega)
    exact ⟨d1, fun y y1 y2 => (d2 y y1 y2).trans (n1 y (by omega)), ⟨by omega, by omega⟩, mo_tr m1 (mo_dp c1 hk1 hd hh (by omega))⟩
theorem gh_ok : ∀ (d k : Nat) (a : Nat → Nat), k + d = a 1 → vC a → a 14 + d < 1073741824 → vC (mGhL d k a) ∧ (∀ y, y < 100 → y ≠ 14 → mGhL d k a y = a y) ∧ (a 14 ≤ mGhL d k a 14 ∧ mGhL d k a 14 ≤ a 14 + d) ∧ mo a (mGhL d k a) := by
  intro d
  induction d with
  | zero => exact fun k a _ h _ => ⟨h, fun _ _ _ => rfl, ⟨Nat.le_refl _, Nat.le_refl _⟩, mo_rf⟩
  | succ d IH =>
    intro k a hk h h14
    obtain ⟨n1, n2, n3, n4⟩ := gh1_ok (k := k) h (by omega) (by omega)
    have n5 := n4.1
    obtain ⟨g1, g2, g3, g4⟩ := IH (k + 1) (mGh a k) (by omega) n1 (by omega)
    refine ⟨g1, fun y y1 y2 => (g2 y y1 y2).trans (n2 y y1 y2), ?_, mo_tr n4 g4⟩
    show a 14 ≤ mGhL d (k + 1) (mGh a k) 14 ∧ mGhL d (k + 1) (mGh a k) 14 ≤ a 14 + (d + 1)
    omega
theorem aQ_v (h : vA a) : aQ a := fun i hi => (h i hi).1.2.1
theorem aH_v (h : vA a) : aH a := fun i hi => (h i hi).1.1
theorem aL_v (h : vL a) : aL a := fun q hq => (h q hq).1.1
theorem aT_v (h : vA a) : aT a := fun i hi => (h i hi).1.2.2
/-- distances, looks -/
def vN (a : Nat → Nat) : Prop := ((a 7 ≤ a 10 ∧ a 10 ≤ 64) ∧ a 8 ≤ a 11 ∧ a 11 ≤ 64) ∧ (a 0 < a 12 ∧ a 12 ≤ a 0 + 64) ∧ (a 0 < a 13 ∧ a 13 ≤ a 0 + 64) ∧ a 9 ≤ 99
def vS (a : Nat → Nat) : Prop := (a 0 < 536870912 ∧ a 14 < 536870912) ∧ a 3 < 536870912 ∧ a 2 ≤ a 3
/-- a tick -/
theorem ti_ok (h : vC a) (hN : vN a) (hS : vS a) : WJ a ∧ (vC (mTi a) ∧ vN (mTi a)) ∧ (mTi a 0 = a 0 + 1 ∧ mTi a 1 = a 1 ∧ ∀ y, 5 ≤ y → y < 10 → mTi a y = a y) ∧ (mTi a 3 = a 3 + sm (a 1) (fDo a 1) ∧ a 2 ≤ mTi a 2 ∧ mTi a 2 ≤ mTi a 3) ∧ (a 14 ≤ mTi a 14 ∧ mTi a 14 ≤ a 14 + 85) ∧ aI (mTi a) ∧ (a 12 = a 0 + 1 → aK 0 12 (mTi a)) := by
  obtain ⟨⟨s0, s14⟩, s3, s2⟩ := hS
  obtain ⟨⟨⟨n7, n10⟩, n8, n11⟩, ⟨n12, n12'⟩, ⟨n13, n13'⟩, n9⟩ := hN
  have h16 := h.1.1
  have hsm := fDo_sm (d := 1) h
  -- the clock
  have k0 : mTi1 a 0 = a 0 + 1 := by rw [mTi1_d, bU_s, inc1_v (by omega)]
  have k1 : ∀ y, y ≠ 0 → mTi1 a y = a y := fun y hy => by rw [mTi1_d, bU_n hy]
  have c1 : vC (mTi1 a) := vC_fr h (vT_st h.1.2 (fun y h5 h6 => k1 y (by omega))) (k1 1 (by omega)) (k1 2 (by omega)) (fun i hi j hj => k1 _ (by omega)) (fun y hy => k1 y (by omega))
  have e11 := k1 1 (by decide)
  have e12 := k1 2 (by decide)
  have e13 := k1 3 (by decide)
  have e114 := k1 14 (by decide)
  have ef : sm (mTi1 a 1) (fDo (mTi1 a) 1) = sm (a 1) (fDo a 1) := by
    rw [e11]
    exact sm_eq _ (fun i hi => fDo_e (k1 _ (by omega)))
  -- arms go on
  obtain ⟨c2, t2, t3, t4, t5⟩ := go_ok (mTi1 a 1) 0 (mTi1 a) (Nat.zero_add _) c1 (by omega) (by omega)
  have d2 : mTi2 a = mGoL (mTi1 a 1) 0 (mTi1 a) := rfl
  rw [← d2] at c2 t2 t3 t4 t5
  rw [Nat.zero_add, ef, e13, show sm 0 (fDo (mTi1 a) 1) = 0 from rfl] at t3
  have e21 := t2 1 (by decide) (by decide) (by decide)
  have e214 := t2 14 (by decide) (by decide) (by decide)
  -- loads are taken
  obtain ⟨c3, u2, i3⟩ := tk_ok (mTi2 a 1) 0 (mTi2 a) (Nat.zero_add _) c2 (fun i hi => absurd hi (Nat.not_lt_zero _))
  have d3 : mTi3 a = mTLo (mTi2 a 1) 0 (mTi2 a) := rfl
  rw [← d3] at c3 u2 i3
  have v3 : ∀ y, y < 100 → y ≠ 0 → y ≠ 2 → y ≠ 3 → mTi3 a y = a y := fun y h1 h2 h3 h4 => ((u2 y h1).trans (t2 y h1 h3 h4)).trans (k1 y h2)
  have v30 : mTi3 a 0 = a 0 + 1 := ((u2 0 (by decide)).trans (t2 0 (by decide) (by decide) (by decide))).trans k0
  have v32 := u2 2 (by decide)
  have v33 := u2 3 (by decide)
  have v314 := v3 14 (by decide) (by decide) (by decide) (by decide)
  have v31 := v3 1 (by decide) (by decide) (by decide) (by decide)
  have v37 := v3 7 (by decide) (by decide) (by decide) (by decide)
  have v38 := v3 8 (by decide) (by decide) (by decide) (by decide)
  have v310 := v3 10 (by decide) (by decide) (by decide) (by decide)
  have v311 := v3 11 (by decide) (by decide) (by decide) (by decide)
  have v312 := v3 12 (by decide) (by decide) (by decide) (by decide)
  have v313 := v3 13 (by decide) (by decide) (by decide) (by decide)
  -- the look within basins
  have L4 : (vC (mTi4 a) ∧ mo (mTi3 a) (mTi4 a)) ∧ ((∀ y, y < 100 → y ≠ 10 → y ≠ 12 → y ≠ 14 → mTi4 a y = mTi3 a y) ∧ a 14 ≤ mTi4 a 14 ∧ mTi4 a 14 ≤ a 14 + 51) ∧ ((a 7 ≤ mTi4 a 10 ∧ mTi4 a 10 ≤ 64) ∧ a 0 + 1 < mTi4 a 12 ∧ mTi4 a 12 ≤ a 0 + 65) ∧ (a 12 = a 0 + 1 → aK 0 12 (mTi4 a)) := by
    by_cases q0 : mTi3 a 0 = mTi3 a 12
    · have eg : mTi4 a = mLb (mTi3 a) := by unfold mTi4; rw [nb_eq.mpr q0]; rfl
      obtain ⟨p1, p2, p3, p4, p5⟩ := lb_ok c3 i3 (by omega)
      have q10 := p2 10 (by decide) (by decide)
      have q7 := p2 7 (by decide) (by decide)
      have q00 := p2 0 (by decide) (by decide)
      have hd : mLb3 (mTi3 a) (5 + (2 + 0)) ≤ mLb3 (mTi3 a) (10 + 0) ∧ mLb3 (mTi3 a) (10 + 0) ≤ 64 := by
        show mLb3 (mTi3 a) 7 ≤ mLb3 (mTi3 a) 10 ∧ mLb3 (mTi3 a) 10 ≤ 64
        omega
      obtain ⟨w1, w2, w3, w4⟩ := mPl_v (fd := i1 (zlt (mTi3 a 14) (mLb3 (mTi3 a) 14))) (lv := 0) (by decide) p1.1.2 hd (by omega)
      obtain ⟨x1, x2⟩ := pl_ok (fd := i1 (zlt (mTi3 a 14) (mLb3 (mTi3 a) 14))) (lv := 0) (by decide) p1 hd (by omega)
      have eb : mLb (mTi3 a) = mPl (mLb3 (mTi3 a)) 0 (i1 (zlt (mTi3 a 14) (mLb3 (mTi3 a) 14))) := rfl
      rw [← eb] at w1 w2 w3 w4 x1 x2
      rw [← eg] at w1 w2 w3 w4 x1 x2
      have w2 : mLb3 (mTi3 a) 7 ≤ mTi4 a 10 ∧ mTi4 a 10 ≤ 64 := w2
      have w3 : mLb3 (mTi3 a) 0 < mTi4 a 12 := w3
      have w4 : mTi4 a 12 ≤ mLb3 (mTi3 a) 0 + 64 := w4
      have w14 := w1 14 (by decide) (by decide)
      exact ⟨⟨x1, mo_tr p4 x2⟩, ⟨fun y h1 h2 h3 h4 => (w1 y h2 h3).trans (p2 y h1 h4), by omega, by omega⟩, ⟨by omega, by omega⟩, fun _ => aK_mo (by decide) x2 p5⟩
    · have eg : mTi4 a = mTi3 a := by unfold mTi4; rw [nb_ne.mpr q0]; rfl
      rw [eg]
      exact ⟨⟨c3, mo_rf⟩, ⟨fun _ _ _ _ _ => rfl, by omega, by omega⟩, ⟨by omega, by omega⟩, fun z => by omega⟩
  obtain ⟨⟨c4, m4⟩, ⟨v4, v414, v414'⟩, ⟨v410, v412⟩, K4⟩ := L4
  have i4 := aI_mo m4 c3.2.1 i3
  have v40 := (v4 0 (by decide) (by decide) (by decide) (by decide)).trans v30
  have v48 := (v4 8 (by decide) (by decide) (by decide) (by decide)).trans v38
  have v411 := (v4 11 (by decide) (by decide) (by decide) (by decide)).trans v311
  have v413 := (v4 13 (by decide) (by decide) (by decide) (by decide)).trans v313
  have m41 := m4.1
  -- the look over the port
  have L5 : (vC (mTi5 a) ∧ mo (mTi4 a) (mTi5 a)) ∧ ((∀ y, y < 100 → y ≠ 11 → y ≠ 13 → y ≠ 14 → mTi5 a y = mTi4 a y) ∧ mTi4 a 14 ≤ mTi5 a 14 ∧ mTi5 a 14 ≤ mTi4 a 14 + 17) ∧ ((a 8 ≤ mTi5 a 11 ∧ mTi5 a 11 ≤ 64) ∧ a 0 + 1 < mTi5 a 13 ∧ mTi5 a 13 ≤ a 0 + 65) := by
    by_cases q0 : mTi4 a 0 = mTi4 a 13
    · have eg : mTi5 a = mLp (mTi4 a) := by unfold mTi5; rw [nb_eq.mpr q0]; rfl
      obtain ⟨p1, p2, p3, p4⟩ := le_ok (a := mTi4 a) (fi := 0) (en := 12) (f := 0) (d := mTi4 a 1) (by decide) (by decide) c4 (by omega)
      have ep : mLp1 (mTi4 a) = mLe 0 12 0 (mTi4 a 1) (mTi4 a) := rfl
      rw [← ep] at p1 p2 p3 p4
      have q11 := p2 11 (by decide) (by decide)
      have q8 := p2 8 (by decide) (by decide)
      have q00 := p2 0 (by decide) (by decide)
      have hd : mLp1 (mTi4 a) (5 + (2 + 1)) ≤ mLp1 (mTi4 a) (10 + 1) ∧ mLp1 (mTi4 a) (10 + 1) ≤ 64 := by
        show mLp1 (mTi4 a) 8 ≤ mLp1 (mTi4 a) 11 ∧ mLp1 (mTi4 a) 11 ≤ 64
        omega
      obtain ⟨w1, w2, w3, w4⟩ := mPl_v (fd := i1 (zlt (mTi4 a 14) (mLp1 (mTi4 a) 14))) (lv := 1) (by decide) p1.1.2 hd (by omega)
      obtain ⟨x1, x2⟩ := pl_ok (fd := i1 (zlt (mTi4 a 14) (mLp1 (mTi4 a) 14))) (lv := 1) (by decide) p1 hd (by omega)
      have eb : mLp (mTi4 a) = mPl (mLp1 (mTi4 a)) 1 (i1 (zlt (mTi4 a 14) (mLp1 (mTi4 a) 14))) := rfl
      rw [← eb] at w1 w2 w3 w4 x1 x2
      rw [← eg] at w1 w2 w3 w4 x1 x2
      have w2 : mLp1 (mTi4 a) 8 ≤ mTi5 a 11 ∧ mTi5 a 11 ≤ 64 := w2
      have w3 : mLp1 (mTi4 a) 0 < mTi5 a 13 := w3
      have w4 : mTi5 a 13 ≤ mLp1 (mTi4 a) 0 + 64 := w4
      have w14 := w1 14 (by decide) (by decide)
      exact ⟨⟨x1, mo_tr p4 x2⟩, ⟨fun y h1 h2 h3 h4 => (w1 y h2 h3).trans (p2 y h1 h4), by omega, by omega⟩, ⟨by omega, by omega⟩⟩
    · have eg : mTi5 a = mTi4 a := by unfold mTi5; rw [nb_ne.mpr q0]; rfl
      rw [eg]
      exact ⟨⟨c4, mo_rf⟩, ⟨fun _ _ _ _ _ => rfl, by omega, by omega⟩, ⟨by omega, by omega⟩⟩
  obtain ⟨⟨c5, m5⟩, ⟨v5, v514, v514'⟩, v511, v513⟩ := L5
  have m51 := m5.1
  -- arms go home
  obtain ⟨c6, w6, w614, m6⟩ := gh_ok (mTi5 a 1) 0 (mTi5 a) (Nat.zero_add _) c5 (by omega)
  have d6 : mTi6 a = mGhL (mTi5 a 1) 0 (mTi5 a) := rfl
  rw [← d6] at c6 w6 w614 m6
  have k6 : ∀ y, y ≠ 4 → mTi a y = mTi6 a y := fun y hy => by rw [mTi_d, bU_n hy]
  have c7 : vC (mTi a) := vC_fr c6 (vT_st c6.1.2 (fun y h5 h6 => k6 y (by omega))) (k6 1 (by omega)) (k6 2 (by omega)) (fun i hi j hj => k6 _ (by omega)) (fun y hy => k6 y (by omega))
  have m7 : mo (mTi6 a) (mTi a) := mo_fr (k6 1 (by omega)) (fun i hi j hj => k6 _ (by omega)) (fun y hy => k6 y (by omega))
  have m47 : mo (mTi4 a) (mTi a) := mo_tr m5 (mo_tr m6 m7)
  have v6 : ∀ y, y < 100 → y ≠ 4 → y ≠ 11 → y ≠ 13 → y ≠ 14 → mTi a y = mTi4 a y := fun y h1 h2 h3 h4 h5 => ((k6 y h2).trans (w6 y h1 h5)).trans (v5 y h1 h3 h4 h5)
  have v7 : ∀ y, y < 100 → y ≠ 4 → y ≠ 10 → y ≠ 11 → y ≠ 12 → y ≠ 13 → y ≠ 14 → mTi a y = mTi3 a y := fun y h1 h2 h3 h4 h5 h6 h7 => (v6 y h1 h2 h4 h6 h7).trans (v4 y h1 h3 h5 h7)
  have f0 := (v7 0 (by decide) (by decide) (by decide) (by decide) (by decide) (by decide) (by decide)).trans v30
  have f1 := (v7 1 (by decide) (by decide) (by decide) (by decide) (by decide) (by decide) (by decide)).trans v31
  have f2 := (v7 2 (by decide) (by decide) (by decide) (by decide) (by decide) (by decide) (by decide)).trans v32
  have f3 := (v7 3 (by decide) (by decide) (by decide) (by decide) (by decide) (by decide) (by decide)).trans v33
  have f7 := (v7 7 (by decide) (by decide) (by decide) (by decide) (by decide) (by decide) (by decide)).trans v37
  have f8 := (v7 8 (by decide) (by decide) (by decide) (by decide) (by decide) (by decide) (by decide)).trans v38
  have f10 := v6 10 (by decide) (by decide) (by decide) (by decide) (by decide)
  have f12 := v6 12 (by decide) (by decide) (by decide) (by decide) (by decide)
  have f11 := (k6 11 (by decide)).trans (w6 11 (by decide) (by decide))
  have f13 := (k6 13 (by decide)).trans (w6 13 (by decide) (by decide))
  have f14 := k6 14 (by decide)
  have f9 := (v7 9 (by decide) (by decide) (by decide) (by decide) (by decide) (by decide) (by decide)).trans (v3 9 (by decide) (by decide) (by decide) (by decide))
  refine ⟨⟨aQ_v c1.2.1, ⟨aQ_v c2.2.1, aL_v c2.2.2.1⟩, ⟨aQ_v c3.2.1, by omega⟩, ⟨aQ_v c4.2.1, by omega⟩, aQ_v c5.2.1, aH_v c5.2.1, by omega⟩, ⟨c7, ⟨⟨by omega, by omega⟩, ⟨by omega, by omega⟩, ⟨by omega, by omega⟩, by omega⟩⟩, ⟨f0, f1, fun y h5 h10 => (v7 y (by omega) (by omega) (by omega) (by omega) (by omega) (by omega) (by omega)).trans (v3 y (by omega) (by omega) (by omega) (by omega))⟩, ⟨by omega, by omega, by omega⟩, ⟨by omega, by omega⟩, aI_mo m47 c4.2.1 i4, fun z => aK_mo (by decide) m47 (K4 z)⟩
/-- ticks pass -/
theorem ps_ok : ∀ (d B : Nat) (a : Nat → Nat), vC a → vN a → vB B a → B + d < 1000000 → WP d a ∧ (vC (mPs d a) ∧ vN (mPs d a) ∧ vB (B + d) (mPs d a)) ∧ (mPs d a 0 = a 0 + d ∧ mPs d a 1 = a 1) ∧ (a 2 ≤ mPs d a 2 ∧ mPs d a 3 ≤ a 3 + d * a 1) ∧ (d ≠ 0 → aI (mPs d a)) := by
  intro d
  induction d with
  | zero => exact fun B a h hN hB _ => ⟨trivial, ⟨h, hN, hB⟩, ⟨rfl, rfl⟩, ⟨Nat.le_refl _, by show a 3 ≤ a 3 + 0 * a 1; omega⟩, fun z => absurd rfl z⟩
  | succ d IH =>
    intro B a h hN hB hd
    obtain ⟨⟨b0, b2⟩, b3, b14⟩ := hB
    obtain ⟨g1, ⟨g2, g3⟩, ⟨g4, g5, -⟩, ⟨g6, g7, g8⟩, ⟨g9, g10⟩, g11, -⟩ := ti_ok h hN ⟨⟨by omega, by omega⟩, by omega, b2⟩
    have hsm := fDo_sm (d := 1) h
    have h16 := h.1.1
    obtain ⟨i1, ⟨i2, i3, i4⟩, ⟨i5, i6⟩, ⟨i7, i8⟩, i9⟩ := IH (B + 1) (mTi a) g2 g3 ⟨⟨by omega, by omega⟩, by omega, by omega⟩ (by omega)
    rw [show B + 1 + d = B + (d + 1) by omega] at i4
    refine ⟨⟨g1, i1⟩, ⟨i2, i3, i4⟩, ⟨?_, i6.trans g5⟩, ⟨Nat.le_trans g7 i7, ?_⟩, fun _ => ?_⟩
    · show mPs d (mTi a) 0 = _
      omega
    · show mPs d (mTi a) 3 ≤ _
      rw [g5] at i8
      rw [Nat.succ_mul]
      omega
    · by_cases z : d = 0
      · rw [z]
        exact g11
      · exact i9 z
end VU
