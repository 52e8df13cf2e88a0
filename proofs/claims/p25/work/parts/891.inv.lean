/-! ===== what holds of a harbour; one arm's step ===== -/
theorem sm_ch {k : Nat} {f g : Nat → Nat} : ∀ n, k < n → (∀ i, i < n → i ≠ k → f i = g i) → sm n f + g k = sm n g + f k
  | 0, h, _ => absurd h (Nat.not_lt_zero _)
  | n + 1, h, e => by
    show sm n f + f n + g k = sm n g + g n + f k
    by_cases q : k = n
    · have h2 : sm n f = sm n g := by
        have hh : ∀ j, j ≤ n → sm j f = sm j g := by
          intro j
          induction j with
          | zero => exact fun _ => rfl
          | succ j ih =>
            intro hj
            show sm j f + f j = sm j g + g j
            rw [ih (by omega), e j (by omega) (by omega)]
        exact hh n (Nat.le_refl n)
      rw [h2, q]
      omega
    · have h2 := sm_ch n (by omega) (fun i hi => e i (by omega))
      have h3 := e n (by omega) (fun z => q z.symm)
      omega
theorem sm_eq {f g : Nat → Nat} : ∀ n, (∀ i, i < n → f i = g i) → sm n f = sm n g
  | 0, _ => rfl
  | n + 1, e => by
    show sm n f + f n = sm n g + g n
    rw [sm_eq n (fun i hi => e i (by omega)), e n (by omega)]
theorem sm_ge {f : Nat → Nat} {k : Nat} : ∀ n, k < n → f k ≤ sm n f
  | 0, h => absurd h (Nat.not_lt_zero _)
  | n + 1, h => by
    show f k ≤ sm n f + f n
    by_cases q : k = n
    · rw [q]
      exact Nat.le_add_left _ _
    · exact Nat.le_trans (sm_ge n (by omega)) (Nat.le_add_right _ _)
/-- quays at which an arm helps, loads done at a quay, loads that an arm did -/
def fDn (a : Nat → Nat) (q : Nat) : Nat := a (300 + 30 * q + 1)
def fLd (a : Nat → Nat) (i : Nat) : Nat := a (100 + 8 * i + 5)
def vA (a : Nat → Nat) : Prop := ∀ i, i < a 1 → (a (100 + 8 * i + 0) < 12 ∧ a (100 + 8 * i + 1) < 12 ∧ a (100 + 8 * i + 4) < 2) ∧ (a (100 + 8 * i + 2) ≤ 2 ∧ a (100 + 8 * i + 3) ≤ 99) ∧ (a (100 + 8 * i + 2) = 0 ↔ a (100 + 8 * i + 3) = 0)
def vL (a : Nat → Nat) : Prop := ∀ q, q < 12 → (a (300 + 30 * q + 0) ≤ 9 ∧ a (300 + 30 * q + 2) = sm (a 1) (fAt a q 2)) ∧ ∀ j, j < a (300 + 30 * q + 0) → 1 ≤ a (303 + 30 * q + j) ∧ a (303 + 30 * q + j) ≤ 99
def vD (a : Nat → Nat) : Prop := sm 12 (fDn a) = a 2 ∧ sm (a 1) (fLd a) ≤ a 2
def vT (a : Nat → Nat) : Prop := (1 ≤ a 5 ∧ a 5 ≤ 50) ∧ (1 ≤ a 6 ∧ a 6 ≤ 50) ∧ (1 ≤ a 7 ∧ a 7 ≤ 64) ∧ (1 ≤ a 8 ∧ a 8 ≤ 64)
def vC (a : Nat → Nat) : Prop := (a 1 ≤ 16 ∧ vT a) ∧ vA a ∧ vL a ∧ vD a
/-- numbers small enough -/
def vB (B : Nat) (a : Nat → Nat) : Prop := (a 0 ≤ B ∧ a 2 ≤ a 3) ∧ (a 3 ≤ 17 * B ∧ a 14 ≤ 100 * B)
section VS
variable {a c : Nat → Nat} {k q : Nat}
/-- arms but k, quays but q stay as they are -/
def aS (a c : Nat → Nat) (k q : Nat) : Prop := (∀ i, i ≠ k → ∀ j, j < 8 → i < 17 → c (100 + 8 * i + j) = a (100 + 8 * i + j)) ∧ ∀ r, r < 12 → r ≠ q → ∀ j, j < 12 → c (300 + 30 * r + j) = a (300 + 30 * r + j)
theorem fAt_e {r d i : Nat} (h1 : c (100 + 8 * i + 1) = a (100 + 8 * i + 1)) (h2 : c (100 + 8 * i + 2) = a (100 + 8 * i + 2)) : fAt c r d i = fAt a r d i := by
  unfold fAt
  rw [h1, h2]
theorem fAt_0 {r d i : Nat} (h : a (100 + 8 * i + 2) ≠ d) : fAt a r d i = 0 := by
  unfold fAt
  rw [nb_ne.mpr h, Bool.and_false]
  rfl
theorem fAt_0q {r d i : Nat} (h : a (100 + 8 * i + 1) ≠ r) : fAt a r d i = 0 := by
  unfold fAt
  rw [nb_ne.mpr h]
  rfl
theorem fAt_1 {r d i : Nat} (h1 : a (100 + 8 * i + 1) = r) (h2 : a (100 + 8 * i + 2) = d) : fAt a r d i = 1 := by
  unfold fAt
  rw [nb_eq.mpr h1, nb_eq.mpr h2]
  rfl
theorem vA_st (h : vA a) (h17 : a 1 ≤ 17) (h1 : c 1 = a 1) (hS : aS a c k q) (hk : k < a 1 → (c (100 + 8 * k + 0) < 12 ∧ c (100 + 8 * k + 1) < 12 ∧ c (100 + 8 * k + 4) < 2) ∧ (c (100 + 8 * k + 2) ≤ 2 ∧ c (100 + 8 * k + 3) ≤ 99) ∧ (c (100 + 8 * k + 2) = 0 ↔ c (100 + 8 * k + 3) = 0)) : vA c := by
  intro i hi
  rw [h1] at hi
  by_cases e : i = k
  · rw [e] at hi ⊢
    exact hk hi
  · rw [hS.1 i e 0 (by decide) (by omega), hS.1 i e 1 (by decide) (by omega), hS.1 i e 2 (by decide) (by omega), hS.1 i e 3 (by decide) (by omega), hS.1 i e 4 (by decide) (by omega)]
    exact h i hi
theorem vL_st (h : vL a) (h17 : a 1 ≤ 17) (h1 : c 1 = a 1) (hS : aS a c k q) (hk : k < a 1) (hz : ∀ r, r < 12 → r ≠ q → fAt c r 2 k = fAt a r 2 k) (hq : q < 12 → (c (300 + 30 * q + 0) ≤ 9 ∧ c (300 + 30 * q + 2) + fAt a q 2 k = a (300 + 30 * q + 2) + fAt c q 2 k) ∧ ∀ j, j < c (300 + 30 * q + 0) → 1 ≤ c (303 + 30 * q + j) ∧ c (303 + 30 * q + j) ≤ 99) : vL c := by
  have hs : ∀ r, sm (c 1) (fAt c r 2) + fAt a r 2 k = sm (a 1) (fAt a r 2) + fAt c r 2 k := fun r => by
    rw [h1]
    exact sm_ch (a 1) hk (fun i hi e => fAt_e (hS.1 i e 1 (by decide) (by omega)) (hS.1 i e 2 (by decide) (by omega)))
  intro r hr
  obtain ⟨⟨l0, l2⟩, lw⟩ := h r hr
  have hsr := hs r
  by_cases e : r = q
  · rw [e] at hr hsr l2 ⊢
    obtain ⟨⟨d0, d2⟩, dw⟩ := hq hr
    exact ⟨⟨d0, by omega⟩, dw⟩
  · have z := hz r hr e
    have e0 := hS.2 r hr e 0 (by decide)
    have e2 := hS.2 r hr e 2 (by decide)
    rw [e0, e2]
    refine ⟨⟨l0, by omega⟩, fun j hj => ?_⟩
    have e3 := hS.2 r hr e (3 + j) (by omega)
    rw [show 303 + 30 * r + j = 300 + 30 * r + (3 + j) by omega, e3, show 300 + 30 * r + (3 + j) = 303 + 30 * r + j by omega]
    exact lw j hj
theorem vD_st (h : vD a) (h17 : a 1 ≤ 17) (h1 : c 1 = a 1) (hS : aS a c k q) (hk : k < a 1) (hq : q < 12) (hd : c (300 + 30 * q + 1) + a 2 = a (300 + 30 * q + 1) + c 2) (he : c (100 + 8 * k + 5) + a 2 = a (100 + 8 * k + 5) + c 2) : vD c := by
  have s1 : sm 12 (fDn c) + fDn a q = sm 12 (fDn a) + fDn c q := sm_ch 12 hq (fun r hr e => hS.2 r hr e 1 (by decide))
  have s2 : sm (a 1) (fLd c) + fLd a k = sm (a 1) (fLd a) + fLd c k := sm_ch (a 1) hk (fun i hi e => hS.1 i e 5 (by decide) (by omega))
  obtain ⟨d1, d2⟩ := h
  have w1 : fDn a q = a (300 + 30 * q + 1) := rfl
  have w2 : fDn c q = c (300 + 30 * q + 1) := rfl
  have w3 : fLd a k = a (100 + 8 * k + 5) := rfl
  have w4 : fLd c k = c (100 + 8 * k + 5) := rfl
  unfold vD
  rw [h1]
  omega
theorem vT_st (h : vT a) (h5 : ∀ y, 5 ≤ y → y < 9 → c y = a y) : vT c := by
  unfold vT
  rw [h5 5 (by decide) (by decide), h5 6 (by decide) (by decide), h5 7 (by decide) (by decide), h5 8 (by decide) (by decide)]
  exact h
theorem inc1_v {x : Nat} (h : x < 4294967295) : inc1 x = x + 1 := Nat.mod_eq_of_lt (by omega)
theorem dec1_v {x : Nat} (h : 0 < x) (h2 : x < 4294967296) : dec1 x = x - 1 := by
  have : dec1 x = (x + 4294967296 - 1) % 4294967296 := rfl
  omega
/-- one tick less on a way -/
theorem vC_way (h : vC a) (hk : k < a 1) (h2 : a (100 + 8 * k + 2) = 2) : vC (mWay a k) ∧ (∀ y, y < 100 → mWay a k y = a y) ∧ aS a (mWay a k) k (a (100 + 8 * k + 1)) ∧ (mWay a k (100 + 8 * k + 2) = 0 ∨ mWay a k (100 + 8 * k + 2) = 2) ∧ ∀ q, q < 12 → mWay a k (300 + 30 * q + 0) = a (300 + 30 * q + 0) := by
  obtain ⟨⟨h16, hT⟩, hA, hL, hD⟩ := h
  obtain ⟨⟨a0, a1, a4⟩, ⟨a2, a3⟩, ai⟩ := hA k hk
  obtain ⟨q, eq⟩ : ∃ q, q = a (100 + 8 * k + 1) := ⟨_, rfl⟩
  rw [← eq] at a1 ⊢
  have hl0 : a (100 + 8 * k + 3) ≠ 0 := fun z => by have := ai.mpr z; omega
  have f1 := fAt_1 (a := a) (i := k) eq.symm h2
  obtain ⟨⟨l0, l2⟩, lw⟩ := hL q a1
  have hge : 1 ≤ a (300 + 30 * q + 2) := by
    rw [l2]
    exact Nat.le_trans (Nat.le_of_eq f1.symm) (sm_ge _ hk)
  have hsm : a (300 + 30 * q + 2) ≤ 17 := by
    rw [l2]
    exact Nat.le_trans (sm_le (fun i => i1_le) _) (by omega)
  have d3 : mWay1 a k (100 + 8 * k + 3) = a (100 + 8 * k + 3) - 1 := by rw [mWay1_d, bU_s, dec1_v (by omega) (by omega)]
  by_cases z : a (100 + 8 * k + 3) = 1
  · have e0 : mWay a k = mWay3 (mWay2 (mWay1 a k) k) q := by
      unfold mWay
      rw [nb_eq.mpr (show mWay1 a k (100 + 8 * k + 3) = 0 by omega), cond_true, mWay2_n (by omega), mWay1_n (by omega), ← eq]
    have ec : mWay a k (300 + 30 * q + 2) = a (300 + 30 * q + 2) - 1 := by
      rw [e0, mWay3_d, bU_s, mWay2_n (by omega), mWay1_n (by omega), dec1_v (by omega) (by omega)]
    have e2 : mWay a k (100 + 8 * k + 2) = 0 := by rw [e0, mWay3_d, bU_n (by omega), mWay2_d, bU_s]
    have e3 : mWay a k (100 + 8 * k + 3) = 0 := by rw [e0, mWay3_d, bU_n (by omega), mWay2_n (by omega), d3, z]
    have en : ∀ y, y ≠ 100 + 8 * k + 2 → y ≠ 100 + 8 * k + 3 → y ≠ 300 + 30 * q + 2 → mWay a k y = a y := fun y h1 h2 h3 => by
      rw [e0, mWay3_d, bU_n h3, mWay2_n h1, mWay1_n h2]
    have hS : aS a (mWay a k) k q := ⟨fun i hi j hj h17 => en _ (by omega) (by omega) (by omega), fun r hr hrq j hj => en _ (by omega) (by omega) (by omega)⟩
    have h1 := en 1 (by omega) (by omega) (by omega)
    refine ⟨⟨⟨by omega, vT_st hT (fun y h5 h6 => en y (by omega) (by omega) (by omega))⟩, vA_st hA (by omega) h1 hS (fun _ => ?_), vL_st hL (by omega) h1 hS hk (fun r hr hrq => ?_) (fun _ => ?_), vD_st hD (by omega) h1 hS hk a1 ?_ ?_⟩, fun y hy => en y (by omega) (by omega) (by omega), hS, Or.inl e2, fun r hr => en _ (by omega) (by omega) (by omega)⟩
    · rw [en _ (by omega) (by omega) (by omega), en (100 + 8 * k + 1) (by omega) (by omega) (by omega), en (100 + 8 * k + 4) (by omega) (by omega) (by omega), e2, e3, ← eq]
      exact ⟨⟨a0, a1, a4⟩, ⟨by decide, by decide⟩, Iff.rfl⟩
    · rw [fAt_0 (by omega), fAt_0q (by omega)]
    · rw [en (300 + 30 * q + 0) (by omega) (by omega) (by omega), ec, f1, fAt_0 (by omega)]
      refine ⟨⟨l0, by omega⟩, fun j hj => ?_⟩
      rw [en _ (by omega) (by omega) (by omega)]
      exact lw j hj
    · rw [en _ (by omega) (by omega) (by omega), en 2 (by omega) (by omega) (by omega)]
    · rw [en _ (by omega) (by omega) (by omega), en 2 (by omega) (by omega) (by omega)]
  · have e0 : mWay a k = mWay1 a k := by
      unfold mWay
      rw [nb_ne.mpr (show mWay1 a k (100 + 8 * k + 3) ≠ 0 by omega), cond_false]
    have en : ∀ y, y ≠ 100 + 8 * k + 3 → mWay a k y = a y := fun y h1 => by rw [e0, mWay1_n h1]
    have e3 : mWay a k (100 + 8 * k + 3) = a (100 + 8 * k + 3) - 1 := by rw [e0, d3]
    have hS : aS a (mWay a k) k q := ⟨fun i hi j hj h17 => en _ (by omega), fun r hr hrq j hj => en _ (by omega)⟩
    have h1 := en 1 (by omega)
    have e2 : mWay a k (100 + 8 * k + 2) = 2 := (en _ (by omega)).trans h2
    have fe : ∀ r, fAt (mWay a k) r 2 k = fAt a r 2 k := fun r => fAt_e (en _ (by omega)) (en _ (by omega))
    refine ⟨⟨⟨by omega, vT_st hT (fun y h5 h6 => en y (by omega))⟩, vA_st hA (by omega) h1 hS (fun _ => ?_), vL_st hL (by omega) h1 hS hk (fun r _ _ => fe r) (fun _ => ?_), vD_st hD (by omega) h1 hS hk a1 ?_ ?_⟩, fun y hy => en y (by omega), hS, Or.inr e2, fun r hr => en _ (by omega)⟩
    · rw [en _ (by omega), en (100 + 8 * k + 1) (by omega), en (100 + 8 * k + 4) (by omega), e2, e3, ← eq]
      exact ⟨⟨a0, a1, a4⟩, ⟨by decide, by omega⟩, ⟨fun h => absurd h (by decide), fun h => by omega⟩⟩
    · rw [en (300 + 30 * q + 0) (by omega), en (300 + 30 * q + 2) (by omega), fe]
      refine ⟨⟨l0, rfl⟩, fun j hj => ?_⟩
      rw [en _ (by omega)]
      exact lw j hj
    · rw [en _ (by omega), en 2 (by omega)]
    · rw [en _ (by omega), en 2 (by omega)]
/-- one unit of work -/
theorem vC_wk (h : vC a) (hk : k < a 1) (h2 : a (100 + 8 * k + 2) = 1) (hb : a 2 < 4294967295 ∧ a 3 < 4294967295) : vC (mWk a k) ∧ ((∀ y, y < 100 → y ≠ 2 → y ≠ 3 → mWk a k y = a y) ∧ mWk a k 3 = a 3 + 1 ∧ a 2 ≤ mWk a k 2 ∧ mWk a k 2 ≤ a 2 + 1) ∧ aS a (mWk a k) k (a (100 + 8 * k + 1)) ∧ (mWk a k (100 + 8 * k + 2) = 0 ∨ mWk a k (100 + 8 * k + 2) = 1) ∧ ∀ q, q < 12 → mWk a k (300 + 30 * q + 0) = a (300 + 30 * q + 0) := by
  obtain ⟨⟨h16, hT⟩, hA, hL, hD⟩ := h
  obtain ⟨⟨a0, a1, a4⟩, ⟨a2, a3⟩, ai⟩ := hA k hk
  obtain ⟨q, eq⟩ : ∃ q, q = a (100 + 8 * k + 1) := ⟨_, rfl⟩
  rw [← eq] at a1 ⊢
  have hl0 : a (100 + 8 * k + 3) ≠ 0 := fun z => by have := ai.mpr z; omega
  obtain ⟨⟨l0, l2⟩, lw⟩ := hL q a1
  have hq2 : a (300 + 30 * q + 1) ≤ a 2 := by
    rw [← hD.1]
    exact sm_ge (f := fDn a) 12 a1
  have hk2 : a (100 + 8 * k + 5) ≤ a 2 := Nat.le_trans (sm_ge (f := fLd a) _ hk) hD.2
  have d3 : mWk1 a k (100 + 8 * k + 3) = a (100 + 8 * k + 3) - 1 := by rw [mWk1_d, bU_n (by omega), mWay1_d, bU_s, dec1_v (by omega) (by omega)]
  have w3 : mWk1 a k 3 = a 3 + 1 := by rw [mWk1_d, bU_s, mWay1_n (by omega), inc1_v (by omega)]
  have fz : ∀ r, fAt a r 2 k = 0 := fun r => fAt_0 (by omega)
  by_cases z : a (100 + 8 * k + 3) = 1
  · have e0 : mWk a k = mWk4 (mWk3 (mWk2 (mWk1 a k) k) q) := by
      unfold mWk
      rw [nb_eq.mpr (show mWk1 a k (100 + 8 * k + 3) = 0 by omega), cond_true, mWk2_n (by omega) (by omega), mWk1_n (by omega) (by omega), ← eq]
    have en : ∀ y, y ≠ 2 → y ≠ 3 → y ≠ 100 + 8 * k + 2 → y ≠ 100 + 8 * k + 3 → y ≠ 100 + 8 * k + 5 → y ≠ 300 + 30 * q + 1 → mWk a k y = a y := fun y h1 h2 h3 h4 h5 h6 => by
      rw [e0, mWk4_d, bU_n h1, mWk3_d, bU_n h6, mWk2_n h3 h5, mWk1_n h4 h2]
    have e2 : mWk a k (100 + 8 * k + 2) = 0 := by rw [e0, mWk4_d, bU_n (by omega), mWk3_d, bU_n (by omega), mWk2_d, bU_n (by omega), mWay2_d, bU_s]
    have e3 : mWk a k (100 + 8 * k + 3) = 0 := by rw [e0, mWk4_d, bU_n (by omega), mWk3_d, bU_n (by omega), mWk2_n (by omega) (by omega), d3, z]
    have e5 : mWk a k (100 + 8 * k + 5) = a (100 + 8 * k + 5) + 1 := by rw [e0, mWk4_d, bU_n (by omega), mWk3_d, bU_n (by omega), mWk2_d, bU_s, mWay2_n (by omega), mWk1_n (by omega) (by omega), inc1_v (by omega)]
    have eq1 : mWk a k (300 + 30 * q + 1) = a (300 + 30 * q + 1) + 1 := by rw [e0, mWk4_d, bU_n (by omega), mWk3_d, bU_s, mWk2_n (by omega) (by omega), mWk1_n (by omega) (by omega), inc1_v (by omega)]
    have g2 : mWk a k 2 = a 2 + 1 := by rw [e0, mWk4_d, bU_s, mWk3_d, bU_n (by omega), mWk2_n (by omega) (by omega), mWk1_n (by omega) (by omega), inc1_v (by omega)]
    have g3 : mWk a k 3 = a 3 + 1 := by rw [e0, mWk4_d, bU_n (by omega), mWk3_d, bU_n (by omega), mWk2_n (by omega) (by omega), w3]
    have hS : aS a (mWk a k) k q := ⟨fun i hi j hj h17 => en _ (by omega) (by omega) (by omega) (by omega) (by omega) (by omega), fun r hr hrq j hj => en _ (by omega) (by omega) (by omega) (by omega) (by omega) (by omega)⟩
    have h1 := en 1 (by omega) (by omega) (by omega) (by omega) (by omega) (by omega)
    refine ⟨⟨⟨by omega, vT_st hT (fun y h5 h6 => en y (by omega) (by omega) (by omega) (by omega) (by omega) (by omega))⟩, vA_st hA (by omega) h1 hS (fun _ => ?_), vL_st hL (by omega) h1 hS hk (fun r hr hrq => ?_) (fun _ => ?_), vD_st hD (by omega) h1 hS hk a1 (by omega) (by omega)⟩, ⟨fun y hy z2 z3 => en y z2 z3 (by omega) (by omega) (by omega) (by omega), g3, by omega, by omega⟩, hS, Or.inl e2, fun r hr => en _ (by omega) (by omega) (by omega) (by omega) (by omega) (by omega)⟩
    · rw [en (100 + 8 * k + 0) (by omega) (by omega) (by omega) (by omega) (by omega) (by omega), en (100 + 8 * k + 1) (by omega) (by omega) (by omega) (by omega) (by omega) (by omega), en (100 + 8 * k + 4) (by omega) (by omega) (by omega) (by omega) (by omega) (by omega), e2, e3, ← eq]
      exact ⟨⟨a0, a1, a4⟩, ⟨by decide, by decide⟩, Iff.rfl⟩
    · rw [fz, fAt_0 (by omega)]
    · rw [en (300 + 30 * q + 0) (by omega) (by omega) (by omega) (by omega) (by omega) (by omega), en (300 + 30 * q + 2) (by omega) (by omega) (by omega) (by omega) (by omega) (by omega), fz, fAt_0 (by omega)]
      refine ⟨⟨l0, rfl⟩, fun j hj => ?_⟩
      rw [en _ (by omega) (by omega) (by omega) (by omega) (by omega) (by omega)]
      exact lw j hj
  · have e0 : mWk a k = mWk1 a k := by
      unfold mWk
      rw [nb_ne.mpr (show mWk1 a k (100 + 8 * k + 3) ≠ 0 by omega), cond_false]
    have en : ∀ y, y ≠ 3 → y ≠ 100 + 8 * k + 3 → mWk a k y = a y := fun y h1 h2 => by rw [e0, mWk1_n h2 h1]
    have e3 : mWk a k (100 + 8 * k + 3) = a (100 + 8 * k + 3) - 1 := by rw [e0, d3]
    have hS : aS a (mWk a k) k q := ⟨fun i hi j hj h17 => en _ (by omega) (by omega), fun r hr hrq j hj => en _ (by omega) (by omega)⟩
    have h1 := en 1 (by omega) (by omega)
    have g2 := en 2 (by omega) (by omega)
    have e2 : mWk a k (100 + 8 * k + 2) = 1 := (en _ (by omega) (by omega)).trans h2
    have fe : ∀ r, fAt (mWk a k) r 2 k = fAt a r 2 k := fun r => fAt_e (en _ (by omega) (by omega)) (en _ (by omega) (by omega))
    refine ⟨⟨⟨by omega, vT_st hT (fun y h5 h6 => en y (by omega) (by omega))⟩, vA_st hA (by omega) h1 hS (fun _ => ?_), vL_st hL (by omega) h1 hS hk (fun r _ _ => fe r) (fun _ => ?_), vD_st hD (by omega) h1 hS hk a1 ?_ ?_⟩, ⟨fun y hy z2 z3 => en y z3 (by omega), by rw [e0, w3], by omega, by omega⟩, hS, Or.inr e2, fun r hr => en _ (by omega) (by omega)⟩
    · rw [en _ (by omega) (by omega), en (100 + 8 * k + 1) (by omega) (by omega), en (100 + 8 * k + 4) (by omega) (by omega), e2, e3, ← eq]
      exact ⟨⟨a0, a1, a4⟩, ⟨by decide, by omega⟩, ⟨fun h => absurd h (by decide), fun h => by omega⟩⟩
    · rw [en (300 + 30 * q + 0) (by omega) (by omega), en (300 + 30 * q + 2) (by omega) (by omega), fe]
      refine ⟨⟨l0, rfl⟩, fun j hj => ?_⟩
      rw [en _ (by omega) (by omega)]
      exact lw j hj
    · rw [en _ (by omega) (by omega), g2]
    · rw [en _ (by omega) (by omega), g2]
end VS
