/-! ===== arrays of a block are written, in passing style ===== -/
theorem kS_o : ((bKd 3 = 7 ∧ bLn 3 = 5) ∧ (bKd 4 = 7 ∧ bLn 4 = 2) ∧ (bKd 5 = 7 ∧ bLn 5 = 2)) ∧ (bKd 6 = 4 ∧ bLn 6 = 2) ∧ (bKd 7 = 7 ∧ bLn 7 = 80) := by decide
section BD
variable {sc : List Nat} {Q : Nat → zM → Prop} {frs : gCf} {i pc w pc2 : Nat} {ls st : List Nat} {m m0 : zM} {b : Nat} {p a : Nat → Nat}
theorem h_ast2 {r n j v : Nat} {f : Nat → Nat} (hw : zI i pc = w) (ho : zop w = 27 ∧ pc + 1 = pc2) (hz : zAt m r = some (7, n, f)) (hj : j < n) (hn : n < 2147483648) (hv : v < 4294967296) (g : gFin sc Q frs i pc2 ls st (m.set (r - 4294967297) (7, n, zUp f j v))) : gFin sc Q frs i pc ls (v :: j :: r :: st) m := h_ast hw ho hz hj hn hv rfl g
/-- what the other slots stand for, when a number below 15 changes -/
theorem bC_low {o j x o' j' : Nat} (h17 : a 1 ≤ 17) (ho' : o' < 61) (hj' : j' < bLn o') (hne : ¬ (o' = o ∧ j' = j)) (hx : (o = 3 ∧ x = 5 + j ∧ j < 5) ∨ (o = 4 ∧ x = 10 + j ∧ j < 2) ∨ (o = 5 ∧ x = 12 + j ∧ j < 2) ∨ (o = 6 ∧ x = 14 ∧ j = 1)) : bC p a o' j' x := by
  obtain ⟨l0, l3, l4, l5, l6, la, ll, lw⟩ := bLn_b ho' hj'
  have hx15 : 5 ≤ x ∧ x < 15 := by omega
  refine ⟨fun e => ⟨fun e4 => ?_, fun e4 => ?_⟩, fun e => ?_, fun e => ?_, fun e => ?_, fun e e4 => ?_, fun e e4 k h6 h7 => ?_, fun e e4 e5 => ?_, fun e e4 => ?_⟩
  · omega
  · have := l0 e
    omega
  · have := l3 e
    omega
  · have := l4 e
    omega
  · have := l5 e
    omega
  · have := l6 e
    omega
  · omega
  · omega
  · omega
theorem s_astS {j v : Nat} (hw : zI i pc = w) (ho : zop w = 27 ∧ pc + 1 = pc2) (hS : bS b p a m0 m) (hj : j < 5) (hv : v < 4294967296) (g : ∀ m', bS b p (bU a (5 + j) v) m0 m' → gFin sc Q frs i pc2 ls st m') : gFin sc Q frs i pc ls (v :: j :: bR b 3 :: st) m := by
  obtain ⟨f, h1, h2⟩ := hS.1 3 (by decide)
  have hz : zAt m (bR b 3) = some (7, 5, f) := by rw [zAt_b hS.2.1.2.2 (by decide)]; exact h1
  refine h_ast2 hw ho hz hj (by decide) hv (g _ ?_)
  rw [bR_sub]
  refine bS_set (o := 3) hS (by decide) h1 (by omega) hv ?_ (fun o' j' e1 e2 e3 => bC_low hS.2.1.2.1.2 e1 e2 e3 (Or.inl ⟨rfl, rfl, hj⟩))
  unfold bV
  rw [if_neg (by decide), if_neg (by decide), if_neg (by decide), if_pos rfl, bU_s]
theorem s_astD {j v : Nat} (hw : zI i pc = w) (ho : zop w = 27 ∧ pc + 1 = pc2) (hS : bS b p a m0 m) (hj : j < 2) (hv : v < 4294967296) (g : ∀ m', bS b p (bU a (10 + j) v) m0 m' → gFin sc Q frs i pc2 ls st m') : gFin sc Q frs i pc ls (v :: j :: bR b 4 :: st) m := by
  obtain ⟨f, h1, h2⟩ := hS.1 4 (by decide)
  have hz : zAt m (bR b 4) = some (7, 2, f) := by rw [zAt_b hS.2.1.2.2 (by decide)]; exact h1
  refine h_ast2 hw ho hz hj (by decide) hv (g _ ?_)
  rw [bR_sub]
  refine bS_set (o := 4) hS (by decide) h1 (by omega) hv ?_ (fun o' j' e1 e2 e3 => bC_low hS.2.1.2.1.2 e1 e2 e3 (Or.inr (Or.inl ⟨rfl, rfl, hj⟩)))
  unfold bV
  rw [if_neg (by decide), if_neg (by decide), if_neg (by decide), if_neg (by decide), if_pos rfl, bU_s]
theorem s_astN {j v : Nat} (hw : zI i pc = w) (ho : zop w = 27 ∧ pc + 1 = pc2) (hS : bS b p a m0 m) (hj : j < 2) (hv : v < 4294967296) (g : ∀ m', bS b p (bU a (12 + j) v) m0 m' → gFin sc Q frs i pc2 ls st m') : gFin sc Q frs i pc ls (v :: j :: bR b 5 :: st) m := by
  obtain ⟨f, h1, h2⟩ := hS.1 5 (by decide)
  have hz : zAt m (bR b 5) = some (7, 2, f) := by rw [zAt_b hS.2.1.2.2 (by decide)]; exact h1
  refine h_ast2 hw ho hz hj (by decide) hv (g _ ?_)
  rw [bR_sub]
  refine bS_set (o := 5) hS (by decide) h1 (by omega) hv ?_ (fun o' j' e1 e2 e3 => bC_low hS.2.1.2.1.2 e1 e2 e3 (Or.inr (Or.inr (Or.inl ⟨rfl, rfl, hj⟩))))
  unfold bV
  rw [if_neg (by decide), if_neg (by decide), if_neg (by decide), if_neg (by decide), if_neg (by decide), if_pos rfl, bU_s]
/-- the ways' number -/
theorem s_putG {v : Nat} (hw : zI i pc = w) (ho : ((zop w = 23 ∧ pc + 3 = pc2) ∧ zb w = 4) ∧ zc w = 1) (hS : bS b p a m0 m) (hv : v < 4294967296) (g : ∀ m', bS b p (bU a 14 v) m0 m' → gFin sc Q frs i pc2 ls st m') : gFin sc Q frs i pc ls (v :: bR b 6 :: st) m := by
  obtain ⟨f, h1, h2⟩ := hS.1 6 (by decide)
  obtain ⟨⟨h3, h4⟩, h5⟩ := ho
  have hz : zAt m (bR b 6) = some (4, 2, f) := by rw [zAt_b hS.2.1.2.2 (by decide)]; exact h1
  have hk : zOkV (zTag (zTy (zb w) (zc w))) v = true := by
    rw [h4, h5]
    exact decide_eq_true hv
  refine h_put hw ⟨h3, h4.symm, by omega⟩ hk hz rfl (g _ ?_)
  rw [bR_sub, h5]
  refine bS_set (o := 6) hS (by decide) h1 (by omega) hv ?_ (fun o' j' e1 e2 e3 => bC_low hS.2.1.2.1.2 e1 e2 e3 (Or.inr (Or.inr (Or.inr ⟨rfl, rfl, rfl⟩))))
  unfold bV
  rw [if_neg (by decide), if_neg (by decide), if_neg (by decide), if_neg (by decide), if_neg (by decide), if_neg (by decide), if_pos rfl, if_neg (by decide), bU_s]
/-- the log's facts, and when a load came: nothing here speaks of them -/
theorem s_astF {j v : Nat} (hw : zI i pc = w) (ho : zop w = 27 ∧ pc + 1 = pc2) (hS : bS b p a m0 m) (hj : j < 80) (hv : v < 4294967296) (g : ∀ m', bS b p a m0 m' → gFin sc Q frs i pc2 ls st m') : gFin sc Q frs i pc ls (v :: j :: bR b 7 :: st) m := by
  obtain ⟨f, h1, h2⟩ := hS.1 7 (by decide)
  have hz : zAt m (bR b 7) = some (7, 80, f) := by rw [zAt_b hS.2.1.2.2 (by decide)]; exact h1
  refine h_ast2 hw ho hz hj (by decide) hv (g _ ?_)
  rw [bR_sub]
  refine bS_set0 (o := 7) hS (by decide) h1 ?_
  unfold bV
  rw [if_neg (by decide), if_neg (by decide), if_neg (by decide), if_neg (by decide), if_neg (by decide), if_neg (by decide), if_neg (by decide), if_pos rfl]
  exact hv
theorem s_astC {q j v : Nat} (hw : zI i pc = w) (ho : zop w = 27 ∧ pc + 1 = pc2) (hS : bS b p a m0 m) (hq : q < 12) (hj : j < 9) (hv : v < 4294967296) (g : ∀ m', bS b p a m0 m' → gFin sc Q frs i pc2 ls st m') : gFin sc Q frs i pc ls (v :: j :: bR b (25 + 3 * q + 2) :: st) m := by
  obtain ⟨f, h1, h2⟩ := hS.1 (25 + 3 * q + 2) (by omega)
  obtain ⟨-, -, k1, k2⟩ := kL_o (q := q)
  have hz : zAt m (bR b (25 + 3 * q + 2)) = some (7, 9, f) := by rw [zAt_b hS.2.1.2.2 (by omega), h1, k1, k2]
  refine h_ast2 hw ho hz hj (by decide) hv (g _ ?_)
  rw [bR_sub]
  have hs := bS_set0 (o := 25 + 3 * q + 2) (j := j) (v := v) hS (by omega) h1 (by
    unfold bV
    rw [if_neg (by omega), if_neg (by omega), if_neg (by omega), if_neg (by omega), if_neg (by omega), if_neg (by omega), if_neg (by omega), if_neg (by omega), if_neg (by omega), if_neg (by omega), if_neg (by omega)]
    exact hv)
  rw [k1, k2] at hs
  exact hs
/-- the work of a load -/
theorem s_astW {q j v : Nat} (hw : zI i pc = w) (ho : zop w = 27 ∧ pc + 1 = pc2) (hS : bS b p a m0 m) (hq : q < 12) (hj : j < 9) (hv : v < 4294967296) (g : ∀ m', bS b p (bU a (303 + 30 * q + j) v) m0 m' → gFin sc Q frs i pc2 ls st m') : gFin sc Q frs i pc ls (v :: j :: bR b (25 + 3 * q + 1) :: st) m := by
  have h17 := hS.2.1.2.1.2
  obtain ⟨f, h1, h2⟩ := hS.1 (25 + 3 * q + 1) (by omega)
  obtain ⟨-, ⟨k1, k2⟩, -⟩ := kL_o (q := q)
  have hz : zAt m (bR b (25 + 3 * q + 1)) = some (7, 9, f) := by rw [zAt_b hS.2.1.2.2 (by omega), h1, k1, k2]
  refine h_ast2 hw ho hz hj (by decide) hv (g _ ?_)
  rw [bR_sub]
  have hs := bS_set (o := 25 + 3 * q + 1) (j := j) (x := 303 + 30 * q + j) (v := v) hS (by omega) h1 (by omega) hv (by
    unfold bV
    rw [if_neg (by omega), if_neg (by omega), if_neg (by omega), if_neg (by omega), if_neg (by omega), if_neg (by omega), if_neg (by omega), if_neg (by omega), if_neg (by omega), if_neg (by omega), if_pos (by omega), show (25 + 3 * q + 1 - 25) / 3 = q by omega, bU_s]) (fun o' j' e1 e2 e3 => by
    obtain ⟨l0, l3, l4, l5, l6, la, ll, lw⟩ := bLn_b e1 e2
    refine ⟨fun e => ⟨fun e4 => ?_, fun e4 => ?_⟩, fun e => ?_, fun e => ?_, fun e => ?_, fun e e4 => ?_, fun e e4 k h6 h7 => ?_, fun e e4 e5 => ?_, fun e e4 => ?_⟩
    · omega
    · have := l0 e
      omega
    · have := l3 e
      omega
    · have := l4 e
      omega
    · have := l5 e
      omega
    · omega
    · have h8 := la e e4
      omega
    · have h8 := ll e e4
      omega
    · have h8 := lw e (by omega)
      intro z
      have e6 : (o' - 25) / 3 = q ∧ j' = j := by omega
      exact e3 ⟨by omega, e6.2⟩)
  rw [k1, k2] at hs
  exact hs
end BD
