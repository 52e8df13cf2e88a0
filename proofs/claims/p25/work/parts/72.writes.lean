/-! ===== what is written into a block, in passing style ===== -/
def bS (b : Nat) (p a : Nat → Nat) (m0 m : zM) : Prop := bM b p a m ∧ bOk b p a ∧ bFr b m0 m
/-- a slot that doesn't stand for the number x -/
def bC (p a : Nat → Nat) (o j x : Nat) : Prop := (o = 0 → (j = 0 → x ≠ 0) ∧ (8 ≤ j → x ≠ j - 6)) ∧ (o = 3 → x ≠ 5 + j) ∧ (o = 4 → x ≠ 10 + j) ∧ (o = 5 → x ≠ 12 + j) ∧ (o = 6 → j ≠ 0 → x ≠ 14) ∧ (8 ≤ o → o ≤ 24 → ∀ i, i < a 1 → 8 + p i = o → x ≠ 100 + 8 * i + j) ∧ (25 ≤ o → (o - 25) % 3 = 0 → 2 ≤ j → x ≠ 300 + 30 * ((o - 25) / 3) + (j - 2)) ∧ (25 ≤ o → (o - 25) % 3 = 1 → x ≠ 303 + 30 * ((o - 25) / 3) + j)
set_option maxRecDepth 100000 in
theorem bLn_v : (List.range 61).all (fun o => decide ((o = 0 → bLn o = 11) ∧ (o = 3 → bLn o = 5) ∧ (o = 4 → bLn o = 2) ∧ (o = 5 → bLn o = 2) ∧ (o = 6 → bLn o = 2) ∧ (8 ≤ o → o ≤ 24 → bLn o = 8) ∧ (25 ≤ o → (o - 25) % 3 = 0 → bLn o = 5) ∧ (25 ≤ o → (o - 25) % 3 ≠ 0 → bLn o = 9))) = true := by decide +kernel
theorem bLn_b {o j : Nat} (ho : o < 61) (h : j < bLn o) : (o = 0 → j < 11) ∧ (o = 3 → j < 5) ∧ (o = 4 → j < 2) ∧ (o = 5 → j < 2) ∧ (o = 6 → j < 2) ∧ (8 ≤ o → o ≤ 24 → j < 8) ∧ (25 ≤ o → (o - 25) % 3 = 0 → j < 5) ∧ (25 ≤ o → (o - 25) % 3 ≠ 0 → j < 9) := by
  have h1 := List.all_eq_true.mp bLn_v o (List.mem_range.mpr ho)
  simp only [decide_eq_true_eq] at h1
  obtain ⟨a0, a1, a2, a3, a4, a5, a6, a7⟩ := h1
  exact ⟨fun e => a0 e ▸ h, fun e => a1 e ▸ h, fun e => a2 e ▸ h, fun e => a3 e ▸ h, fun e => a4 e ▸ h, fun e e2 => a5 e e2 ▸ h, fun e e2 => a6 e e2 ▸ h, fun e e2 => a7 e e2 ▸ h⟩
section BB
variable {sc : List Nat} {Q : Nat → zM → Prop} {frs : gCf} {i pc w pc2 : Nat} {ls st : List Nat} {m m0 : zM} {b : Nat} {p a : Nat → Nat}
theorem bS_set {o j x v : Nat} {f : Nat → Nat} (hS : bS b p a m0 m) (ho : o < 61) (hz : m[b + o]? = some (bKd o, bLn o, f)) (hx : x ≠ 1) (hv : v < 4294967296) (hown : bV b p (bU a x v) o j v) (hc : ∀ o' j', o' < 61 → j' < bLn o' → ¬ (o' = o ∧ j' = j) → bC p a o' j' x) : bS b p (bU a x v) m0 (m.set (b + o) (bKd o, bLn o, zUp f j v)) := by
  refine ⟨bM_set hS.1 hz ho hown (fun o' j' h1 h2 h3 y hy => ?_), bOk_U hS.2.1 hx hv, bFr_set hS.2.2 ho⟩
  obtain ⟨d0, d3, d4, d5, d6, da, dl, dw⟩ := hc o' j' h1 h2 h3
  exact bV_U hx d0 d3 d4 d5 d6 da dl dw hy
/-- a slot that stands for no number is written -/
theorem bS_set0 {o j v : Nat} {f : Nat → Nat} (hS : bS b p a m0 m) (ho : o < 61) (hz : m[b + o]? = some (bKd o, bLn o, f)) (hown : bV b p a o j v) : bS b p a m0 (m.set (b + o) (bKd o, bLn o, zUp f j v)) :=
  ⟨bM_set hS.1 hz ho hown (fun _ _ _ _ _ _ hy => hy), hS.2.1, bFr_set hS.2.2 ho⟩
theorem h_put {r kd n v : Nat} {f : Nat → Nat} {m2 : zM} (hw : zI i pc = w) (ho : (zop w = 23 ∧ pc + 3 = pc2) ∧ kd = zb w ∧ zc w < n) (hk : zOkV (zTag (zTy (zb w) (zc w))) v = true) (hz : zAt m r = some (kd, n, f)) (hm : m.set (r - 4294967297) (kd, n, zUp f (zc w) v) = m2) (g : gFin sc Q frs i pc2 ls st m2) : gFin sc Q frs i pc ls (v :: r :: st) m := by
  subst hw
  subst hm
  obtain ⟨⟨h1, rfl⟩, h2⟩ := ho
  exact gFin_step (zIsC_f (Or.inl (by omega))) (by simp only [zOne, h1, ↓reduceIte, Nat.reduceEqDiff, or_self, or_false, true_or, or_true, hz, zNx, if_pos (And.intro h2 hk)]) g
theorem bR_sub {o : Nat} : bR b o - 4294967297 = b + o := Nat.add_sub_cancel_left _ _
/-- a number of the harbour itself (not the arms' number) -/
theorem s_putH {c x v : Nat} (hw : zI i pc = w) (ho : ((zop w = 23 ∧ pc + 3 = pc2) ∧ zb w = 1) ∧ zc w = c ∧ ((c = 0 ∧ x = 0) ∨ (8 ≤ c ∧ c < 11 ∧ x = c - 6))) (hS : bS b p a m0 m) (hv : v < 4294967296) (g : ∀ m', bS b p (bU a x v) m0 m' → gFin sc Q frs i pc2 ls st m') : gFin sc Q frs i pc ls (v :: bR b 0 :: st) m := by
  obtain ⟨f, h1, h2⟩ := hS.1 0 (by decide)
  obtain ⟨⟨h3, h4⟩, rfl, h5⟩ := ho
  have hz : zAt m (bR b 0) = some (1, 11, f) := by rw [zAt_b hS.2.1.2.2 (by decide)]; exact h1
  have hk : zOkV (zTag (zTy (zb w) (zc w))) v = true := by
    rw [h4]
    rcases (show zc w = 0 ∨ zc w = 8 ∨ zc w = 9 ∨ zc w = 10 by omega) with e | e | e | e <;> rw [e] <;> exact decide_eq_true hv
  refine h_put hw ⟨h3, h4.symm, by omega⟩ hk hz rfl (g _ ?_)
  rw [bR_sub]
  refine bS_set (o := 0) hS (by decide) h1 (by omega) hv ?_ (fun o' j' e1 e2 e3 => ?_)
  · unfold bV
    rw [if_pos rfl]
    rcases h5 with ⟨e, rfl⟩ | ⟨e, e', rfl⟩
    · rw [if_pos e, bU_s]
    · rw [if_neg (by omega), if_neg (by omega), if_neg (by omega), bU_s]
  · obtain ⟨l0, l3, l4, l5, l6, la, ll, lw⟩ := bLn_b e1 e2
    refine ⟨fun e => ⟨fun e4 => ?_, fun e4 => ?_⟩, fun e => ?_, fun e => ?_, fun e => ?_, fun e e4 => ?_, fun e e4 i h6 h7 => ?_, fun e e4 e5 => ?_, fun e e4 => ?_⟩ <;> omega
/-- a field of an arm -/
theorem s_putA {c i0 v : Nat} (hw : zI i pc = w) (ho : ((zop w = 23 ∧ pc + 3 = pc2) ∧ zb w = 0) ∧ zc w = c ∧ c < 8) (hS : bS b p a m0 m) (hi : i0 < a 1) (hv : v < 4294967296) (hv2 : c = 4 → v < 2) (g : ∀ m', bS b p (bU a (100 + 8 * i0 + c) v) m0 m' → gFin sc Q frs i pc2 ls st m') : gFin sc Q frs i pc ls (v :: bR b (8 + p i0) :: st) m := by
  have h17 := hS.2.1.2.1.2
  have hp := hS.2.1.1.1 i0 (by omega)
  obtain ⟨f, h1, h2⟩ := hS.1 (8 + p i0) (by omega)
  obtain ⟨⟨h3, h4⟩, rfl, h5⟩ := ho
  obtain ⟨k1, k2⟩ := kA_o hp
  have hz : zAt m (bR b (8 + p i0)) = some (0, 8, f) := by rw [zAt_b hS.2.1.2.2 (by omega), h1, k1, k2]
  have hk : zOkV (zTag (zTy (zb w) (zc w))) v = true := by
    rw [h4]
    rcases (show zc w = 0 ∨ zc w = 1 ∨ zc w = 2 ∨ zc w = 3 ∨ zc w = 4 ∨ zc w = 5 ∨ zc w = 6 ∨ zc w = 7 by omega) with e | e | e | e | e | e | e | e <;> rw [e] <;> first | exact decide_eq_true hv | exact decide_eq_true (hv2 e)
  refine h_put hw ⟨h3, h4.symm, h5⟩ hk hz rfl (g _ ?_)
  rw [bR_sub]
  have hs := bS_set (o := 8 + p i0) (j := zc w) (x := 100 + 8 * i0 + zc w) (v := v) hS (by omega) h1 (by omega) hv (by
    unfold bV
    rw [if_neg (by omega), if_neg (by omega), if_neg (by omega), if_neg (by omega), if_neg (by omega), if_neg (by omega), if_neg (by omega), if_neg (by omega), if_pos (by omega)]
    refine ⟨hv, fun k hk1 hk2 => ?_⟩
    rw [bU_n (by omega)] at hk1
    have e := hS.2.1.1.2 k i0 (by omega) (by omega) (by omega)
    rw [e, bU_s]) (fun o' j' e1 e2 e3 => by
    obtain ⟨l0, l3, l4, l5, l6, la, ll, lw⟩ := bLn_b e1 e2
    refine ⟨fun e => ⟨fun e4 => ?_, fun e4 => ?_⟩, fun e => ?_, fun e => ?_, fun e => ?_, fun e e4 => ?_, fun e e4 k h6 h7 => ?_, fun e e4 e5 => ?_, fun e e4 => ?_⟩
    · omega
    · have := l0 e
      omega
    · have := l3 e
      omega
    · have := l4 e
      omega
    · have := l5 e
      omega
    · omega
    · have h8 := la e e4
      by_cases q : k = i0
      · subst q
        have : j' ≠ zc w := fun z => e3 ⟨h7.symm, z⟩
        omega
      · omega
    · omega
    · omega)
  rw [k1, k2] at hs
  exact hs
/-- a number of a line -/
theorem s_putL {c q v : Nat} (hw : zI i pc = w) (ho : ((zop w = 23 ∧ pc + 3 = pc2) ∧ zb w = 2) ∧ zc w = c ∧ 2 ≤ c ∧ c < 5) (hS : bS b p a m0 m) (hq : q < 12) (hv : v < 4294967296) (g : ∀ m', bS b p (bU a (300 + 30 * q + (c - 2)) v) m0 m' → gFin sc Q frs i pc2 ls st m') : gFin sc Q frs i pc ls (v :: bR b (25 + 3 * q) :: st) m := by
  have h17 := hS.2.1.2.1.2
  obtain ⟨f, h1, h2⟩ := hS.1 (25 + 3 * q) (by omega)
  obtain ⟨⟨h3, h4⟩, rfl, h5⟩ := ho
  obtain ⟨⟨k1, k2⟩, -⟩ := kL_o (q := q)
  have hz : zAt m (bR b (25 + 3 * q)) = some (2, 5, f) := by rw [zAt_b hS.2.1.2.2 (by omega), h1, k1, k2]
  have hk : zOkV (zTag (zTy (zb w) (zc w))) v = true := by
    rw [h4]
    rcases (show zc w = 2 ∨ zc w = 3 ∨ zc w = 4 by omega) with e | e | e <;> rw [e] <;> exact decide_eq_true hv
  refine h_put hw ⟨h3, h4.symm, by omega⟩ hk hz rfl (g _ ?_)
  rw [bR_sub]
  have hs := bS_set (o := 25 + 3 * q) (j := zc w) (x := 300 + 30 * q + (zc w - 2)) (v := v) hS (by omega) h1 (by omega) hv (by
    unfold bV
    rw [if_neg (by omega), if_neg (by omega), if_neg (by omega), if_neg (by omega), if_neg (by omega), if_neg (by omega), if_neg (by omega), if_neg (by omega), if_neg (by omega), if_pos (by omega), if_neg (by omega), if_neg (by omega), show (25 + 3 * q - 25) / 3 = q by omega, bU_s]) (fun o' j' e1 e2 e3 => by
    obtain ⟨l0, l3, l4, l5, l6, la, ll, lw⟩ := bLn_b e1 e2
    refine ⟨fun e => ⟨fun e4 => ?_, fun e4 => ?_⟩, fun e => ?_, fun e => ?_, fun e => ?_, fun e e4 => ?_, fun e e4 k h6 h7 => ?_, fun e e4 e5 => ?_, fun e e4 => ?_⟩
    · omega
    · have := l0 e
      omega
    · have := l3 e
      omega
    · have := l4 e
      omega
    · have := l5 e
      omega
    · omega
    · have h8 := la e e4
      omega
    · have h8 := ll e e4
      intro z
      have e6 : (o' - 25) / 3 = q ∧ j' = zc w := by omega
      exact e3 ⟨by omega, e6.2⟩
    · have h8 := lw e (by omega)
      omega)
  rw [k1, k2] at hs
  exact hs
end BB
