/-! ===== what is read out of a block, one row an instruction ===== -/
theorem zAt_b {b o : Nat} {m : zM} (hb : b < 100000) (ho : o < 61) : zAt m (bR b o) = m[b + o]? := by
  unfold zAt bR
  rw [if_pos (by omega), Nat.add_sub_cancel_left]
theorem bM_at {b o : Nat} {p a : Nat → Nat} {m : zM} (hM : bM b p a m) (hb : b < 100000) (ho : o < 61) : ∃ f : Nat → Nat, zAt m (bR b o) = some (bKd o, bLn o, f) ∧ ∀ j, j < bLn o → bV b p a o j (f j) := by
  obtain ⟨f, h1, h2⟩ := hM o ho
  exact ⟨f, by rw [zAt_b hb ho]; exact h1, h2⟩
theorem bR_ref {b o : Nat} (hb : b < 100000) (ho : o < 61) : 4294967296 < bR b o ∧ bR b o < 8589934592 := by
  unfold bR
  omega
section BA
variable {sc : List Nat} {Q : Nat → zM → Prop} {frs : gCf} {i pc w pc2 : Nat} {ls st : List Nat} {m : zM} {b : Nat} {p a : Nat → Nat}
theorem bA_ok {i0 j v : Nat} (h : bV b p a (8 + p i0) j v) (hp : p i0 < 17) (hi : i0 < a 1) : v = a (100 + 8 * i0 + j) := by
  unfold bV at h
  rw [if_neg (by omega), if_neg (by omega), if_neg (by omega), if_neg (by omega), if_neg (by omega), if_neg (by omega), if_neg (by omega), if_neg (by omega), if_pos (by omega)] at h
  exact h.2 i0 hi rfl
theorem bL_ok {q j v : Nat} (h : bV b p a (25 + 3 * q) j v) : v = (if j = 0 then bR b (25 + 3 * q + 1) else if j = 1 then bR b (25 + 3 * q + 2) else a (300 + 30 * q + (j - 2))) := by
  unfold bV at h
  rw [if_neg (by omega), if_neg (by omega), if_neg (by omega), if_neg (by omega), if_neg (by omega), if_neg (by omega), if_neg (by omega), if_neg (by omega), if_neg (by omega), if_pos (by omega), show (25 + 3 * q - 25) / 3 = q by omega] at h
  exact h
theorem bW_ok {q j v : Nat} (h : bV b p a (25 + 3 * q + 1) j v) : v = a (303 + 30 * q + j) := by
  unfold bV at h
  rw [if_neg (by omega), if_neg (by omega), if_neg (by omega), if_neg (by omega), if_neg (by omega), if_neg (by omega), if_neg (by omega), if_neg (by omega), if_neg (by omega), if_neg (by omega), if_pos (by omega), show (25 + 3 * q + 1 - 25) / 3 = q by omega] at h
  exact h
theorem kA_o {c : Nat} (h : c < 17) : bKd (8 + c) = 0 ∧ bLn (8 + c) = 8 := by
  unfold bKd bLn
  constructor
  · rw [if_neg (by omega), if_neg (by omega), if_neg (by omega), if_neg (by omega), if_neg (by omega), if_pos (by omega)]
  · rw [if_neg (by omega), if_neg (by omega), if_neg (by omega), if_neg (by omega), if_neg (by omega), if_neg (by omega), if_pos (by omega)]
theorem kL_o {q : Nat} : (bKd (25 + 3 * q) = 2 ∧ bLn (25 + 3 * q) = 5) ∧ (bKd (25 + 3 * q + 1) = 7 ∧ bLn (25 + 3 * q + 1) = 9) ∧ (bKd (25 + 3 * q + 2) = 7 ∧ bLn (25 + 3 * q + 2) = 9) := by
  unfold bKd bLn
  refine ⟨⟨?_, ?_⟩, ⟨?_, ?_⟩, ?_, ?_⟩
  · rw [if_neg (by omega), if_neg (by omega), if_neg (by omega), if_neg (by omega), if_neg (by omega), if_neg (by omega), if_pos (by omega)]
  · rw [if_neg (by omega), if_neg (by omega), if_neg (by omega), if_neg (by omega), if_neg (by omega), if_neg (by omega), if_neg (by omega), if_pos (by omega)]
  · rw [if_neg (by omega), if_neg (by omega), if_neg (by omega), if_neg (by omega), if_neg (by omega), if_neg (by omega), if_neg (by omega)]
  · rw [if_neg (by omega), if_neg (by omega), if_neg (by omega), if_neg (by omega), if_neg (by omega), if_neg (by omega), if_neg (by omega), if_neg (by omega)]
  · rw [if_neg (by omega), if_neg (by omega), if_neg (by omega), if_neg (by omega), if_neg (by omega), if_neg (by omega), if_neg (by omega)]
  · rw [if_neg (by omega), if_neg (by omega), if_neg (by omega), if_neg (by omega), if_neg (by omega), if_neg (by omega), if_neg (by omega), if_neg (by omega)]
/-- a field of the harbour itself -/
theorem s_getH {c v : Nat} (hw : zI i pc = w) (ho : ((zop w = 22 ∧ pc + 3 = pc2) ∧ zb w = 1) ∧ zc w = c ∧ c < 11) (hM : bM b p a m) (hb : bOk b p a) (hv : (if c = 0 then a 0 else if c = 1 then a 1 else if c ≤ 7 then bR b (c - 1) else a (c - 6)) = v) (g : gFin sc Q frs i pc2 ls (v :: st) m) : gFin sc Q frs i pc ls (bR b 0 :: st) m := by
  obtain ⟨f, h1, h2⟩ := bM_at (o := 0) hM hb.2.2 (by decide)
  obtain ⟨⟨h3, h4⟩, rfl, h5⟩ := ho
  have h6 : bV b p a 0 (zc w) (f (zc w)) := h2 _ h5
  unfold bV at h6
  rw [if_pos rfl, hv] at h6
  exact h_get hw ⟨h3, h4.symm, h5⟩ h1 h6 g
/-- a field of an arm -/
theorem s_getA {c i0 : Nat} (hw : zI i pc = w) (ho : ((zop w = 22 ∧ pc + 3 = pc2) ∧ zb w = 0) ∧ zc w = c ∧ c < 8) (hM : bM b p a m) (hb : bOk b p a) (hi : i0 < a 1) (g : gFin sc Q frs i pc2 ls (a (100 + 8 * i0 + c) :: st) m) : gFin sc Q frs i pc ls (bR b (8 + p i0) :: st) m := by
  have hp := hb.1.1 i0 (by have := hb.2.1.2; omega)
  obtain ⟨f, h1, h2⟩ := bM_at (o := 8 + p i0) hM hb.2.2 (by omega)
  obtain ⟨⟨h3, h4⟩, rfl, h5⟩ := ho
  obtain ⟨k1, k2⟩ := kA_o hp
  rw [k1, k2] at h1
  rw [k2] at h2
  exact h_get hw ⟨h3, h4.symm, h5⟩ h1 (bA_ok (h2 _ h5) hp hi) g
/-- a field of a line -/
theorem s_getL {c q v : Nat} (hw : zI i pc = w) (ho : ((zop w = 22 ∧ pc + 3 = pc2) ∧ zb w = 2) ∧ zc w = c ∧ c < 5) (hM : bM b p a m) (hb : bOk b p a) (hq : q < 12) (hv : (if c = 0 then bR b (25 + 3 * q + 1) else if c = 1 then bR b (25 + 3 * q + 2) else a (300 + 30 * q + (c - 2))) = v) (g : gFin sc Q frs i pc2 ls (v :: st) m) : gFin sc Q frs i pc ls (bR b (25 + 3 * q) :: st) m := by
  obtain ⟨f, h1, h2⟩ := bM_at (o := 25 + 3 * q) hM hb.2.2 (by omega)
  obtain ⟨⟨h3, h4⟩, rfl, h5⟩ := ho
  obtain ⟨⟨k1, k2⟩, -⟩ := kL_o (q := q)
  rw [k1, k2] at h1
  rw [k2] at h2
  exact h_get hw ⟨h3, h4.symm, h5⟩ h1 ((bL_ok (h2 _ h5)).trans hv) g
/-- a field of the log -/
theorem s_getG {c v : Nat} (hw : zI i pc = w) (ho : ((zop w = 22 ∧ pc + 3 = pc2) ∧ zb w = 4) ∧ zc w = c ∧ c < 2) (hM : bM b p a m) (hb : bOk b p a) (hv : (if c = 0 then bR b 7 else a 14) = v) (g : gFin sc Q frs i pc2 ls (v :: st) m) : gFin sc Q frs i pc ls (bR b 6 :: st) m := by
  obtain ⟨f, h1, h2⟩ := bM_at (o := 6) hM hb.2.2 (by decide)
  obtain ⟨⟨h3, h4⟩, rfl, h5⟩ := ho
  have h6 : bV b p a 6 (zc w) (f (zc w)) := h2 _ h5
  unfold bV at h6
  rw [if_neg (by decide), if_neg (by decide), if_neg (by decide), if_neg (by decide), if_neg (by decide), if_neg (by decide), if_pos rfl, hv] at h6
  exact h_get hw ⟨h3, h4.symm, h5⟩ h1 h6 g
/-- a reference out of an array -/
theorem h_aald {r kd n j v : Nat} {f : Nat → Nat} (hw : zI i pc = w) (ho : zop w = 30 ∧ pc + 1 = pc2) (hz : zAt m r = some (kd, n, f)) (hk : 9 ≤ kd ∧ kd ≤ 11) (hj : j < n) (hn : n < 2147483648) (hf : f j = v) (g : gFin sc Q frs i pc2 ls (v :: st) m) : gFin sc Q frs i pc ls (j :: r :: st) m := by
  subst hw
  subst hf
  obtain ⟨h1, rfl⟩ := ho
  have h2 : 9 ≤ kd ∧ kd ≤ 11 ∧ j < n ∧ n < 2147483648 := ⟨hk.1, hk.2, hj, hn⟩
  exact gFin_step (zIsC_f (Or.inl (by omega))) (by simp only [zOne, h1, ↓reduceIte, Nat.reduceEqDiff, or_self, hz, zNx, if_pos h2]) g
theorem s_aldA {i0 : Nat} (hw : zI i pc = w) (ho : zop w = 30 ∧ pc + 1 = pc2) (hM : bM b p a m) (hb : bOk b p a) (hi : i0 < 17) (g : gFin sc Q frs i pc2 ls (bR b (8 + p i0) :: st) m) : gFin sc Q frs i pc ls (i0 :: bR b 1 :: st) m := by
  obtain ⟨f, h1, h2⟩ := bM_at (o := 1) hM hb.2.2 (by decide)
  have h6 : bV b p a 1 i0 (f i0) := h2 _ hi
  unfold bV at h6
  rw [if_neg (by decide), if_pos rfl] at h6
  exact h_aald hw ho h1 ⟨by decide, by decide⟩ hi (by decide) h6 g
theorem s_aldL {q : Nat} (hw : zI i pc = w) (ho : zop w = 30 ∧ pc + 1 = pc2) (hM : bM b p a m) (hb : bOk b p a) (hq : q < 12) (g : gFin sc Q frs i pc2 ls (bR b (25 + 3 * q) :: st) m) : gFin sc Q frs i pc ls (q :: bR b 2 :: st) m := by
  obtain ⟨f, h1, h2⟩ := bM_at (o := 2) hM hb.2.2 (by decide)
  have h6 : bV b p a 2 q (f q) := h2 _ hq
  unfold bV at h6
  rw [if_neg (by decide), if_neg (by decide), if_pos rfl] at h6
  exact h_aald hw ho h1 ⟨by decide, by decide⟩ hq (by decide) h6 g
/-- a setting, a distance, a next look -/
theorem s_aldS {j : Nat} (hw : zI i pc = w) (ho : zop w = 26 ∧ pc + 1 = pc2) (hM : bM b p a m) (hb : bOk b p a) (hj : j < 5) (g : gFin sc Q frs i pc2 ls (a (5 + j) :: st) m) : gFin sc Q frs i pc ls (j :: bR b 3 :: st) m := by
  obtain ⟨f, h1, h2⟩ := bM_at (o := 3) hM hb.2.2 (by decide)
  have h6 : bV b p a 3 j (f j) := h2 _ hj
  unfold bV at h6
  rw [if_neg (by decide), if_neg (by decide), if_neg (by decide), if_pos rfl] at h6
  exact h_ald hw ho h1 hj (by decide) h6 (hb.2.1.1 _) g
theorem s_aldD {j : Nat} (hw : zI i pc = w) (ho : zop w = 26 ∧ pc + 1 = pc2) (hM : bM b p a m) (hb : bOk b p a) (hj : j < 2) (g : gFin sc Q frs i pc2 ls (a (10 + j) :: st) m) : gFin sc Q frs i pc ls (j :: bR b 4 :: st) m := by
  obtain ⟨f, h1, h2⟩ := bM_at (o := 4) hM hb.2.2 (by decide)
  have h6 : bV b p a 4 j (f j) := h2 _ hj
  unfold bV at h6
  rw [if_neg (by decide), if_neg (by decide), if_neg (by decide), if_neg (by decide), if_pos rfl] at h6
  exact h_ald hw ho h1 hj (by decide) h6 (hb.2.1.1 _) g
theorem s_aldN {j : Nat} (hw : zI i pc = w) (ho : zop w = 26 ∧ pc + 1 = pc2) (hM : bM b p a m) (hb : bOk b p a) (hj : j < 2) (g : gFin sc Q frs i pc2 ls (a (12 + j) :: st) m) : gFin sc Q frs i pc ls (j :: bR b 5 :: st) m := by
  obtain ⟨f, h1, h2⟩ := bM_at (o := 5) hM hb.2.2 (by decide)
  have h6 : bV b p a 5 j (f j) := h2 _ hj
  unfold bV at h6
  rw [if_neg (by decide), if_neg (by decide), if_neg (by decide), if_neg (by decide), if_neg (by decide), if_pos rfl] at h6
  exact h_ald hw ho h1 hj (by decide) h6 (hb.2.1.1 _) g
/-- the work of a load that waits -/
theorem s_aldW {q j : Nat} (hw : zI i pc = w) (ho : zop w = 26 ∧ pc + 1 = pc2) (hM : bM b p a m) (hb : bOk b p a) (hq : q < 12) (hj : j < 9) (g : gFin sc Q frs i pc2 ls (a (303 + 30 * q + j) :: st) m) : gFin sc Q frs i pc ls (j :: bR b (25 + 3 * q + 1) :: st) m := by
  obtain ⟨f, h1, h2⟩ := bM_at (o := 25 + 3 * q + 1) hM hb.2.2 (by omega)
  obtain ⟨-, ⟨k1, k2⟩, -⟩ := kL_o (q := q)
  rw [k1, k2] at h1
  rw [k2] at h2
  exact h_ald hw ho h1 hj (by decide) (bW_ok (h2 _ hj)) (hb.2.1.1 _) g
end BA
