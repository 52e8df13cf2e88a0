/-! ===== what a step does to the memory's shape ===== -/
theorem zmono_set {m m' : zM} (h : ∃ (k n : Nat) (f : Nat → Nat) (k' : Nat) (g : Nat → Nat) (r : Nat), m' = m.set (r - 4294967297) (k', n, g) ∧ zAt m r = some (k, n, f)) : m.length ≤ m'.length ∧ zSl m ≤ zSl m' := by
  obtain ⟨k, n, f, k', g, r, h2, h1⟩ := h
  rw [h2, List.length_set, zSl_set (zAt_some h1).2]
  exact ⟨Nat.le_refl _, Nat.le_refl _⟩
theorem zmono_push {m m' : zM} {x : Nat × Nat × (Nat → Nat)} (h2 : m' = m ++ [x]) : m.length ≤ m'.length ∧ zSl m ≤ zSl m' := by
  rw [h2, List.length_append, zSl_push]
  exact ⟨Nat.le_add_right _ _, Nat.le_add_right _ _⟩
set_option maxHeartbeats 4000000 in
theorem zOne_mono {sc : List Nat} {i w pc : Nat} {ls st : List Nat} {m : zM} {pc' : Nat} {ls' st' : List Nat} {m' : zM} (h : zOne sc i w pc ls st m = some (.inl (pc', ls', st', m'))) : m.length ≤ m'.length ∧ zSl m ≤ zSl m' := by
  by_cases h1 : zop w = 1
  · simp only [zOne, h1, ↓reduceIte, Nat.reduceEqDiff, zNx, or_true, true_or, or_false, false_or, or_self] at h
    repeat' split at h
    all_goals first
      | (cases h; exact ⟨Nat.le_refl _, Nat.le_refl _⟩)
      | (cases h; exact zmono_set ⟨_, _, _, _, _, _, rfl, by assumption⟩)
      | (cases h; exact zmono_push rfl)
      | (cases h; done)
  by_cases h2 : zop w = 2
  · simp only [zOne, h2, ↓reduceIte, Nat.reduceEqDiff, zNx, or_true, true_or, or_false, false_or, or_self] at h
    repeat' split at h
    all_goals first
      | (cases h; exact ⟨Nat.le_refl _, Nat.le_refl _⟩)
      | (cases h; exact zmono_set ⟨_, _, _, _, _, _, rfl, by assumption⟩)
      | (cases h; exact zmono_push rfl)
      | (cases h; done)
  by_cases h3 : zop w = 3
  · simp only [zOne, h3, ↓reduceIte, Nat.reduceEqDiff, zNx, or_true, true_or, or_false, false_or, or_self] at h
    repeat' split at h
    all_goals first
      | (cases h; exact ⟨Nat.le_refl _, Nat.le_refl _⟩)
      | (cases h; exact zmono_set ⟨_, _, _, _, _, _, rfl, by assumption⟩)
      | (cases h; exact zmono_push rfl)
      | (cases h; done)
  by_cases h4 : zop w = 4
  · simp only [zOne, h4, ↓reduceIte, Nat.reduceEqDiff, zNx, or_true, true_or, or_false, false_or, or_self] at h
    repeat' split at h
    all_goals first
      | (cases h; exact ⟨Nat.le_refl _, Nat.le_refl _⟩)
      | (cases h; exact zmono_set ⟨_, _, _, _, _, _, rfl, by assumption⟩)
      | (cases h; exact zmono_push rfl)
      | (cases h; done)
  by_cases h5 : zop w = 5
  · simp only [zOne, h5, ↓reduceIte, Nat.reduceEqDiff, zNx, or_true, true_or, or_false, false_or, or_self] at h
    repeat' split at h
    all_goals first
      | (cases h; exact ⟨Nat.le_refl _, Nat.le_refl _⟩)
      | (cases h; exact zmono_set ⟨_, _, _, _, _, _, rfl, by assumption⟩)
      | (cases h; exact zmono_push rfl)
      | (cases h; done)
  by_cases h6 : zop w = 6
  · simp only [zOne, h6, ↓reduceIte, Nat.reduceEqDiff, zNx, or_true, true_or, or_false, false_or, or_self] at h
    repeat' split at h
    all_goals first
      | (cases h; exact ⟨Nat.le_refl _, Nat.le_refl _⟩)
      | (cases h; exact zmono_set ⟨_, _, _, _, _, _, rfl, by assumption⟩)
      | (cases h; exact zmono_push rfl)
      | (cases h; done)
  by_cases h7 : zop w = 7
  · simp only [zOne, h7, ↓reduceIte, Nat.reduceEqDiff, zNx, or_true, true_or, or_false, false_or, or_self] at h
    repeat' split at h
    all_goals first
      | (cases h; exact ⟨Nat.le_refl _, Nat.le_refl _⟩)
      | (cases h; exact zmono_set ⟨_, _, _, _, _, _, rfl, by assumption⟩)
      | (cases h; exact zmono_push rfl)
      | (cases h; done)
  by_cases h8 : zop w = 8
  · simp only [zOne, h8, ↓reduceIte, Nat.reduceEqDiff, zNx, or_true, true_or, or_false, false_or, or_self] at h
    repeat' split at h
    all_goals first
      | (cases h; exact ⟨Nat.le_refl _, Nat.le_refl _⟩)
      | (cases h; exact zmono_set ⟨_, _, _, _, _, _, rfl, by assumption⟩)
      | (cases h; exact zmono_push rfl)
      | (cases h; done)
  by_cases h9 : zop w = 9
  · simp only [zOne, h9, ↓reduceIte, Nat.reduceEqDiff, zNx, or_true, true_or, or_false, false_or, or_self] at h
    repeat' split at h
    all_goals first
      | (cases h; exact ⟨Nat.le_refl _, Nat.le_refl _⟩)
      | (cases h; exact zmono_set ⟨_, _, _, _, _, _, rfl, by assumption⟩)
      | (cases h; exact zmono_push rfl)
      | (cases h; done)
  by_cases h10 : zop w = 10
  · simp only [zOne, h10, ↓reduceIte, Nat.reduceEqDiff, zNx, or_true, true_or, or_false, false_or, or_self] at h
    repeat' split at h
    all_goals first
      | (cases h; exact ⟨Nat.le_refl _, Nat.le_refl _⟩)
      | (cases h; exact zmono_set ⟨_, _, _, _, _, _, rfl, by assumption⟩)
      | (cases h; exact zmono_push rfl)
      | (cases h; done)
  by_cases h11 : zop w = 11
  · simp only [zOne, h11, ↓reduceIte, Nat.reduceEqDiff, zNx, or_true, true_or, or_false, false_or, or_self] at h
    repeat' split at h
    all_goals first
      | (cases h; exact ⟨Nat.le_refl _, Nat.le_refl _⟩)
      | (cases h; exact zmono_set ⟨_, _, _, _, _, _, rfl, by assumption⟩)
      | (cases h; exact zmono_push rfl)
      | (cases h; done)
  by_cases h12 : zop w = 12
  · simp only [zOne, h12, ↓reduceIte, Nat.reduceEqDiff, zNx, or_true, true_or, or_false, false_or, or_self] at h
    repeat' split at h
    all_goals first
      | (cases h; exact ⟨Nat.le_refl _, Nat.le_refl _⟩)
      | (cases h; exact zmono_set ⟨_, _, _, _, _, _, rfl, by assumption⟩)
      | (cases h; exact zmono_push rfl)
      | (cases h; done)
  by_cases h47 : zop w = 47
  · simp only [zOne, h47, ↓reduceIte, Nat.reduceEqDiff, zNx, or_true, true_or, or_false, false_or, or_self] at h
    repeat' split at h
    all_goals first
      | (cases h; exact ⟨Nat.le_refl _, Nat.le_refl _⟩)
      | (cases h; exact zmono_set ⟨_, _, _, _, _, _, rfl, by assumption⟩)
      | (cases h; exact zmono_push rfl)
      | (cases h; done)
  by_cases h13 : zop w = 13
  · simp only [zOne, h13, ↓reduceIte, Nat.reduceEqDiff, zNx, or_true, true_or, or_false, false_or, or_self] at h
    repeat' split at h
    all_goals first
      | (cases h; exact ⟨Nat.le_refl _, Nat.le_refl _⟩)
      | (cases h; exact zmono_set ⟨_, _, _, _, _, _, rfl, by assumption⟩)
      | (cases h; exact zmono_push rfl)
      | (cases h; done)
  by_cases h14 : zop w = 14
  · simp only [zOne, h14, ↓reduceIte, Nat.reduceEqDiff, zNx, or_true, true_or, or_false, false_or, or_self] at h
    repeat' split at h
    all_goals first
      | (cases h; exact ⟨Nat.le_refl _, Nat.le_refl _⟩)
      | (cases h; exact zmono_set ⟨_, _, _, _, _, _, rfl, by assumption⟩)
      | (cases h; exact zmono_push rfl)
      | (cases h; done)
  by_cases h15 : zop w = 15
  · simp only [zOne, h15, ↓reduceIte, Nat.reduceEqDiff, zNx, or_true, true_or, or_false, false_or, or_self] at h
    repeat' split at h
    all_goals first
      | (cases h; exact ⟨Nat.le_refl _, Nat.le_refl _⟩)
      | (cases h; exact zmono_set ⟨_, _, _, _, _, _, rfl, by assumption⟩)
      | (cases h; exact zmono_push rfl)
      | (cases h; done)
  by_cases h16 : zop w = 16
  · simp only [zOne, h16, ↓reduceIte, Nat.reduceEqDiff, zNx, or_true, true_or, or_false, false_or, or_self] at h
    repeat' split at h
    all_goals first
      | (cases h; exact ⟨Nat.le_refl _, Nat.le_refl _⟩)
      | (cases h; exact zmono_set ⟨_, _, _, _, _, _, rfl, by assumption⟩)
      | (cases h; exact zmono_push rfl)
      | (cases h; done)
  by_cases h17 : zop w = 17
  · simp only [zOne, h17, ↓reduceIte, Nat.reduceEqDiff, zNx, or_true, true_or, or_false, false_or, or_self] at h
    repeat' split at h
    all_goals first
      | (cases h; exact ⟨Nat.le_refl _, Nat.le_refl _⟩)
      | (cases h; exact zmono_set ⟨_, _, _, _, _, _, rfl, by assumption⟩)
      | (cases h; exact zmono_push rfl)
      | (cases h; done)
  by_cases h18 : zop w = 18
  · simp only [zOne, h18, ↓reduceIte, Nat.reduceEqDiff, zNx, or_true, true_or, or_false, false_or, or_self] at h
    repeat' split at h
    all_goals first
      | (cases h; exact ⟨Nat.le_refl _, Nat.le_refl _⟩)
      | (cases h; exact zmono_set ⟨_, _, _, _, _, _, rfl, by assumption⟩)
      | (cases h; exact zmono_push rfl)
      | (cases h; done)
  by_cases h19 : zop w = 19
  · simp only [zOne, h19, ↓reduceIte, Nat.reduceEqDiff, zNx, or_true, true_or, or_false, false_or, or_self] at h
    repeat' split at h
    all_goals first
      | (cases h; exact ⟨Nat.le_refl _, Nat.le_refl _⟩)
      | (cases h; exact zmono_set ⟨_, _, _, _, _, _, rfl, by assumption⟩)
      | (cases h; exact zmono_push rfl)
      | (cases h; done)
  by_cases h20 : zop w = 20
  · simp only [zOne, h20, ↓reduceIte, Nat.reduceEqDiff, zNx, or_true, true_or, or_false, false_or, or_self] at h
    repeat' split at h
    all_goals first
      | (cases h; exact ⟨Nat.le_refl _, Nat.le_refl _⟩)
      | (cases h; exact zmono_set ⟨_, _, _, _, _, _, rfl, by assumption⟩)
      | (cases h; exact zmono_push rfl)
      | (cases h; done)
  by_cases h21 : zop w = 21
  · simp only [zOne, h21, ↓reduceIte, Nat.reduceEqDiff, zNx, or_true, true_or, or_false, false_or, or_self] at h
    repeat' split at h
    all_goals first
      | (cases h; exact ⟨Nat.le_refl _, Nat.le_refl _⟩)
      | (cases h; exact zmono_set ⟨_, _, _, _, _, _, rfl, by assumption⟩)
      | (cases h; exact zmono_push rfl)
      | (cases h; done)
  by_cases h22 : zop w = 22
  · simp only [zOne, h22, ↓reduceIte, Nat.reduceEqDiff, zNx, or_true, true_or, or_false, false_or, or_self] at h
    repeat' split at h
    all_goals first
      | (cases h; exact ⟨Nat.le_refl _, Nat.le_refl _⟩)
      | (cases h; exact zmono_set ⟨_, _, _, _, _, _, rfl, by assumption⟩)
      | (cases h; exact zmono_push rfl)
      | (cases h; done)
  by_cases h23 : zop w = 23
  · simp only [zOne, h23, ↓reduceIte, Nat.reduceEqDiff, zNx, or_true, true_or, or_false, false_or, or_self] at h
    repeat' split at h
    all_goals first
      | (cases h; exact ⟨Nat.le_refl _, Nat.le_refl _⟩)
      | (cases h; exact zmono_set ⟨_, _, _, _, _, _, rfl, by assumption⟩)
      | (cases h; exact zmono_push rfl)
      | (cases h; done)
  by_cases h24 : zop w = 24
  · simp only [zOne, h24, ↓reduceIte, Nat.reduceEqDiff, zNx, or_true, true_or, or_false, false_or, or_self] at h
    repeat' split at h
    all_goals first
      | (cases h; exact ⟨Nat.le_refl _, Nat.le_refl _⟩)
      | (cases h; exact zmono_set ⟨_, _, _, _, _, _, rfl, by assumption⟩)
      | (cases h; exact zmono_push rfl)
      | (cases h; done)
  by_cases h25 : zop w = 25
  · simp only [zOne, h25, ↓reduceIte, Nat.reduceEqDiff, zNx, or_true, true_or, or_false, false_or, or_self] at h
    repeat' split at h
    all_goals first
      | (cases h; exact ⟨Nat.le_refl _, Nat.le_refl _⟩)
      | (cases h; exact zmono_set ⟨_, _, _, _, _, _, rfl, by assumption⟩)
      | (cases h; exact zmono_push rfl)
      | (cases h; done)
  by_cases h26 : zop w = 26
  · simp only [zOne, h26, ↓reduceIte, Nat.reduceEqDiff, zNx, or_true, true_or, or_false, false_or, or_self] at h
    repeat' split at h
    all_goals first
      | (cases h; exact ⟨Nat.le_refl _, Nat.le_refl _⟩)
      | (cases h; exact zmono_set ⟨_, _, _, _, _, _, rfl, by assumption⟩)
      | (cases h; exact zmono_push rfl)
      | (cases h; done)
  by_cases h27 : zop w = 27
  · simp only [zOne, h27, ↓reduceIte, Nat.reduceEqDiff, zNx, or_true, true_or, or_false, false_or, or_self] at h
    repeat' split at h
    all_goals first
      | (cases h; exact ⟨Nat.le_refl _, Nat.le_refl _⟩)
      | (cases h; exact zmono_set ⟨_, _, _, _, _, _, rfl, by assumption⟩)
      | (cases h; exact zmono_push rfl)
      | (cases h; done)
  by_cases h28 : zop w = 28
  · simp only [zOne, h28, ↓reduceIte, Nat.reduceEqDiff, zNx, or_true, true_or, or_false, false_or, or_self] at h
    repeat' split at h
    all_goals first
      | (cases h; exact ⟨Nat.le_refl _, Nat.le_refl _⟩)
      | (cases h; exact zmono_set ⟨_, _, _, _, _, _, rfl, by assumption⟩)
      | (cases h; exact zmono_push rfl)
      | (cases h; done)
  by_cases h29 : zop w = 29
  · simp only [zOne, h29, ↓reduceIte, Nat.reduceEqDiff, zNx, or_true, true_or, or_false, false_or, or_self] at h
    repeat' split at h
    all_goals first
      | (cases h; exact ⟨Nat.le_refl _, Nat.le_refl _⟩)
      | (cases h; exact zmono_set ⟨_, _, _, _, _, _, rfl, by assumption⟩)
      | (cases h; exact zmono_push rfl)
      | (cases h; done)
  by_cases h30 : zop w = 30
  · simp only [zOne, h30, ↓reduceIte, Nat.reduceEqDiff, zNx, or_true, true_or, or_false, false_or, or_self] at h
    repeat' split at h
    all_goals first
      | (cases h; exact ⟨Nat.le_refl _, Nat.le_refl _⟩)
      | (cases h; exact zmono_set ⟨_, _, _, _, _, _, rfl, by assumption⟩)
      | (cases h; exact zmono_push rfl)
      | (cases h; done)
  by_cases h31 : zop w = 31
  · simp only [zOne, h31, ↓reduceIte, Nat.reduceEqDiff, zNx, or_true, true_or, or_false, false_or, or_self] at h
    repeat' split at h
    all_goals first
      | (cases h; exact ⟨Nat.le_refl _, Nat.le_refl _⟩)
      | (cases h; exact zmono_set ⟨_, _, _, _, _, _, rfl, by assumption⟩)
      | (cases h; exact zmono_push rfl)
      | (cases h; done)
  by_cases h32 : zop w = 32
  · simp only [zOne, h32, ↓reduceIte, Nat.reduceEqDiff, zNx, or_true, true_or, or_false, false_or, or_self] at h
    repeat' split at h
    all_goals first
      | (cases h; exact ⟨Nat.le_refl _, Nat.le_refl _⟩)
      | (cases h; exact zmono_set ⟨_, _, _, _, _, _, rfl, by assumption⟩)
      | (cases h; exact zmono_push rfl)
      | (cases h; done)
  by_cases h33 : zop w = 33
  · simp only [zOne, h33, ↓reduceIte, Nat.reduceEqDiff, zNx, or_true, true_or, or_false, false_or, or_self] at h
    repeat' split at h
    all_goals first
      | (cases h; exact ⟨Nat.le_refl _, Nat.le_refl _⟩)
      | (cases h; exact zmono_set ⟨_, _, _, _, _, _, rfl, by assumption⟩)
      | (cases h; exact zmono_push rfl)
      | (cases h; done)
  by_cases h34 : zop w = 34
  · simp only [zOne, h34, ↓reduceIte, Nat.reduceEqDiff, zNx, or_true, true_or, or_false, false_or, or_self] at h
    repeat' split at h
    all_goals first
      | (cases h; exact ⟨Nat.le_refl _, Nat.le_refl _⟩)
      | (cases h; exact zmono_set ⟨_, _, _, _, _, _, rfl, by assumption⟩)
      | (cases h; exact zmono_push rfl)
      | (cases h; done)
  by_cases h35 : zop w = 35
  · simp only [zOne, h35, ↓reduceIte, Nat.reduceEqDiff, zNx, or_true, true_or, or_false, false_or, or_self] at h
    repeat' split at h
    all_goals first
      | (cases h; exact ⟨Nat.le_refl _, Nat.le_refl _⟩)
      | (cases h; exact zmono_set ⟨_, _, _, _, _, _, rfl, by assumption⟩)
      | (cases h; exact zmono_push rfl)
      | (cases h; done)
  by_cases h36 : zop w = 36
  · simp only [zOne, h36, ↓reduceIte, Nat.reduceEqDiff, zNx, or_true, true_or, or_false, false_or, or_self] at h
    repeat' split at h
    all_goals first
      | (cases h; exact ⟨Nat.le_refl _, Nat.le_refl _⟩)
      | (cases h; exact zmono_set ⟨_, _, _, _, _, _, rfl, by assumption⟩)
      | (cases h; exact zmono_push rfl)
      | (cases h; done)
  by_cases h42 : zop w = 42
  · simp only [zOne, h42, ↓reduceIte, Nat.reduceEqDiff, zNx, or_true, true_or, or_false, false_or, or_self] at h
    repeat' split at h
    all_goals first
      | (cases h; exact ⟨Nat.le_refl _, Nat.le_refl _⟩)
      | (cases h; exact zmono_set ⟨_, _, _, _, _, _, rfl, by assumption⟩)
      | (cases h; exact zmono_push rfl)
      | (cases h; done)
  by_cases h43 : zop w = 43
  · simp only [zOne, h43, ↓reduceIte, Nat.reduceEqDiff, zNx, or_true, true_or, or_false, false_or, or_self] at h
    repeat' split at h
    all_goals first
      | (cases h; exact ⟨Nat.le_refl _, Nat.le_refl _⟩)
      | (cases h; exact zmono_set ⟨_, _, _, _, _, _, rfl, by assumption⟩)
      | (cases h; exact zmono_push rfl)
      | (cases h; done)
  by_cases h44 : zop w = 44
  · simp only [zOne, h44, ↓reduceIte, Nat.reduceEqDiff, zNx, or_true, true_or, or_false, false_or, or_self] at h
    repeat' split at h
    all_goals first
      | (cases h; exact ⟨Nat.le_refl _, Nat.le_refl _⟩)
      | (cases h; exact zmono_set ⟨_, _, _, _, _, _, rfl, by assumption⟩)
      | (cases h; exact zmono_push rfl)
      | (cases h; done)
  by_cases h45 : zop w = 45
  · simp only [zOne, h45, ↓reduceIte, Nat.reduceEqDiff, zNx, or_true, true_or, or_false, false_or, or_self] at h
    repeat' split at h
    all_goals first
      | (cases h; exact ⟨Nat.le_refl _, Nat.le_refl _⟩)
      | (cases h; exact zmono_set ⟨_, _, _, _, _, _, rfl, by assumption⟩)
      | (cases h; exact zmono_push rfl)
      | (cases h; done)
  by_cases h46 : zop w = 46
  · simp only [zOne, h46, ↓reduceIte, Nat.reduceEqDiff, zNx, or_true, true_or, or_false, false_or, or_self] at h
    repeat' split at h
    all_goals first
      | (cases h; exact ⟨Nat.le_refl _, Nat.le_refl _⟩)
      | (cases h; exact zmono_set ⟨_, _, _, _, _, _, rfl, by assumption⟩)
      | (cases h; exact zmono_push rfl)
      | (cases h; done)
  simp only [zOne, h1, h2, h3, h4, h5, h6, h7, h8, h9, h10, h11, h12, h47, h13, h14, h15, h16, h17, h18, h19, h20, h21, h22, h23, h24, h25, h26, h27, h28, h29, h30, h31, h32, h33, h34, h35, h36, h42, h43, h44, h45, h46, ↓reduceIte, or_self] at h
  cases h
theorem zOne_ret {sc : List Nat} {i w pc : Nat} {ls st : List Nat} {m : zM} {v : Nat} (h : zOne sc i w pc ls st m = some (.inr v)) : (zop w = 45 ∧ st = [v] ∧ v < 4294967296 ∧ (zRet i = 1 ∨ (zRet i = 2 ∧ v < 2))) ∨ (zop w = 46 ∧ st = [] ∧ v = 0 ∧ zRet i = 0) := by
  by_cases h1 : zop w = 1
  · simp only [zOne, h1, ↓reduceIte, Nat.reduceEqDiff, zNx, or_true, true_or, or_false, false_or, or_self] at h
    repeat' split at h
    all_goals first
      | (cases h; done)
      | (cases h; exact Or.inl ⟨by assumption, rfl, by omega, by omega⟩)
      | (cases h; exact Or.inr ⟨by assumption, rfl, rfl, by assumption⟩)
  by_cases h2 : zop w = 2
  · simp only [zOne, h2, ↓reduceIte, Nat.reduceEqDiff, zNx, or_true, true_or, or_false, false_or, or_self] at h
    repeat' split at h
    all_goals first
      | (cases h; done)
      | (cases h; exact Or.inl ⟨by assumption, rfl, by omega, by omega⟩)
      | (cases h; exact Or.inr ⟨by assumption, rfl, rfl, by assumption⟩)
  by_cases h3 : zop w = 3
  · simp only [zOne, h3, ↓reduceIte, Nat.reduceEqDiff, zNx, or_true, true_or, or_false, false_or, or_self] at h
    repeat' split at h
    all_goals first
      | (cases h; done)
      | (cases h; exact Or.inl ⟨by assumption, rfl, by omega, by omega⟩)
      | (cases h; exact Or.inr ⟨by assumption, rfl, rfl, by assumption⟩)
  by_cases h4 : zop w = 4
  · simp only [zOne, h4, ↓reduceIte, Nat.reduceEqDiff, zNx, or_true, true_or, or_false, false_or, or_self] at h
    repeat' split at h
    all_goals first
      | (cases h; done)
      | (cases h; exact Or.inl ⟨by assumption, rfl, by omega, by omega⟩)
      | (cases h; exact Or.inr ⟨by assumption, rfl, rfl, by assumption⟩)
  by_cases h5 : zop w = 5
  · simp only [zOne, h5, ↓reduceIte, Nat.reduceEqDiff, zNx, or_true, true_or, or_false, false_or, or_self] at h
    repeat' split at h
    all_goals first
      | (cases h; done)
      | (cases h; exact Or.inl ⟨by assumption, rfl, by omega, by omega⟩)
      | (cases h; exact Or.inr ⟨by assumption, rfl, rfl, by assumption⟩)
  by_cases h6 : zop w = 6
  · simp only [zOne, h6, ↓reduceIte, Nat.reduceEqDiff, zNx, or_true, true_or, or_false, false_or, or_self] at h
    repeat' split at h
    all_goals first
      | (cases h; done)
      | (cases h; exact Or.inl ⟨by assumption, rfl, by omega, by omega⟩)
      | (cases h; exact Or.inr ⟨by assumption, rfl, rfl, by assumption⟩)
  by_cases h7 : zop w = 7
  · simp only [zOne, h7, ↓reduceIte, Nat.reduceEqDiff, zNx, or_true, true_or, or_false, false_or, or_self] at h
    repeat' split at h
    all_goals first
      | (cases h; done)
      | (cases h; exact Or.inl ⟨by assumption, rfl, by omega, by omega⟩)
      | (cases h; exact Or.inr ⟨by assumption, rfl, rfl, by assumption⟩)
  by_cases h8 : zop w = 8
  · simp only [zOne, h8, ↓reduceIte, Nat.reduceEqDiff, zNx, or_true, true_or, or_false, false_or, or_self] at h
    repeat' split at h
    all_goals first
      | (cases h; done)
      | (cases h; exact Or.inl ⟨by assumption, rfl, by omega, by omega⟩)
      | (cases h; exact Or.inr ⟨by assumption, rfl, rfl, by assumption⟩)
  by_cases h9 : zop w = 9
  · simp only [zOne, h9, ↓reduceIte, Nat.reduceEqDiff, zNx, or_true, true_or, or_false, false_or, or_self] at h
    repeat' split at h
    all_goals first
      | (cases h; done)
      | (cases h; exact Or.inl ⟨by assumption, rfl, by omega, by omega⟩)
      | (cases h; exact Or.inr ⟨by assumption, rfl, rfl, by assumption⟩)
  by_cases h10 : zop w = 10
  · simp only [zOne, h10, ↓reduceIte, Nat.reduceEqDiff, zNx, or_true, true_or, or_false, false_or, or_self] at h
    repeat' split at h
    all_goals first
      | (cases h; done)
      | (cases h; exact Or.inl ⟨by assumption, rfl, by omega, by omega⟩)
      | (cases h; exact Or.inr ⟨by assumption, rfl, rfl, by assumption⟩)
  by_cases h11 : zop w = 11
  · simp only [zOne, h11, ↓reduceIte, Nat.reduceEqDiff, zNx, or_true, true_or, or_false, false_or, or_self] at h
    repeat' split at h
    all_goals first
      | (cases h; done)
      | (cases h; exact Or.inl ⟨by assumption, rfl, by omega, by omega⟩)
      | (cases h; exact Or.inr ⟨by assumption, rfl, rfl, by assumption⟩)
  by_cases h12 : zop w = 12
  · simp only [zOne, h12, ↓reduceIte, Nat.reduceEqDiff, zNx, or_true, true_or, or_false, false_or, or_self] at h
    repeat' split at h
    all_goals first
      | (cases h; done)
      | (cases h; exact Or.inl ⟨by assumption, rfl, by omega, by omega⟩)
      | (cases h; exact Or.inr ⟨by assumption, rfl, rfl, by assumption⟩)
  by_cases h47 : zop w = 47
  · simp only [zOne, h47, ↓reduceIte, Nat.reduceEqDiff, zNx, or_true, true_or, or_false, false_or, or_self] at h
    repeat' split at h
    all_goals first
      | (cases h; done)
      | (cases h; exact Or.inl ⟨by assumption, rfl, by omega, by omega⟩)
      | (cases h; exact Or.inr ⟨by assumption, rfl, rfl, by assumption⟩)
  by_cases h13 : zop w = 13
  · simp only [zOne, h13, ↓reduceIte, Nat.reduceEqDiff, zNx, or_true, true_or, or_false, false_or, or_self] at h
    repeat' split at h
    all_goals first
      | (cases h; done)
      | (cases h; exact Or.inl ⟨by assumption, rfl, by omega, by omega⟩)
      | (cases h; exact Or.inr ⟨by assumption, rfl, rfl, by assumption⟩)
  by_cases h14 : zop w = 14
  · simp only [zOne, h14, ↓reduceIte, Nat.reduceEqDiff, zNx, or_true, true_or, or_false, false_or, or_self] at h
    repeat' split at h
    all_goals first
      | (cases h; done)
      | (cases h; exact Or.inl ⟨by assumption, rfl, by omega, by omega⟩)
      | (cases h; exact Or.inr ⟨by assumption, rfl, rfl, by assumption⟩)
  by_cases h15 : zop w = 15
  · simp only [zOne, h15, ↓reduceIte, Nat.reduceEqDiff, zNx, or_true, true_or, or_false, false_or, or_self] at h
    repeat' split at h
    all_goals first
      | (cases h; done)
      | (cases h; exact Or.inl ⟨by assumption, rfl, by omega, by omega⟩)
      | (cases h; exact Or.inr ⟨by assumption, rfl, rfl, by assumption⟩)
  by_cases h16 : zop w = 16
  · simp only [zOne, h16, ↓reduceIte, Nat.reduceEqDiff, zNx, or_true, true_or, or_false, false_or, or_self] at h
    repeat' split at h
    all_goals first
      | (cases h; done)
      | (cases h; exact Or.inl ⟨by assumption, rfl, by omega, by omega⟩)
      | (cases h; exact Or.inr ⟨by assumption, rfl, rfl, by assumption⟩)
  by_cases h17 : zop w = 17
  · simp only [zOne, h17, ↓reduceIte, Nat.reduceEqDiff, zNx, or_true, true_or, or_false, false_or, or_self] at h
    repeat' split at h
    all_goals first
      | (cases h; done)
      | (cases h; exact Or.inl ⟨by assumption, rfl, by omega, by omega⟩)
      | (cases h; exact Or.inr ⟨by assumption, rfl, rfl, by assumption⟩)
  by_cases h18 : zop w = 18
  · simp only [zOne, h18, ↓reduceIte, Nat.reduceEqDiff, zNx, or_true, true_or, or_false, false_or, or_self] at h
    repeat' split at h
    all_goals first
      | (cases h; done)
      | (cases h; exact Or.inl ⟨by assumption, rfl, by omega, by omega⟩)
      | (cases h; exact Or.inr ⟨by assumption, rfl, rfl, by assumption⟩)
  by_cases h19 : zop w = 19
  · simp only [zOne, h19, ↓reduceIte, Nat.reduceEqDiff, zNx, or_true, true_or, or_false, false_or, or_self] at h
    repeat' split at h
    all_goals first
      | (cases h; done)
      | (cases h; exact Or.inl ⟨by assumption, rfl, by omega, by omega⟩)
      | (cases h; exact Or.inr ⟨by assumption, rfl, rfl, by assumption⟩)
  by_cases h20 : zop w = 20
  · simp only [zOne, h20, ↓reduceIte, Nat.reduceEqDiff, zNx, or_true, true_or, or_false, false_or, or_self] at h
    repeat' split at h
    all_goals first
      | (cases h; done)
      | (cases h; exact Or.inl ⟨by assumption, rfl, by omega, by omega⟩)
      | (cases h; exact Or.inr ⟨by assumption, rfl, rfl, by assumption⟩)
  by_cases h21 : zop w = 21
  · simp only [zOne, h21, ↓reduceIte, Nat.reduceEqDiff, zNx, or_true, true_or, or_false, false_or, or_self] at h
    repeat' split at h
    all_goals first
      | (cases h; done)
      | (cases h; exact Or.inl ⟨by assumption, rfl, by omega, by omega⟩)
      | (cases h; exact Or.inr ⟨by assumption, rfl, rfl, by assumption⟩)
  by_cases h22 : zop w = 22
  · simp only [zOne, h22, ↓reduceIte, Nat.reduceEqDiff, zNx, or_true, true_or, or_false, false_or, or_self] at h
    repeat' split at h
    all_goals first
      | (cases h; done)
      | (cases h; exact Or.inl ⟨by assumption, rfl, by omega, by omega⟩)
      | (cases h; exact Or.inr ⟨by assumption, rfl, rfl, by assumption⟩)
  by_cases h23 : zop w = 23
  · simp only [zOne, h23, ↓reduceIte, Nat.reduceEqDiff, zNx, or_true, true_or, or_false, false_or, or_self] at h
    repeat' split at h
    all_goals first
      | (cases h; done)
      | (cases h; exact Or.inl ⟨by assumption, rfl, by omega, by omega⟩)
      | (cases h; exact Or.inr ⟨by assumption, rfl, rfl, by assumption⟩)
  by_cases h24 : zop w = 24
  · simp only [zOne, h24, ↓reduceIte, Nat.reduceEqDiff, zNx, or_true, true_or, or_false, false_or, or_self] at h
    repeat' split at h
    all_goals first
      | (cases h; done)
      | (cases h; exact Or.inl ⟨by assumption, rfl, by omega, by omega⟩)
      | (cases h; exact Or.inr ⟨by assumption, rfl, rfl, by assumption⟩)
  by_cases h25 : zop w = 25
  · simp only [zOne, h25, ↓reduceIte, Nat.reduceEqDiff, zNx, or_true, true_or, or_false, false_or, or_self] at h
    repeat' split at h
    all_goals first
      | (cases h; done)
      | (cases h; exact Or.inl ⟨by assumption, rfl, by omega, by omega⟩)
      | (cases h; exact Or.inr ⟨by assumption, rfl, rfl, by assumption⟩)
  by_cases h26 : zop w = 26
  · simp only [zOne, h26, ↓reduceIte, Nat.reduceEqDiff, zNx, or_true, true_or, or_false, false_or, or_self] at h
    repeat' split at h
    all_goals first
      | (cases h; done)
      | (cases h; exact Or.inl ⟨by assumption, rfl, by omega, by omega⟩)
      | (cases h; exact Or.inr ⟨by assumption, rfl, rfl, by assumption⟩)
  by_cases h27 : zop w = 27
  · simp only [zOne, h27, ↓reduceIte, Nat.reduceEqDiff, zNx, or_true, true_or, or_false, false_or, or_self] at h
    repeat' split at h
    all_goals first
      | (cases h; done)
      | (cases h; exact Or.inl ⟨by assumption, rfl, by omega, by omega⟩)
      | (cases h; exact Or.inr ⟨by assumption, rfl, rfl, by assumption⟩)
  by_cases h28 : zop w = 28
  · simp only [zOne, h28, ↓reduceIte, Nat.reduceEqDiff, zNx, or_true, true_or, or_false, false_or, or_self] at h
    repeat' split at h
    all_goals first
      | (cases h; done)
      | (cases h; exact Or.inl ⟨by assumption, rfl, by omega, by omega⟩)
      | (cases h; exact Or.inr ⟨by assumption, rfl, rfl, by assumption⟩)
  by_cases h29 : zop w = 29
  · simp only [zOne, h29, ↓reduceIte, Nat.reduceEqDiff, zNx, or_true, true_or, or_false, false_or, or_self] at h
    repeat' split at h
    all_goals first
      | (cases h; done)
      | (cases h; exact Or.inl ⟨by assumption, rfl, by omega, by omega⟩)
      | (cases h; exact Or.inr ⟨by assumption, rfl, rfl, by assumption⟩)
  by_cases h30 : zop w = 30
  · simp only [zOne, h30, ↓reduceIte, Nat.reduceEqDiff, zNx, or_true, true_or, or_false, false_or, or_self] at h
    repeat' split at h
    all_goals first
      | (cases h; done)
      | (cases h; exact Or.inl ⟨by assumption, rfl, by omega, by omega⟩)
      | (cases h; exact Or.inr ⟨by assumption, rfl, rfl, by assumption⟩)
  by_cases h31 : zop w = 31
  · simp only [zOne, h31, ↓reduceIte, Nat.reduceEqDiff, zNx, or_true, true_or, or_false, false_or, or_self] at h
    repeat' split at h
    all_goals first
      | (cases h; done)
      | (cases h; exact Or.inl ⟨by assumption, rfl, by omega, by omega⟩)
      | (cases h; exact Or.inr ⟨by assumption, rfl, rfl, by assumption⟩)
  by_cases h32 : zop w = 32
  · simp only [zOne, h32, ↓reduceIte, Nat.reduceEqDiff, zNx, or_true, true_or, or_false, false_or, or_self] at h
    repeat' split at h
    all_goals first
      | (cases h; done)
      | (cases h; exact Or.inl ⟨by assumption, rfl, by omega, by omega⟩)
      | (cases h; exact Or.inr ⟨by assumption, rfl, rfl, by assumption⟩)
  by_cases h33 : zop w = 33
  · simp only [zOne, h33, ↓reduceIte, Nat.reduceEqDiff, zNx, or_true, true_or, or_false, false_or, or_self] at h
    repeat' split at h
    all_goals first
      | (cases h; done)
      | (cases h; exact Or.inl ⟨by assumption, rfl, by omega, by omega⟩)
      | (cases h; exact Or.inr ⟨by assumption, rfl, rfl, by assumption⟩)
  by_cases h34 : zop w = 34
  · simp only [zOne, h34, ↓reduceIte, Nat.reduceEqDiff, zNx, or_true, true_or, or_false, false_or, or_self] at h
    repeat' split at h
    all_goals first
      | (cases h; done)
      | (cases h; exact Or.inl ⟨by assumption, rfl, by omega, by omega⟩)
      | (cases h; exact Or.inr ⟨by assumption, rfl, rfl, by assumption⟩)
  by_cases h35 : zop w = 35
  · simp only [zOne, h35, ↓reduceIte, Nat.reduceEqDiff, zNx, or_true, true_or, or_false, false_or, or_self] at h
    repeat' split at h
    all_goals first
      | (cases h; done)
      | (cases h; exact Or.inl ⟨by assumption, rfl, by omega, by omega⟩)
      | (cases h; exact Or.inr ⟨by assumption, rfl, rfl, by assumption⟩)
  by_cases h36 : zop w = 36
  · simp only [zOne, h36, ↓reduceIte, Nat.reduceEqDiff, zNx, or_true, true_or, or_false, false_or, or_self] at h
    repeat' split at h
    all_goals first
      | (cases h; done)
      | (cases h; exact Or.inl ⟨by assumption, rfl, by omega, by omega⟩)
      | (cases h; exact Or.inr ⟨by assumption, rfl, rfl, by assumption⟩)
  by_cases h42 : zop w = 42
  · simp only [zOne, h42, ↓reduceIte, Nat.reduceEqDiff, zNx, or_true, true_or, or_false, false_or, or_self] at h
    repeat' split at h
    all_goals first
      | (cases h; done)
      | (cases h; exact Or.inl ⟨by assumption, rfl, by omega, by omega⟩)
      | (cases h; exact Or.inr ⟨by assumption, rfl, rfl, by assumption⟩)
  by_cases h43 : zop w = 43
  · simp only [zOne, h43, ↓reduceIte, Nat.reduceEqDiff, zNx, or_true, true_or, or_false, false_or, or_self] at h
    repeat' split at h
    all_goals first
      | (cases h; done)
      | (cases h; exact Or.inl ⟨by assumption, rfl, by omega, by omega⟩)
      | (cases h; exact Or.inr ⟨by assumption, rfl, rfl, by assumption⟩)
  by_cases h44 : zop w = 44
  · simp only [zOne, h44, ↓reduceIte, Nat.reduceEqDiff, zNx, or_true, true_or, or_false, false_or, or_self] at h
    repeat' split at h
    all_goals first
      | (cases h; done)
      | (cases h; exact Or.inl ⟨by assumption, rfl, by omega, by omega⟩)
      | (cases h; exact Or.inr ⟨by assumption, rfl, rfl, by assumption⟩)
  by_cases h45 : zop w = 45
  · simp only [zOne, h45, ↓reduceIte, Nat.reduceEqDiff, zNx, or_true, true_or, or_false, false_or, or_self] at h
    repeat' split at h
    all_goals first
      | (cases h; done)
      | (cases h; exact Or.inl ⟨by assumption, rfl, by omega, by omega⟩)
      | (cases h; exact Or.inr ⟨by assumption, rfl, rfl, by assumption⟩)
  by_cases h46 : zop w = 46
  · simp only [zOne, h46, ↓reduceIte, Nat.reduceEqDiff, zNx, or_true, true_or, or_false, false_or, or_self] at h
    repeat' split at h
    all_goals first
      | (cases h; done)
      | (cases h; exact Or.inl ⟨by assumption, rfl, by omega, by omega⟩)
      | (cases h; exact Or.inr ⟨by assumption, rfl, rfl, by assumption⟩)
  simp only [zOne, h1, h2, h3, h4, h5, h6, h7, h8, h9, h10, h11, h12, h47, h13, h14, h15, h16, h17, h18, h19, h20, h21, h22, h23, h24, h25, h26, h27, h28, h29, h30, h31, h32, h33, h34, h35, h36, h42, h43, h44, h45, h46, ↓reduceIte, or_self] at h
  cases h
theorem zGo_mono {sc : List Nat} : ∀ (n : Nat) {i pc : Nat} {ls st : List Nat} {m : zM} {v : Nat} {m' : zM}, zGo sc n i pc ls st m = some (v, m') → (m.length ≤ m'.length ∧ zSl m ≤ zSl m') ∧ v < 4294967296 := by
  intro n
  induction n with
  | zero => intro i pc ls st m v m' h; cases h
  | succ n ih =>
    intro i pc ls st m v m' h
    unfold zGo at h
    split at h
    · split at h
      · split at h
        · rename_i v1 m1 hgo
          have h1 := ih hgo
          have h2 := ih h
          exact ⟨⟨Nat.le_trans h1.1.1 h2.1.1, Nat.le_trans h1.1.2 h2.1.2⟩, h2.2⟩
        · cases h
      · cases h
    · split at h
      · rename_i hone
        have h1 := zOne_mono hone
        have h2 := ih h
        exact ⟨⟨Nat.le_trans h1.1 h2.1.1, Nat.le_trans h1.2 h2.1.2⟩, h2.2⟩
      · rename_i v hone
        cases h
        refine ⟨⟨Nat.le_refl _, Nat.le_refl _⟩, ?_⟩
        rcases zOne_ret hone with h | h <;> omega
      · cases h
/-! ===== a method's frame at its start ===== -/
theorem zlg_len {base : Nat} {K : Nat → Nat} (as : List Nat) : (lg_sl (as.map (zV base K))).length = as.length := by
  induction as with
  | nil => rfl
  | cons a t ih =>
    rw [List.map_cons]
    unfold lg_sl at ih ⊢
    rw [List.flatMap_cons, List.length_append, ih, zV_cat]
    simp
    omega
theorem zlv_args {base : Nat} {K : Nat → Nat} : ∀ (as : List Nat) (k j c : Nat), as[j]? = some c → (k + j, zV base K c) ∈ lv_args k (as.map (zV base K)) := by
  intro as
  induction as with
  | nil => intro k j c h; simp at h
  | cons a t ih =>
    intro k j c h
    rw [List.map_cons]
    unfold lv_args
    rw [zV_cat]
    cases j with
    | zero =>
      simp at h
      subst h
      exact List.mem_cons_self
    | succ j =>
      refine List.mem_cons_of_mem _ ?_
      have := ih (k + 1) j c (by simpa using h)
      rw [show k + (j + 1) = k + 1 + j by omega]
      exact this
theorem zFr_entry {base : Nat} {K : Nat → Nat} {as : List Nat} {n : Nat} (h : as.length ≤ n) : zFr base K (as ++ List.replicate (n - as.length) 1099511627776) ((lg_sl (as.map (zV base K)) ++ List.replicate (n - (lg_sl (as.map (zV base K))).length) Slot.unset).toArray) n := by
  obtain ⟨h1, h2, h3⟩ := lv_entry (as.map (zV base K)) (n := n) (by rw [zlg_len]; exact h)
  refine ⟨by rw [List.length_append, List.length_replicate]; omega, h1, h2, fun q hq => ?_⟩
  obtain ⟨j, v⟩ := q
  obtain ⟨c, e1, e2, rfl⟩ := zLv_mem.mp hq
  have hj : j < as.length := by
    apply Classical.byContradiction
    intro hj
    rw [List.getElem?_append_right (by omega), List.getElem?_replicate] at e1
    split at e1
    · cases e1
      omega
    · cases e1
  rw [List.getElem?_append_left hj] at e1
  have := zlv_args (base := base) (K := K) as 0 j c e1
  rw [Nat.zero_add] at this
  exact h3 _ this
/-! ===== contracts ===== -/
def zPre (sc : List Nat) (base : Nat) (K : Nat → Nat) (D : va_G) (G : Nat → ClassId) (m : zM) (as : List Nat) : Array Value → State → Prop :=
  va_Pc (as.map (zV base K)) (fun U => zP D G base K m U.heap ∧ (zKn D G U ∧ zSt sc base K U U.heap))
def zPost (base : Nat) (K : Nat → Nat) (D : va_G) (G : Nat → ClassId) (m' : zM) (i v : Nat) : Array Value → State → Outcome → State → Prop :=
  if zRet i = 0 then va_Qv (fun _ : Unit => True) (fun _ t => zP D G base K m' t.heap) (fun q : Nat => base ≤ q)
  else va_Qi (fun (r : Int32) (_ : Unit) => r = nI v) (fun _ t => zP D G base K m' t.heap) (fun q : Nat => base ≤ q)
def zWs (i : Nat) : List Cond := .code (zY i) (zCode i) (zMaxL i) (zRt i) :: zWT
def zRm (i : Nat) (m m' : zM) : Room := { frames := zNf i, cells := m'.length - m.length, slots := zSl m' - zSl m, locals := zNl i }
theorem zPre_blind {sc : List Nat} {base : Nat} {K : Nat → Nat} {D : va_G} {G : Nat → ClassId} {m : zM} {as : List Nat} : FrameBlind (zPre sc base K D G m as) := fun a U g mk q => ⟨q.1, q.2.1, zKn_same (s := U) (U := U.calling g mk a) rfl q.2.2.1, zSt_moved (s := U) (U := U.calling g mk a) (Vm.Alike.refl U.vm) q.2.2.2⟩
/-- a walk that ends with the answer v in the memory m', whatever is wanted behind its last instruction -/
def zWk (sc : List Nat) (l : Launch) (i pc : Nat) (ls st : List Nat) (m : zM) (v : Nat) (m' : zM) : Prop :=
  ∀ (p : Program) (e : Env) (R : Room) (s : State) (mid : MethodId) (args : Array Value) (below : List Frame) (meth : Method) (c : Code) (Q : State → Prop) (base n0 l0 : Nat) (K : Nat → Nat) (D : va_G) (G : Nat → ClassId), zCtx sc p R s mid args meth c base K D G i → (n0 ≤ m.length ∧ l0 ≤ zSl m) → (m'.length - n0 ≤ R.cells ∧ zSl m' - l0 ≤ R.slots) →
    (∀ (pc' : Nat) (ls' st' : List Nat), zOkI i pc' (zI i pc') = true → zOne sc i (zI i pc') pc' ls' st' m' = some (.inr v) → zGl p l e R s mid args below meth c Q base n0 l0 K D G i pc' ls' st' m') →
    zGl p l e R s mid args below meth c Q base n0 l0 K D G i pc ls st m
/-- what the check of a method says -/
theorem zk_meth {a : Nat} (ha : a < 65) : (Cond.code (zY a) (zCode a) (zMaxL a) (zRt a) ∈ zWT ∧ (if zMtf a 8 = 1 then Cond.static (zY a) else Cond.instanceMethod (zY a)) ∈ zWT) ∧ ((zMtf a 8 = 1 ∨ (zY a).name = "<init>" ∨ Cond.selects (zOwn a) (zY a) (zY a) ∈ zWT) ∧ Cond.initialized (zOwn a) ∈ zWT) ∧ ((zOwn a = zCn (zMtf a 0) ∧ (zMtf a 0 < 6 ∨ zMtf a 8 = 1)) ∧ plainName (zOwn a) = true) ∧ (zOwn a ≠ "java/lang/invoke/MethodHandle" ∧ zOwn a ≠ "java/lang/invoke/VarHandle" ∧ (parseMethodDescriptor (zY a).desc).map (fun d => d.parameters.length) = some (zNp a)) := by
  have hck := zk_mt ha
  unfold zChM at hck
  simp only [Bool.and_eq_true, decide_eq_true_eq, Bool.or_eq_true] at hck
  obtain ⟨⟨h5, h6⟩, h7, h9, ⟨hcn, hc7⟩, hpl, hmh, hvh, hnp⟩ := hck
  refine ⟨⟨?_, zHas_in h6⟩, ⟨?_, zHas_in h9⟩, ⟨⟨hcn, hc7⟩, hpl⟩, hmh, hvh, hnp⟩
  · split at h5
    · rename_i y b n r hq
      simp only [Bool.and_eq_true, decide_eq_true_eq] at h5
      obtain ⟨e1, e2, e3⟩ := h5
      have hb : zCode a = b := by
        unfold zCode
        rw [if_neg (by omega), hq]
      rw [hb, ← e1, ← e2, ← e3]
      exact List.mem_filter.mpr ⟨List.mem_of_getElem? hq, rfl⟩
    · cases h5
  · rcases h7 with h | h | h
    · exact Or.inl h
    · exact Or.inr (Or.inl h)
    · exact Or.inr (Or.inr (zHas_in h))
theorem zWs_good {a : Nat} (ha : a < 65) : GoodIn zWT (zWs a) := fun w hw => by
  rcases List.mem_cons.mp hw with rfl | h
  · exact zWT_self _ (zk_meth ha).1.1
  · exact zWT_self _ h
section ZD
variable {p : Program} {l : Launch} {e : Env} {R : Room} {s : State} {mid : MethodId} {args : Array Value} {below : List Frame} {meth : Method} {c : Code} {Q : State → Prop}
variable {sc : List Nat} {base n0 l0 : Nat} {K : Nat → Nat} {D : va_G} {G : Nat → ClassId} {i pc w pc' v : Nat} {ls st ls' st' : List Nat} {m m' m1 : zM}
theorem zs_ret (hc : zCtx sc p R s mid args meth c base K D G i) (hok : zOkI i pc w = true) (h : zOne sc i w pc ls st m = some (.inr v)) : zGl p l e R s mid args below meth c (MQ below (zPost base K D G m i v) args s (m.length - n0) (zSl m - l0) (fun q : Nat => base ≤ q)) base n0 l0 K D G i pc ls st m := by
  obtain ⟨⟨hx, hb, hml⟩, ⟨hrt, hlk⟩, ⟨hown, hnm⟩, hts, ⟨hKn, hSt⟩, hfr, hlo⟩ := hc
  intro H locs lsM hF hR
  rcases zOne_ret h with ⟨hop, rfl, hv, hz⟩ | ⟨hop, rfl, rfl, hz⟩
  · simp only [zOkI, hop, ↓reduceIte, Nat.reduceEqDiff, decide_eq_true_eq] at hok
    have hpost : zPost base K D G m i v = va_Qi (fun (r : Int32) (_ : Unit) => r = nI v) (fun _ t => zP D G base K m t.heap) (fun q : Nat => base ≤ q) := by
      unfold zPost
      rw [if_neg (by omega)]
    rw [hpost, List.map_cons, List.map_nil, zV_int hv]
    rcases hz with hz | ⟨hz, hv2⟩
    · exact W.iret hx hb (hrt.trans (by simp [zRt, hz])) (fun t ht hW => ⟨⟨nI v, (), rfl, rfl, by show zP D G base K _ t.heap; rw [ht]; exact hR.1⟩, hR.2.F ht⟩) hR.2.2.2 hok hlk
    · exact W.zret (ty := .boolean) hx hb (hrt.trans (by simp [zRt, hz])) (by rcases (show v = 0 ∨ v = 1 by omega) with rfl | rfl <;> rfl) (fun t ht hW => ⟨⟨nI v, (), rfl, rfl, by show zP D G base K _ t.heap; rw [ht]; exact hR.1⟩, hR.2.F ht⟩) hR.2.2.2 hok hlk
  · simp only [zOkI, hop, ↓reduceIte, Nat.reduceEqDiff, decide_eq_true_eq] at hok
    have hpost : zPost base K D G m i 0 = va_Qv (fun _ : Unit => True) (fun _ t => zP D G base K m t.heap) (fun q : Nat => base ≤ q) := by
      unfold zPost
      rw [if_pos hz]
    rw [hpost, List.map_nil]
    exact W.vret hx hb (hrt.trans (by simp [zRt, hz])) (fun t ht hW => ⟨⟨(), rfl, trivial, by show zP D G base K _ t.heap; rw [ht]; exact hR.1⟩, hR.2.F ht⟩) hR.2.2.2 hok hlk
end ZD
theorem zMet {sc : List Nat} {l : Launch} {a : Nat} {as : List Nat} {m m' : zM} {v : Nat} (ha : a < 65) (hnb : as.length ≤ zMaxL a) (hw : zWk sc l a 0 (as ++ List.replicate (zMaxL a - as.length) 1099511627776) [] m v m') (base : Nat) (K : Nat → Nat) (D : va_G) (G : Nat → ClassId) : Met l (zY a) (zWs a) (zRm a m m') (zPre sc base K D G m as) (zPost base K D G m' a v) (m'.length - m.length) (zSl m' - zSl m) (fun q : Nat => base ≤ q) := by
  refine Met.ofW (cc := zCode a) (maxL := zMaxL a) (ret := zRt a) (zk_meth ha).2.2.1.2 rfl ?_
  intro p e s mid args below meth c s₁ B hml hv
  obtain ⟨rfl, hP, hKn, hSt⟩ := hv
  have hts := atoms_spec (ws := zWs a) B.pre
  have hctx : zCtx sc p (headSpec (zWs a) (zRm a m m')).room s mid (as.map (zV base K)).toArray meth c base K D G a := ⟨⟨B.exec, B.bytes, hml⟩, ⟨B.returns, B.notSynchronized⟩, ⟨findClass_of_methodNamed B.named, fun h => (name_of_methodNamed B.named B.method).1.trans h⟩, fun w hw => hts w (List.mem_cons_of_mem _ hw), ⟨hKn, hSt⟩, Nat.le_refl _, Nat.le_refl _⟩
  have hgo := hw p e _ s mid _ below meth c (MQ below (zPost base K D G m' a v) (as.map (zV base K)).toArray s (m'.length - m.length) (zSl m' - zSl m) (fun q : Nat => base ≤ q)) base m.length (zSl m) K D G hctx ⟨Nat.le_refl _, Nat.le_refl _⟩ ⟨Nat.le_refl _, Nat.le_refl _⟩ (fun pc' ls' st' hok hone => zs_ret hctx hok hone) s.heap [] _ (zFr_entry hnb) ⟨hP, va_S.rf⟩
  rw [Nat.sub_self, Nat.sub_self] at hgo
  rw [lg_entry_eq]
  exact hgo
