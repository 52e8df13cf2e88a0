/-! ===== loadAll's row ===== -/
def tP : eS := ([], 115, 17, [(1, 56, 0, 0, 57, 0), (0, 2147483648, 2147483648, 0, 20001, 0), eAny], [], [], 30000)
def tC : eCt := (20000, (20001, 1, 2147483648, 2147483648), [tP])
set_option maxRecDepth 100000 in
theorem t_at : ((decide (0 < eSg.getD 56 0) && (decide (0 < eSg.getD 50 0) && decide (0 < eSg.getD 55 0))) && ((decide (eKd 56 = 6) && decide (eLen 56 = 12)) && ((decide (eKd 50 = 7) && decide (eLen 50 = 471)) && (decide (eKd 55 = 7) && decide (eLen 55 = 60))))) && (decide (eTy 56 0 = (1, 50, 0, 0, 0, 0)) && (decide (eTy 56 10 = (1, 55, 0, 0, 0, 0)) && (decide (eTy 56 11 = (0, 2147483648, 2147483668, 1, 0, 0)) && (List.range 20).all (fun j => decide (eTy 55 (3 * j) = (0, 2147483648, 2147483659, 1, 0, 0)) && (decide (eTy 55 (3 * j + 1) = (0, 2147483648, 2147483747, 1, 0, 0)) && decide (eTy 55 (3 * j + 2) = (0, 2147483648, 2147483657, 1, 0, 0))))))) = true := by decide +kernel
theorem zAt_k {m : zM} {k : Nat} (h : k < 4000000000) : zAt m (4294967297 + k) = m[k]? := by
  unfold zAt
  rw [if_pos (by omega), Nat.add_sub_cancel_left]
/-- a single cell's address -/
theorem gA_sing {Bc r c : Nat} (hs : 0 < eSg.getD r 0) (g : gA Bc (1, r, 0, 0, 0, 0) c) : c = 4294967297 + (eSg.getD r 0 - 1) := by
  rcases g with ⟨g, -⟩ | ⟨-, k, g1, g2, g3⟩ | ⟨g, -⟩ | g | ⟨g, -⟩
  · cases g
  · have hc := (ed_cell eDat_t g1).2
    have g3 : eRG.getD k 0 = r := g3
    rw [g3] at hc
    have hc := hc.resolve_left (by omega)
    rw [g2, hc]
    rfl
  · cases g
  · cases g
  · cases g
theorem gA_le {Bc b c : Nat} (g : gA Bc (0, 2147483648, b, 1, 0, 0) c) : c ≤ b - 2147483648 := by
  obtain ⟨b1, ⟨b2, b3⟩, -⟩ := gA_i0 g
  have b4 := zs_of b1 (by omega)
  omega
theorem gM_at {Bc r : Nat} {m : zM} (hM : gM Bc m) (hs : 0 < eSg.getD r 0) : ∃ f : Nat → Nat, m[eSg.getD r 0 - 1]? = some (eKd r, eLen r, f) ∧ ∀ j : Nat, j < eLen r → gA Bc (eTy r j) (f j) := by
  obtain ⟨h1, h2⟩ := eSg_rg hs
  have := hM.2 _ h1
  rw [h2] at this
  exact this
theorem t_cell {m : zM} {k : Nat} {x : Nat × Nat × (Nat → Nat)} (h : m[k]? = some x) : m.set k x = m := by
  apply List.ext_getElem?
  intro j
  rw [List.getElem?_set]
  by_cases e : k = j
  · subst e
    rw [if_pos rfl, if_pos (List.getElem?_eq_some_iff.mp h).1, h]
  · rw [if_neg e]
/-- what is known of a memory's three cells -/
theorem t_mem {Bc : Nat} {m : zM} (hM : gM Bc m) : ∃ fM fn ft : Nat → Nat, (m[eSg.getD 56 0 - 1]? = some (6, 12, fM) ∧ m[eSg.getD 50 0 - 1]? = some (7, 471, fn) ∧ m[eSg.getD 55 0 - 1]? = some (7, 60, ft)) ∧ (fM 0 = 4294967297 + (eSg.getD 50 0 - 1) ∧ fM 10 = 4294967297 + (eSg.getD 55 0 - 1) ∧ fM 11 ≤ 20) ∧ (∀ j, j < 471 → gA Bc (eTy 50 j) (fn j)) ∧ ((∀ j, j < 20 → ft (3 * j) ≤ 11) ∧ (∀ j, j < 20 → ft (3 * j + 1) ≤ 99) ∧ (∀ j, j < 20 → ft (3 * j + 2) ≤ 9)) := by
  have h0 := t_at
  simp only [Bool.and_eq_true, decide_eq_true_eq] at h0
  obtain ⟨⟨⟨s1, s2, s3⟩, ⟨k1, l1⟩, ⟨k2, l2⟩, k3, l3⟩, y0, y10, y11, yt⟩ := h0
  obtain ⟨fM, a1, a2⟩ := gM_at hM s1
  obtain ⟨fn, b1, b2⟩ := gM_at hM s2
  obtain ⟨ft, c1, c2⟩ := gM_at hM s3
  rw [k1, l1] at a1
  rw [k2, l2] at b1
  rw [k3, l3] at c1
  have yy : ∀ j, j < 20 → eTy 55 (3 * j) = (0, 2147483648, 2147483659, 1, 0, 0) ∧ eTy 55 (3 * j + 1) = (0, 2147483648, 2147483747, 1, 0, 0) ∧ eTy 55 (3 * j + 2) = (0, 2147483648, 2147483657, 1, 0, 0) := fun j hj => by
    have := List.all_eq_true.mp yt j (List.mem_range.mpr hj)
    simpa only [Bool.and_eq_true, decide_eq_true_eq] using this
  refine ⟨fM, fn, ft, ⟨a1, b1, c1⟩, ⟨?_, ?_, ?_⟩, fun j hj => b2 j (by omega), fun j hj => ?_, fun j hj => ?_, fun j hj => ?_⟩
  · have := a2 0 (by omega)
    rw [y0] at this
    exact gA_sing s2 this
  · have := a2 10 (by omega)
    rw [y10] at this
    exact gA_sing s3 this
  · have := a2 11 (by omega)
    rw [y11] at this
    have h := gA_le this
    omega
  · have := c2 (3 * j) (by omega)
    rw [(yy j hj).1] at this
    have h := gA_le this
    omega
  · have := c2 (3 * j + 1) (by omega)
    rw [(yy j hj).2.1] at this
    have h := gA_le this
    omega
  · have := c2 (3 * j + 2) (by omega)
    rw [(yy j hj).2.2] at this
    have h := gA_le this
    omega
theorem t_len : eRG.length < 4000000000 ∧ (eSg.getD 56 0 - 1 ≠ eSg.getD 50 0 - 1 ∧ eSg.getD 55 0 - 1 ≠ eSg.getD 50 0 - 1) := by decide +kernel
theorem tM_set {Bc : Nat} {m : zM} {g : Nat → Nat} (hM : gM Bc m) (hg : ∀ j, j < 471 → gA Bc (eTy 50 j) (g j)) : gM Bc (m.set (eSg.getD 50 0 - 1) (7, 471, g)) := by
  have h0 := t_at
  simp only [Bool.and_eq_true, decide_eq_true_eq] at h0
  obtain ⟨⟨⟨s1, s2, s3⟩, ⟨k1, l1⟩, ⟨k2, l2⟩, k3, l3⟩, -⟩ := h0
  obtain ⟨h1, h2⟩ := eSg_rg s2
  refine ⟨by rw [List.length_set]; exact hM.1, fun k hk => ?_⟩
  rw [List.getElem?_set]
  by_cases e : eSg.getD 50 0 - 1 = k
  · rw [if_pos e, if_pos (by rw [hM.1, e]; exact hk), ← e, h2, k2, l2]
    exact ⟨g, rfl, hg⟩
  · rw [if_neg e]
    exact hM.2 k hk
theorem tW_set {W : List (Nat × Nat × Nat)} {m : zM} {fn g : Nat → Nat} (hW : (50, 231, 470) ∈ W) (hn : m[eSg.getD 50 0 - 1]? = some (7, 471, fn)) (hg : ∀ j, (j < 231 ∨ 471 ≤ j) → g j = fn j) : gW W m (m.set (eSg.getD 50 0 - 1) (7, 471, g)) := by
  have h0 := t_at
  simp only [Bool.and_eq_true, decide_eq_true_eq] at h0
  obtain ⟨⟨⟨s1, s2, s3⟩, -⟩, -⟩ := h0
  obtain ⟨h1, h2⟩ := eSg_rg s2
  intro k kd n f hk
  rw [List.getElem?_set]
  by_cases e : eSg.getD 50 0 - 1 = k
  · rw [if_pos e, if_pos (by rw [e]; exact (List.getElem?_eq_some_iff.mp hk).1)]
    rw [← e, hn] at hk
    cases hk
    refine ⟨g, rfl, fun j hj => hg j ?_⟩
    by_cases q : j < 231 ∨ 471 ≤ j
    · exact q
    · exact (hj _ hW (by rw [← e, h2]) (by show 231 ≤ j; omega) (by show j ≤ 470; omega)).elim
  · rw [if_neg e]
    exact ⟨f, hk, fun _ _ => rfl⟩
/-- names and grids don't matter for what a value is -/
theorem gA_name {Bc r id off c : Nat} (g : gA Bc (1, r, 0, 0, id, off) c) : gA Bc (1, r, 0, 0, 0, 0) c := g
theorem gA_one {Bc lo st id off c : Nat} (g : gA Bc (0, lo, lo, st, id, off) c) : gA Bc (0, lo, lo, 1, 0, 0) c := by
  obtain ⟨b1, b2, -⟩ := gA_i0 g
  exact Or.inl ⟨rfl, b1, b2, Nat.one_dvd _⟩
