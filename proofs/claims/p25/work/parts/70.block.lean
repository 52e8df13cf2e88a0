/-! ===== A BLOCK: the 61 cells of a Harbour, and what they stand for. a: 0 clock, 1 arms, 2 loads done, 3 work done, 4 ticks waited, 5 to 9 settings, 10 11 distances, 12 13 looks, 14 ways; 100 + 8 i + k the arm i; 300 + 30 q + (0 length, 1 loads done, 2 coming, 3 to 11 work) the line q. p: where the arms stand. ===== -/
def bKd (o : Nat) : Nat := if o = 0 then 1 else if o = 1 then 9 else if o = 2 then 10 else if o = 6 then 4 else if o ≤ 7 then 7 else if o ≤ 24 then 0 else if (o - 25) % 3 = 0 then 2 else 7
def bLn (o : Nat) : Nat := if o = 0 then 11 else if o = 1 then 17 else if o = 2 then 12 else if o = 3 then 5 else if o ≤ 6 then 2 else if o = 7 then 80 else if o ≤ 24 then 8 else if (o - 25) % 3 = 0 then 5 else 9
def bR (b o : Nat) : Nat := 4294967297 + (b + o)
/-- what a slot holds -/
def bV (b : Nat) (p a : Nat → Nat) (o j v : Nat) : Prop :=
  if o = 0 then v = (if j = 0 then a 0 else if j = 1 then a 1 else if j ≤ 7 then bR b (j - 1) else a (j - 6))
  else if o = 1 then v = bR b (8 + p j)
  else if o = 2 then v = bR b (25 + 3 * j)
  else if o = 3 then v = a (5 + j)
  else if o = 4 then v = a (10 + j)
  else if o = 5 then v = a (12 + j)
  else if o = 6 then v = (if j = 0 then bR b 7 else a 14)
  else if o = 7 then v < 4294967296
  else if o ≤ 24 then v < 4294967296 ∧ ∀ i, i < a 1 → 8 + p i = o → v = a (100 + 8 * i + j)
  else if (o - 25) % 3 = 0 then v = (if j = 0 then bR b (o + 1) else if j = 1 then bR b (o + 2) else a (300 + 30 * ((o - 25) / 3) + (j - 2)))
  else if (o - 25) % 3 = 1 then v = a (303 + 30 * ((o - 25) / 3) + j)
  else v < 4294967296
/-- the block at b stands for a -/
def bM (b : Nat) (p a : Nat → Nat) (m : zM) : Prop := ∀ o, o < 61 → ∃ f : Nat → Nat, m[b + o]? = some (bKd o, bLn o, f) ∧ ∀ j, j < bLn o → bV b p a o j (f j)
def bOk (b : Nat) (p a : Nat → Nat) : Prop := ((∀ i, i < 17 → p i < 17) ∧ ∀ i k, i < 17 → k < 17 → p i = p k → i = k) ∧ ((∀ x, a x < 4294967296) ∧ a 1 ≤ 17) ∧ b < 100000
/-- only the block's cells have changed -/
def bFr (b : Nat) (m0 m : zM) : Prop := m.length = m0.length ∧ ∀ k, (k < b ∨ b + 61 ≤ k) → m[k]? = m0[k]?
def bU (a : Nat → Nat) (x v : Nat) : Nat → Nat := fun y => if y = x then v else a y
theorem bU_s {a : Nat → Nat} {x v : Nat} : bU a x v x = v := if_pos rfl
theorem bU_n {a : Nat → Nat} {x v y : Nat} (h : y ≠ x) : bU a x v y = a y := if_neg h
theorem bFr_rf {b : Nat} {m : zM} : bFr b m m := ⟨rfl, fun _ _ => rfl⟩
theorem bFr_set {b o : Nat} {m0 m : zM} {x : Nat × Nat × (Nat → Nat)} (h : bFr b m0 m) (ho : o < 61) : bFr b m0 (m.set (b + o) x) := by
  refine ⟨by rw [List.length_set]; exact h.1, fun k hk => ?_⟩
  rw [List.getElem?_set_ne (by omega)]
  exact h.2 k hk
/-- a number that no other slot stands for may change -/
theorem bV_U {b x w o j v : Nat} {p a : Nat → Nat} (h1 : x ≠ 1)
    (c0 : o = 0 → (j = 0 → x ≠ 0) ∧ (8 ≤ j → x ≠ j - 6)) (c3 : o = 3 → x ≠ 5 + j) (c4 : o = 4 → x ≠ 10 + j) (c5 : o = 5 → x ≠ 12 + j) (c6 : o = 6 → j ≠ 0 → x ≠ 14)
    (ca : 8 ≤ o → o ≤ 24 → ∀ i, i < a 1 → 8 + p i = o → x ≠ 100 + 8 * i + j)
    (cl : 25 ≤ o → (o - 25) % 3 = 0 → 2 ≤ j → x ≠ 300 + 30 * ((o - 25) / 3) + (j - 2)) (cw : 25 ≤ o → (o - 25) % 3 = 1 → x ≠ 303 + 30 * ((o - 25) / 3) + j) (h : bV b p a o j v) : bV b p (bU a x w) o j v := by
  unfold bV at h ⊢
  by_cases e0 : o = 0
  · rw [if_pos e0] at h ⊢
    obtain ⟨c01, c02⟩ := c0 e0
    rw [h]
    by_cases q0 : j = 0
    · rw [if_pos q0, if_pos q0, bU_n (Ne.symm (c01 q0))]
    rw [if_neg q0, if_neg q0]
    by_cases q1 : j = 1
    · rw [if_pos q1, if_pos q1, bU_n (Ne.symm h1)]
    rw [if_neg q1, if_neg q1]
    by_cases q2 : j ≤ 7
    · rw [if_pos q2, if_pos q2]
    · rw [if_neg q2, if_neg q2, bU_n (Ne.symm (c02 (by omega)))]
  rw [if_neg e0] at h ⊢
  by_cases e1 : o = 1
  · rw [if_pos e1] at h ⊢
    exact h
  rw [if_neg e1] at h ⊢
  by_cases e2 : o = 2
  · rw [if_pos e2] at h ⊢
    exact h
  rw [if_neg e2] at h ⊢
  by_cases e3 : o = 3
  · rw [if_pos e3] at h ⊢
    rw [h, bU_n (Ne.symm (c3 e3))]
  rw [if_neg e3] at h ⊢
  by_cases e4 : o = 4
  · rw [if_pos e4] at h ⊢
    rw [h, bU_n (Ne.symm (c4 e4))]
  rw [if_neg e4] at h ⊢
  by_cases e5 : o = 5
  · rw [if_pos e5] at h ⊢
    rw [h, bU_n (Ne.symm (c5 e5))]
  rw [if_neg e5] at h ⊢
  by_cases e6 : o = 6
  · rw [if_pos e6] at h ⊢
    rw [h]
    by_cases q0 : j = 0
    · rw [if_pos q0, if_pos q0]
    · rw [if_neg q0, if_neg q0, bU_n (Ne.symm (c6 e6 q0))]
  rw [if_neg e6] at h ⊢
  by_cases e7 : o = 7
  · rw [if_pos e7] at h ⊢
    exact h
  rw [if_neg e7] at h ⊢
  by_cases e8 : o ≤ 24
  · rw [if_pos e8] at h ⊢
    refine ⟨h.1, fun i hi hp => ?_⟩
    rw [bU_n (Ne.symm h1)] at hi
    rw [bU_n (Ne.symm (ca (by omega) e8 i hi hp))]
    exact h.2 i hi hp
  rw [if_neg e8] at h ⊢
  by_cases e9 : (o - 25) % 3 = 0
  · rw [if_pos e9] at h ⊢
    rw [h]
    by_cases q0 : j = 0
    · rw [if_pos q0, if_pos q0]
    rw [if_neg q0, if_neg q0]
    by_cases q1 : j = 1
    · rw [if_pos q1, if_pos q1]
    · rw [if_neg q1, if_neg q1, bU_n (Ne.symm (cl (by omega) e9 (by omega)))]
  rw [if_neg e9] at h ⊢
  by_cases e10 : (o - 25) % 3 = 1
  · rw [if_pos e10] at h ⊢
    rw [h, bU_n (Ne.symm (cw (by omega) e10))]
  rw [if_neg e10] at h ⊢
  exact h
/-- a slot is written -/
theorem bM_set {b o j v : Nat} {p a a' : Nat → Nat} {m : zM} {f : Nat → Nat} (hM : bM b p a m) (hz : m[b + o]? = some (bKd o, bLn o, f)) (ho : o < 61) (hv : bV b p a' o j v) (hs : ∀ o' j', o' < 61 → j' < bLn o' → ¬ (o' = o ∧ j' = j) → ∀ x, bV b p a o' j' x → bV b p a' o' j' x) : bM b p a' (m.set (b + o) (bKd o, bLn o, zUp f j v)) := by
  intro o' ho'
  obtain ⟨f', h1, h2⟩ := hM o' ho'
  by_cases e : o' = o
  · subst e
    rw [hz] at h1
    cases h1
    refine ⟨zUp f j v, List.getElem?_set_self (List.getElem?_eq_some_iff.mp hz).1, fun k hk => ?_⟩
    by_cases q : k = j
    · subst q
      rw [show zUp f k v k = v from if_pos rfl]
      exact hv
    · rw [show zUp f j v k = f k from if_neg q]
      exact hs o' k ho' hk (fun z => q z.2) _ (h2 k hk)
  · refine ⟨f', ?_, fun k hk => hs o' k ho' hk (fun z => e z.1) _ (h2 k hk)⟩
    rw [List.getElem?_set_ne (by omega)]
    exact h1
theorem bOk_U {b x v : Nat} {p a : Nat → Nat} (h : bOk b p a) (hx : x ≠ 1) (hv : v < 4294967296) : bOk b p (bU a x v) := by
  refine ⟨h.1, ⟨fun y => ?_, by rw [bU_n (Ne.symm hx)]; exact h.2.1.2⟩, h.2.2⟩
  unfold bU
  split
  · exact hv
  · exact h.2.1.1 y
