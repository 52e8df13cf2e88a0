/-! ===== a harbour is copied (printed by wip/gen/m89.py) ===== -/
section BK
variable {sc : List Nat} {Q : Nat → zM → Prop} {frs : gCf} {i pc w pc2 : Nat} {ls st : List Nat} {m m0 : zM} {b c : Nat} {p a r e : Nat → Nat}
/-- what slots stand for, if the numbers that they stand for are the same -/
theorem bV_X {a' : Nat → Nat} {o j v : Nat} (c0 : o = 0 → (j = 0 → a' 0 = a 0) ∧ (j = 1 → a' 1 = a 1) ∧ (8 ≤ j → a' (j - 6) = a (j - 6))) (c3 : o = 3 → a' (5 + j) = a (5 + j)) (c4 : o = 4 → a' (10 + j) = a (10 + j)) (c5 : o = 5 → a' (12 + j) = a (12 + j)) (c6 : o = 6 → j ≠ 0 → a' 14 = a 14) (ca : 8 ≤ o → o ≤ 24 → a' 1 = a 1 ∧ ∀ i, i < a 1 → a' (100 + 8 * i + j) = a (100 + 8 * i + j)) (cl : 25 ≤ o → (o - 25) % 3 = 0 → 2 ≤ j → a' (300 + 30 * ((o - 25) / 3) + (j - 2)) = a (300 + 30 * ((o - 25) / 3) + (j - 2))) (cw : 25 ≤ o → (o - 25) % 3 = 1 → a' (303 + 30 * ((o - 25) / 3) + j) = a (303 + 30 * ((o - 25) / 3) + j)) (h : bV b p a o j v) : bV b p a' o j v := by
  unfold bV at h ⊢
  by_cases e0 : o = 0
  · rw [if_pos e0] at h ⊢
    obtain ⟨c01, c02, c03⟩ := c0 e0
    rw [h]
    by_cases q0 : j = 0
    · rw [if_pos q0, if_pos q0, c01 q0]
    rw [if_neg q0, if_neg q0]
    by_cases q1 : j = 1
    · rw [if_pos q1, if_pos q1, c02 q1]
    rw [if_neg q1, if_neg q1]
    by_cases q2 : j ≤ 7
    · rw [if_pos q2, if_pos q2]
    · rw [if_neg q2, if_neg q2, c03 (by omega)]
  rw [if_neg e0] at h ⊢
  by_cases e1 : o = 1
  · rw [if_pos e1] at h ⊢
    exact h
  rw [if_neg e1] at h ⊢
  by_cases e2 : o = 2
  · rw [if_pos e2] at h ⊢
    exact h
  rw [if_neg e2] at h ⊢
  by_cases e3 : o = 3
  · rw [if_pos e3] at h ⊢
    rw [h, c3 e3]
  rw [if_neg e3] at h ⊢
  by_cases e4 : o = 4
  · rw [if_pos e4] at h ⊢
    rw [h, c4 e4]
  rw [if_neg e4] at h ⊢
  by_cases e5 : o = 5
  · rw [if_pos e5] at h ⊢
    rw [h, c5 e5]
  rw [if_neg e5] at h ⊢
  by_cases e6 : o = 6
  · rw [if_pos e6] at h ⊢
    rw [h]
    by_cases q0 : j = 0
    · rw [if_pos q0, if_pos q0]
    · rw [if_neg q0, if_neg q0, c6 e6 q0]
  rw [if_neg e6] at h ⊢
  by_cases e7 : o = 7
  · rw [if_pos e7] at h ⊢
    exact h
  rw [if_neg e7] at h ⊢
  by_cases e8 : o ≤ 24
  · rw [if_pos e8] at h ⊢
    obtain ⟨d1, d2⟩ := ca (by omega) e8
    refine ⟨h.1, fun i hi hp => ?_⟩
    rw [d1] at hi
    rw [d2 i hi]
    exact h.2 i hi hp
  rw [if_neg e8] at h ⊢
  by_cases e9 : (o - 25) % 3 = 0
  · rw [if_pos e9] at h ⊢
    rw [h]
    by_cases q0 : j = 0
    · rw [if_pos q0, if_pos q0]
    rw [if_neg q0, if_neg q0]
    by_cases q1 : j = 1
    · rw [if_pos q1, if_pos q1]
    · rw [if_neg q1, if_neg q1, cl (by omega) e9 (by omega)]
  rw [if_neg e9] at h ⊢
  by_cases e10 : (o - 25) % 3 = 1
  · rw [if_pos e10] at h ⊢
    rw [h, cw (by omega) e10]
  rw [if_neg e10] at h ⊢
  exact h
/-- the same numbers, where it matters -/
def aE (a e : Nat → Nat) : Prop := (∀ y, y < 15 → e y = a y) ∧ (∀ i, i < a 1 → ∀ c, c < 8 → e (100 + 8 * i + c) = a (100 + 8 * i + c)) ∧ ∀ q, q < 12 → ∀ c, c < 12 → e (300 + 30 * q + c) = a (300 + 30 * q + c)
theorem bS_X (hE : aE a e) (he : ∀ y, e y < 4294967296) (hS : bS b p a m0 m) : bS b p e m0 m := by
  obtain ⟨h1, h2, h3⟩ := hE
  refine ⟨fun o ho => ?_, ⟨hS.2.1.1, ⟨he, by rw [h1 1 (by decide)]; exact hS.2.1.2.1.2⟩, hS.2.1.2.2⟩, hS.2.2⟩
  obtain ⟨f, z1, z2⟩ := hS.1 o ho
  refine ⟨f, z1, fun j hj => ?_⟩
  obtain ⟨l0, l3, l4, l5, l6, la, ll, lw⟩ := bLn_b ho hj
  refine bV_X (fun q => ⟨fun _ => h1 _ (by decide), fun _ => h1 _ (by decide), fun _ => h1 _ (by have := l0 q; omega)⟩) (fun q => h1 _ (by have := l3 q; omega)) (fun q => h1 _ (by have := l4 q; omega)) (fun q => h1 _ (by have := l5 q; omega)) (fun _ _ => h1 _ (by decide)) (fun q q2 => ⟨h1 _ (by decide), fun i hi => h2 i hi j (la q q2)⟩) (fun q q2 q3 => h3 _ (by omega) _ (by have := ll q q2; omega)) (fun q q2 => ?_) (z2 j hj)
  have := h3 ((o - 25) / 3) (by omega) (3 + j) (by have := lw q (by omega); omega)
  rw [show 303 + 30 * ((o - 25) / 3) + j = 300 + 30 * ((o - 25) / 3) + (3 + j) by omega]
  exact this
/-- another block stays as it is -/
theorem cS_fr {m1 : zM} (hd : c + 61 ≤ b ∨ b + 61 ≤ c) (hC : bS c r e m1 m0) (hS : bS b p a m0 m) : bS c r e m m := by
  refine ⟨fun o ho => ?_, hC.2.1, bFr_rf⟩
  obtain ⟨f, z1, z2⟩ := hC.1 o ho
  exact ⟨f, (hS.2.2.2 _ (by omega)).trans z1, z2⟩
/-- an array is copied from block to block -/
theorem s_cpyB {o n : Nat} {a' : Nat → Nat} (hw : zI i pc = w) (hop : zop w = 44 ∧ pc + 3 = pc2) (hl : st.length ≤ 8) (hS : bS b p a m0 m) (hC : bS c r e m m) (ho : o < 61) (hk : bKd o = 7 ∧ bLn o = n) (hn : n < 100) (ha : bOk b p a') (hX : ∀ o' j v, o' < 61 → j < bLn o' → o' ≠ o → bV b p a o' j v → bV b p a' o' j v) (hown : ∀ j v, j < n → bV c r e o j v → bV b p a' o j v) (g : ∀ m', bS b p a' m0 m' → gFin sc Q frs i pc2 ls st m') : gFin sc Q frs i pc ls (n :: 0 :: bR b o :: 0 :: bR c o :: st) m := by
  obtain ⟨f, h1, h2⟩ := hS.1 o ho
  obtain ⟨f3, h3, h4⟩ := hC.1 o ho
  rw [hk.1, hk.2] at h1 h3
  rw [hk.2] at h2 h4
  have hz : zAt m (bR b o) = some (7, n, f) := by rw [zAt_b hS.2.1.2.2 ho, h1]
  have hz3 : zAt m (bR c o) = some (7, n, f3) := by rw [zAt_b hC.2.1.2.2 ho, h3]
  refine h_cpy hw hop hz3 hz (by omega) ⟨by omega, by omega, hl⟩ (g _ ?_)
  rw [bR_sub]
  refine ⟨fun o' ho' => ?_, ha, bFr_set hS.2.2 ho⟩
  by_cases q : o' = o
  · rw [q, hk.1, hk.2]
    refine ⟨_, List.getElem?_set_self (List.getElem?_eq_some_iff.mp h1).1, fun j hj => ?_⟩
    refine hown j _ hj ?_
    have ez : zCpy f3 f 0 0 n j = f3 j := by
      unfold zCpy
      rw [if_pos (by omega)]
      exact congrArg f3 (by omega)
    rw [ez]
    exact h4 j hj
  · obtain ⟨f', e1, e2⟩ := hS.1 o' ho'
    refine ⟨f', ?_, fun j hj => hX o' j _ ho' hj q (e2 j hj)⟩
    rw [List.getElem?_set_ne (by omega)]
    exact e1
def mOv (a e : Nat → Nat) (lo hi : Nat) : Nat → Nat := fun y => if lo ≤ y ∧ y < hi then e y else a y
theorem mOv_n {lo hi y : Nat} (h : ¬ (lo ≤ y ∧ y < hi)) : mOv a e lo hi y = a y := if_neg h
theorem mOv_s {lo hi y : Nat} (h : lo ≤ y ∧ y < hi) : mOv a e lo hi y = e y := if_pos h
theorem mOv_ok {lo hi : Nat} (hS : bS b p a m0 m) (he : ∀ y, e y < 4294967296) (h1 : ¬ (lo ≤ 1 ∧ 1 < hi)) : bOk b p (mOv a e lo hi) := by
  refine ⟨hS.2.1.1, ⟨fun y => ?_, by rw [mOv_n h1]; exact hS.2.1.2.1.2⟩, hS.2.1.2.2⟩
  unfold mOv
  split
  · exact he y
  · exact hS.2.1.2.1.1 y
/-- settings, distances, looks -/
theorem s_cpyS {o n lo : Nat} (hw : zI i pc = w) (hop : zop w = 44 ∧ pc + 3 = pc2) (hl : st.length ≤ 8) (hS : bS b p a m0 m) (hC : bS c r e m m) (hr : (o = 3 ∧ lo = 5 ∧ n = 5) ∨ (o = 4 ∧ lo = 10 ∧ n = 2) ∨ (o = 5 ∧ lo = 12 ∧ n = 2)) (g : ∀ m', bS b p (mOv a e lo (lo + n)) m0 m' → gFin sc Q frs i pc2 ls st m') : gFin sc Q frs i pc ls (n :: 0 :: bR b o :: 0 :: bR c o :: st) m := by
  have h17 := hS.2.1.2.1.2
  refine s_cpyB hw hop hl hS hC (by omega) ?_ (by omega) (mOv_ok hS hC.2.1.2.1.1 (by omega)) (fun o' j v h1 h2 h3 h4 => ?_) (fun j v h1 h2 => ?_) g
  · rcases hr with ⟨rfl, rfl, rfl⟩ | ⟨rfl, rfl, rfl⟩ | ⟨rfl, rfl, rfl⟩ <;> decide
  · obtain ⟨l0, l3, l4, l5, l6, la, ll, lw⟩ := bLn_b h1 h2
    exact bV_X (fun q => ⟨fun _ => mOv_n (by omega), fun _ => mOv_n (by omega), fun _ => mOv_n (by have := l0 q; omega)⟩) (fun q => mOv_n (by have := l3 q; omega)) (fun q => mOv_n (by have := l4 q; omega)) (fun q => mOv_n (by have := l5 q; omega)) (fun _ _ => mOv_n (by omega)) (fun q q2 => ⟨mOv_n (by omega), fun i hi => mOv_n (by omega)⟩) (fun q q2 q3 => mOv_n (by omega)) (fun q q2 => mOv_n (by omega)) h4
  · unfold bV at h2 ⊢
    rcases hr with ⟨rfl, rfl, rfl⟩ | ⟨rfl, rfl, rfl⟩ | ⟨rfl, rfl, rfl⟩
    · rw [if_neg (by decide), if_neg (by decide), if_neg (by decide), if_pos rfl] at h2 ⊢
      rw [mOv_s (by omega)]
      exact h2
    · rw [if_neg (by decide), if_neg (by decide), if_neg (by decide), if_neg (by decide), if_pos rfl] at h2 ⊢
      rw [mOv_s (by omega)]
      exact h2
    · rw [if_neg (by decide), if_neg (by decide), if_neg (by decide), if_neg (by decide), if_neg (by decide), if_pos rfl] at h2 ⊢
      rw [mOv_s (by omega)]
      exact h2
theorem s_cpyL {q : Nat} (hw : zI i pc = w) (hop : zop w = 44 ∧ pc + 3 = pc2) (hl : st.length ≤ 8) (hS : bS b p a m0 m) (hC : bS c r e m m) (hq : q < 12) (g : ∀ m', bS b p (mOv a e (303 + 30 * q) (312 + 30 * q)) m0 m' → gFin sc Q frs i pc2 ls st m') : gFin sc Q frs i pc ls (9 :: 0 :: bR b (25 + 3 * q + 1) :: 0 :: bR c (25 + 3 * q + 1) :: st) m := by
  have h17 := hS.2.1.2.1.2
  refine s_cpyB hw hop hl hS hC (by omega) (kL_o (q := q)).2.1 (by decide) (mOv_ok hS hC.2.1.2.1.1 (by omega)) (fun o' j v h1 h2 h3 h4 => bV_E (q := q) (fun y hy => mOv_n (by omega)) h1 h2 h17 h3 h4) (fun j v h1 h2 => ?_) g
  have h5 := bW_ok h2
  unfold bV
  rw [if_neg (by omega), if_neg (by omega), if_neg (by omega), if_neg (by omega), if_neg (by omega), if_neg (by omega), if_neg (by omega), if_neg (by omega), if_neg (by omega), if_neg (by omega), if_pos (by omega), show (25 + 3 * q + 1 - 25) / 3 = q by omega, mOv_s (by omega)]
  exact h5
/-- what nothing here speaks of -/
theorem s_cpyN {o n : Nat} (hw : zI i pc = w) (hop : zop w = 44 ∧ pc + 3 = pc2) (hl : st.length ≤ 8) (hS : bS b p a m0 m) (hC : bS c r e m m) (ho : (o = 7 ∧ n = 80) ∨ (∃ q, q < 12 ∧ o = 25 + 3 * q + 2 ∧ n = 9)) (g : ∀ m', bS b p a m0 m' → gFin sc Q frs i pc2 ls st m') : gFin sc Q frs i pc ls (n :: 0 :: bR b o :: 0 :: bR c o :: st) m := by
  refine s_cpyB hw hop hl hS hC (by rcases ho with h | ⟨q, h1, h2, h3⟩ <;> omega) ?_ (by rcases ho with h | ⟨q, h1, h2, h3⟩ <;> omega) hS.2.1 (fun _ _ _ _ _ _ h => h) (fun j v h1 h2 => ?_) g
  · rcases ho with ⟨rfl, rfl⟩ | ⟨q, h1, rfl, rfl⟩
    · decide
    · exact (kL_o (q := q)).2.2
  · rcases ho with ⟨rfl, rfl⟩ | ⟨q, h3, rfl, rfl⟩
    · unfold bV at h2 ⊢
      rw [if_neg (by decide), if_neg (by decide), if_neg (by decide), if_neg (by decide), if_neg (by decide), if_neg (by decide), if_neg (by decide), if_pos rfl] at h2 ⊢
      exact h2
    · unfold bV at h2 ⊢
      rw [if_neg (by omega), if_neg (by omega), if_neg (by omega), if_neg (by omega), if_neg (by omega), if_neg (by omega), if_neg (by omega), if_neg (by omega), if_neg (by omega), if_neg (by omega), if_neg (by omega)] at h2 ⊢
      exact h2
/-- the arms' number is written; what arms behind it are is found -/
theorem s_putN {n : Nat} (hw : zI i pc = w) (ho : ((zop w = 23 ∧ pc + 3 = pc2) ∧ zb w = 1) ∧ zc w = 1) (hS : bS b p a m0 m) (hn : n ≤ 17) (g : ∀ m' a', bS b p a' m0 m' → a' 1 = n → (∀ y, y ≠ 1 → (y < 100 ∨ 300 ≤ y) → a' y = a y) → gFin sc Q frs i pc2 ls st m') : gFin sc Q frs i pc ls (n :: bR b 0 :: st) m := by
  obtain ⟨f, h1, h2⟩ := hS.1 0 (by decide)
  obtain ⟨⟨h3, h4⟩, h5⟩ := ho
  have hz : zAt m (bR b 0) = some (1, 11, f) := by rw [zAt_b hS.2.1.2.2 (by decide)]; exact h1
  have hk : zOkV (zTag (zTy (zb w) (zc w))) n = true := by
    rw [h4, h5]
    exact decide_eq_true (show n < 4294967296 by omega)
  have hA : ∃ G : Nat → Nat → Nat, ∀ i, i < 17 → m[b + (8 + p i)]? = some (0, 8, G i) ∧ ∀ j, j < 8 → G i j < 4294967296 := by
    have hi : ∀ i, ∃ G : Nat → Nat, i < 17 → m[b + (8 + p i)]? = some (0, 8, G) ∧ ∀ j, j < 8 → G j < 4294967296 := fun i => by
      by_cases q : i < 17
      · have hp := hS.2.1.1.1 i q
        obtain ⟨f, z1, z2⟩ := hS.1 (8 + p i) (by omega)
        rw [(kA_o hp).1, (kA_o hp).2] at z1
        rw [(kA_o hp).2] at z2
        refine ⟨f, fun _ => ⟨z1, fun j hj => ?_⟩⟩
        have z3 := z2 j hj
        unfold bV at z3
        rw [if_neg (by omega), if_neg (by omega), if_neg (by omega), if_neg (by omega), if_neg (by omega), if_neg (by omega), if_neg (by omega), if_neg (by omega), if_pos (by omega)] at z3
        exact z3.1
      · exact ⟨fun _ => 0, fun h => absurd h q⟩
    exact ⟨fun i => Classical.choose (hi i), fun i h => Classical.choose_spec (hi i) h⟩
  obtain ⟨G, hG⟩ := hA
  obtain ⟨a', ea⟩ : ∃ a' : Nat → Nat, a' = fun y => if y = 1 then n else if 100 ≤ y ∧ y < 236 then G ((y - 100) / 8) ((y - 100) % 8) else a y := ⟨_, rfl⟩
  have e1 : a' 1 = n := by rw [ea]; exact if_pos rfl
  have e2 : ∀ y, y ≠ 1 → (y < 100 ∨ 300 ≤ y) → a' y = a y := fun y hy hy2 => by
    rw [ea]
    show (if y = 1 then n else if 100 ≤ y ∧ y < 236 then G ((y - 100) / 8) ((y - 100) % 8) else a y) = a y
    rw [if_neg hy, if_neg (by omega)]
  refine h_put hw ⟨h3, h4.symm, by omega⟩ hk hz rfl (g _ a' ?_ e1 e2)
  rw [bR_sub, h5]
  have hl := (List.getElem?_eq_some_iff.mp h1).1
  refine bS_re (p' := p) hS (bFr_set bFr_rf (by decide)) (fun o ho h0 h1 => List.getElem?_set_ne (by omega)) ⟨zUp f 1 n, List.getElem?_set_self hl, fun j hj => ?_⟩ ?_ hS.2.1.1 (fun y => ?_) (by omega) e2 (fun i hi => ?_)
  · have z6 := h2 j hj
    unfold bV at z6 ⊢
    rw [if_pos rfl] at z6 ⊢
    by_cases q1 : j = 1
    · subst q1
      rw [if_neg (by decide), if_pos rfl, e1]
      rfl
    · rw [show zUp f 1 n j = f j from if_neg q1, z6, e2 0 (by decide) (by decide), if_neg q1, if_neg q1]
      by_cases q2 : j ≤ 7
      · rw [if_pos q2, if_pos q2]
      · rw [if_neg q2, if_neg q2, e2 _ (by omega) (by omega)]
  · obtain ⟨f6, z6, z7⟩ := hS.1 1 (by decide)
    refine ⟨f6, by rw [List.getElem?_set_ne (by omega)]; exact z6, fun j hj => ?_⟩
    have z8 := z7 j hj
    unfold bV at z8
    rw [if_neg (by decide), if_pos rfl] at z8
    exact z8
  · rw [ea]
    show (if y = 1 then n else if 100 ≤ y ∧ y < 236 then G ((y - 100) / 8) ((y - 100) % 8) else a y) < 4294967296
    split
    · omega
    · split
      · exact (hG _ (by omega)).2 _ (by omega)
      · exact hS.2.1.2.1.1 y
  · refine ⟨G i, (hG i (by omega)).1, fun k hk => ?_⟩
    rw [ea]
    show _ = (if 100 + 8 * i + k = 1 then n else if 100 ≤ 100 + 8 * i + k ∧ 100 + 8 * i + k < 236 then G ((100 + 8 * i + k - 100) / 8) ((100 + 8 * i + k - 100) % 8) else a (100 + 8 * i + k))
    rw [if_neg (by omega), if_pos (by omega), show (100 + 8 * i + k - 100) / 8 = i by omega, show (100 + 8 * i + k - 100) % 8 = k by omega]
end BK
section BG
variable {sc : List Nat} {Q : Nat → zM → Prop} {frs : gCf} {m m0 m9 : zM} {b c : Nat} {p a r e : Nat → Nat}
theorem bU_ap {x v y : Nat} : bU a x v y = if y = x then v else a y := rfl
theorem m2 {k : Nat} (hd : c + 61 ≤ b ∨ b + 61 ≤ c) (hC : bS c r e m9 m0) (hS : bS b p a m0 m) (hk : k < a 1) (hke : k < e 1) (hT : e (100 + 8 * k + 4) < 2) (g : ∀ m' a', bS b p a' m0 m' → (∀ j, j < 8 → a' (100 + 8 * k + j) = e (100 + 8 * k + j)) → (∀ y, ¬ (100 + 8 * k ≤ y ∧ y < 108 + 8 * k) → a' y = a y) → gFin1 sc Q frs 2 0 m') : gFin sc Q frs 2 0 [bR b (8 + p k), bR c (8 + r k)] [] m := by
  have h17 := hS.2.1.2.1.2
  have e17 := hC.2.1.2.1.2
  have hp := hS.2.1.1.1 k (by omega)
  have hr := hC.2.1.1.1 k (by omega)
  have hC0 := cS_fr hd hC hS
  refine h_ldr (w := 259) (pc2 := 1) (by decide +kernel) (by decide +kernel) rfl (bR_ref (o := (8 + p k)) hS.2.1.2.2 (by omega)) ?_
  refine h_ldr (w := 65795) (pc2 := 2) (by decide +kernel) (by decide +kernel) rfl (bR_ref (o := (8 + r k)) hC0.2.1.2.2 (by omega)) ?_
  refine s_getA (w := 10880332376531662576419606) (pc2 := 5) (by decide +kernel) (c := 0) (by decide +kernel) hC0.1 hC0.2.1 hke ?_
  refine s_putA (w := 10880332376531662576419607) (pc2 := 8) (by decide +kernel) (c := 0) (by decide +kernel) hS hk (hC0.2.1.2.1.1 _) (fun h => absurd h (by decide)) ?_
  intro m1 hS1
  have hC1 := cS_fr hd hC hS1
  obtain ⟨a1, ea1⟩ : ∃ a1, a1 = (bU a (100 + 8 * k + 0) ((e (100 + 8 * k + 0)))) := ⟨_, rfl⟩
  rw [← ea1] at hS1
  have hk1 : k < a1 1 := by rw [ea1, bU_n (by omega)]; exact hk
  refine h_ldr (w := 259) (pc2 := 9) (by decide +kernel) (by decide +kernel) rfl (bR_ref (o := (8 + p k)) hS1.2.1.2.2 (by omega)) ?_
  refine h_ldr (w := 65795) (pc2 := 10) (by decide +kernel) (by decide +kernel) rfl (bR_ref (o := (8 + r k)) hC1.2.1.2.2 (by omega)) ?_
  refine s_getA (w := 18133905740963511334404886) (pc2 := 13) (by decide +kernel) (c := 1) (by decide +kernel) hC1.1 hC1.2.1 hke ?_
  refine s_putA (w := 18133905740963511334404887) (pc2 := 16) (by decide +kernel) (c := 1) (by decide +kernel) hS1 hk1 (hC0.2.1.2.1.1 _) (fun h => absurd h (by decide)) ?_
  intro m2 hS2
  have hC2 := cS_fr hd hC hS2
  obtain ⟨a2, ea2⟩ : ∃ a2, a2 = (bU a1 (100 + 8 * k + 1) ((e (100 + 8 * k + 1)))) := ⟨_, rfl⟩
  rw [← ea2] at hS2
  have hk2 : k < a2 1 := by rw [ea2, bU_n (by omega)]; exact hk1
  refine h_ldr (w := 259) (pc2 := 17) (by decide +kernel) (by decide +kernel) rfl (bR_ref (o := (8 + p k)) hS2.2.1.2.2 (by omega)) ?_
  refine h_ldr (w := 65795) (pc2 := 18) (by decide +kernel) (by decide +kernel) rfl (bR_ref (o := (8 + r k)) hC2.2.1.2.2 (by omega)) ?_
  refine s_getA (w := 21760701646551472568271638) (pc2 := 21) (by decide +kernel) (c := 2) (by decide +kernel) hC2.1 hC2.2.1 hke ?_
  refine s_putA (w := 21760701646551472568271639) (pc2 := 24) (by decide +kernel) (c := 2) (by decide +kernel) hS2 hk2 (hC0.2.1.2.1.1 _) (fun h => absurd h (by decide)) ?_
  intro m3 hS3
  have hC3 := cS_fr hd hC hS3
  obtain ⟨a3, ea3⟩ : ∃ a3, a3 = (bU a2 (100 + 8 * k + 2) ((e (100 + 8 * k + 2)))) := ⟨_, rfl⟩
  rw [← ea3] at hS3
  have hk3 : k < a3 1 := by rw [ea3, bU_n (by omega)]; exact hk2
  refine h_ldr (w := 259) (pc2 := 25) (by decide +kernel) (by decide +kernel) rfl (bR_ref (o := (8 + p k)) hS3.2.1.2.2 (by omega)) ?_
  refine h_ldr (w := 65795) (pc2 := 26) (by decide +kernel) (by decide +kernel) rfl (bR_ref (o := (8 + r k)) hC3.2.1.2.2 (by omega)) ?_
  refine s_getA (w := 25387497552139433802138390) (pc2 := 29) (by decide +kernel) (c := 3) (by decide +kernel) hC3.1 hC3.2.1 hke ?_
  refine s_putA (w := 25387497552139433802138391) (pc2 := 32) (by decide +kernel) (c := 3) (by decide +kernel) hS3 hk3 (hC0.2.1.2.1.1 _) (fun h => absurd h (by decide)) ?_
  intro m4 hS4
  have hC4 := cS_fr hd hC hS4
  obtain ⟨a4, ea4⟩ : ∃ a4, a4 = (bU a3 (100 + 8 * k + 3) ((e (100 + 8 * k + 3)))) := ⟨_, rfl⟩
  rw [← ea4] at hS4
  have hk4 : k < a4 1 := by rw [ea4, bU_n (by omega)]; exact hk3
  refine h_ldr (w := 259) (pc2 := 33) (by decide +kernel) (by decide +kernel) rfl (bR_ref (o := (8 + p k)) hS4.2.1.2.2 (by omega)) ?_
  refine h_ldr (w := 65795) (pc2 := 34) (by decide +kernel) (by decide +kernel) rfl (bR_ref (o := (8 + r k)) hC4.2.1.2.2 (by omega)) ?_
  refine s_getA (w := 29014293457727395036005142) (pc2 := 37) (by decide +kernel) (c := 4) (by decide +kernel) hC4.1 hC4.2.1 hke ?_
  refine s_putA (w := 29014293457727395036005143) (pc2 := 40) (by decide +kernel) (c := 4) (by decide +kernel) hS4 hk4 (hC0.2.1.2.1.1 _) (fun _ => hT) ?_
  intro m5 hS5
  have hC5 := cS_fr hd hC hS5
  obtain ⟨a5, ea5⟩ : ∃ a5, a5 = (bU a4 (100 + 8 * k + 4) ((e (100 + 8 * k + 4)))) := ⟨_, rfl⟩
  rw [← ea5] at hS5
  have hk5 : k < a5 1 := by rw [ea5, bU_n (by omega)]; exact hk4
  refine h_ldr (w := 259) (pc2 := 41) (by decide +kernel) (by decide +kernel) rfl (bR_ref (o := (8 + p k)) hS5.2.1.2.2 (by omega)) ?_
  refine h_ldr (w := 65795) (pc2 := 42) (by decide +kernel) (by decide +kernel) rfl (bR_ref (o := (8 + r k)) hC5.2.1.2.2 (by omega)) ?_
  refine s_getA (w := 33850015182929985444578070) (pc2 := 45) (by decide +kernel) (c := 5) (by decide +kernel) hC5.1 hC5.2.1 hke ?_
  refine s_putA (w := 33850015182929985444578071) (pc2 := 48) (by decide +kernel) (c := 5) (by decide +kernel) hS5 hk5 (hC0.2.1.2.1.1 _) (fun h => absurd h (by decide)) ?_
  intro m6 hS6
  have hC6 := cS_fr hd hC hS6
  obtain ⟨a6, ea6⟩ : ∃ a6, a6 = (bU a5 (100 + 8 * k + 5) ((e (100 + 8 * k + 5)))) := ⟨_, rfl⟩
  rw [← ea6] at hS6
  have hk6 : k < a6 1 := by rw [ea6, bU_n (by omega)]; exact hk5
  refine h_ldr (w := 259) (pc2 := 49) (by decide +kernel) (by decide +kernel) rfl (bR_ref (o := (8 + p k)) hS6.2.1.2.2 (by omega)) ?_
  refine h_ldr (w := 65795) (pc2 := 50) (by decide +kernel) (by decide +kernel) rfl (bR_ref (o := (8 + r k)) hC6.2.1.2.2 (by omega)) ?_
  refine s_getA (w := 37476811088517946678444822) (pc2 := 53) (by decide +kernel) (c := 6) (by decide +kernel) hC6.1 hC6.2.1 hke ?_
  refine s_putA (w := 37476811088517946678444823) (pc2 := 56) (by decide +kernel) (c := 6) (by decide +kernel) hS6 hk6 (hC0.2.1.2.1.1 _) (fun h => absurd h (by decide)) ?_
  intro m7 hS7
  have hC7 := cS_fr hd hC hS7
  obtain ⟨a7, ea7⟩ : ∃ a7, a7 = (bU a6 (100 + 8 * k + 6) ((e (100 + 8 * k + 6)))) := ⟨_, rfl⟩
  rw [← ea7] at hS7
  have hk7 : k < a7 1 := by rw [ea7, bU_n (by omega)]; exact hk6
  refine h_ldr (w := 259) (pc2 := 57) (by decide +kernel) (by decide +kernel) rfl (bR_ref (o := (8 + p k)) hS7.2.1.2.2 (by omega)) ?_
  refine h_ldr (w := 65795) (pc2 := 58) (by decide +kernel) (by decide +kernel) rfl (bR_ref (o := (8 + r k)) hC7.2.1.2.2 (by omega)) ?_
  refine s_getA (w := 41103606994105907912246038) (pc2 := 61) (by decide +kernel) (c := 7) (by decide +kernel) hC7.1 hC7.2.1 hke ?_
  refine s_putA (w := 41103606994105907912246039) (pc2 := 64) (by decide +kernel) (c := 7) (by decide +kernel) hS7 hk7 (hC0.2.1.2.1.1 _) (fun h => absurd h (by decide)) ?_
  intro m8 hS8
  have hC8 := cS_fr hd hC hS8
  obtain ⟨a8, ea8⟩ : ∃ a8, a8 = (bU a7 (100 + 8 * k + 7) ((e (100 + 8 * k + 7)))) := ⟨_, rfl⟩
  rw [← ea8] at hS8
  refine h_ret0 (w := 302) (by decide +kernel) (by decide +kernel) (g _ a8 hS8 (fun j hj => ?_) (fun y hy => ?_))
  · rcases (show j = 0 ∨ j = 1 ∨ j = 2 ∨ j = 3 ∨ j = 4 ∨ j = 5 ∨ j = 6 ∨ j = 7 by omega) with rfl | rfl | rfl | rfl | rfl | rfl | rfl | rfl
    · rw [ea8, bU_n (by omega), ea7, bU_n (by omega), ea6, bU_n (by omega), ea5, bU_n (by omega), ea4, bU_n (by omega), ea3, bU_n (by omega), ea2, bU_n (by omega), ea1, bU_s]
    · rw [ea8, bU_n (by omega), ea7, bU_n (by omega), ea6, bU_n (by omega), ea5, bU_n (by omega), ea4, bU_n (by omega), ea3, bU_n (by omega), ea2, bU_s]
    · rw [ea8, bU_n (by omega), ea7, bU_n (by omega), ea6, bU_n (by omega), ea5, bU_n (by omega), ea4, bU_n (by omega), ea3, bU_s]
    · rw [ea8, bU_n (by omega), ea7, bU_n (by omega), ea6, bU_n (by omega), ea5, bU_n (by omega), ea4, bU_s]
    · rw [ea8, bU_n (by omega), ea7, bU_n (by omega), ea6, bU_n (by omega), ea5, bU_s]
    · rw [ea8, bU_n (by omega), ea7, bU_n (by omega), ea6, bU_s]
    · rw [ea8, bU_n (by omega), ea7, bU_s]
    · rw [ea8, bU_s]
  · rw [ea8, bU_n (by omega), ea7, bU_n (by omega), ea6, bU_n (by omega), ea5, bU_n (by omega), ea4, bU_n (by omega), ea3, bU_n (by omega), ea2, bU_n (by omega), ea1, bU_n (by omega)]
theorem m32 {q : Nat} (hd : c + 61 ≤ b ∨ b + 61 ≤ c) (hC : bS c r e m9 m0) (hS : bS b p a m0 m) (hq : q < 12) (g : ∀ m' a', bS b p a' m0 m' → (∀ j, j < 12 → a' (300 + 30 * q + j) = e (300 + 30 * q + j)) → (∀ y, ¬ (300 + 30 * q ≤ y ∧ y < 312 + 30 * q) → a' y = a y) → gFin1 sc Q frs 32 0 m') : gFin sc Q frs 32 0 [bR b (25 + 3 * q), bR c (25 + 3 * q)] [] m := by
  have hC0 := cS_fr hd hC hS
  refine h_ldr (w := 65795) (pc2 := 1) (by decide +kernel) (by decide +kernel) rfl (bR_ref (o := (25 + 3 * q)) hC0.2.1.2.2 (by omega)) ?_
  refine s_getL (w := 10880332377094612532724502) (pc2 := 4) (by decide +kernel) (c := 0) (by decide +kernel) hC0.1 hC0.2.1 (q := q) hq (v := bR c (25 + 3 * q + 1)) rfl ?_
  refine h_con (w := 257) (pc2 := 5) (by decide +kernel) (v := 0) (by decide +kernel) ?_
  refine h_ldr (w := 259) (pc2 := 6) (by decide +kernel) (by decide +kernel) rfl (bR_ref (o := (25 + 3 * q)) hS.2.1.2.2 (by omega)) ?_
  refine s_getL (w := 10880332377094612532724502) (pc2 := 9) (by decide +kernel) (c := 0) (by decide +kernel) hS.1 hS.2.1 (q := q) hq (v := bR b (25 + 3 * q + 1)) rfl ?_
  refine h_con (w := 257) (pc2 := 10) (by decide +kernel) (v := 0) (by decide +kernel) ?_
  refine h_con (w := 281474977300993) (pc2 := 12) (by decide +kernel) (v := 9) (by decide +kernel) ?_
  refine s_cpyL (w := 21760664753063325160506156) (pc2 := 15) (by decide +kernel) (by decide +kernel) (Nat.le_of_ble_eq_true rfl) hS hC0 hq ?_
  intro m1 hS1
  have hC1 := cS_fr hd hC hS1
  obtain ⟨a1, ea1⟩ : ∃ a1, a1 = mOv a e (303 + 30 * q) (312 + 30 * q) := ⟨_, rfl⟩
  rw [← ea1] at hS1
  refine h_ldr (w := 65795) (pc2 := 16) (by decide +kernel) (by decide +kernel) rfl (bR_ref (o := (25 + 3 * q)) hC1.2.1.2.2 (by omega)) ?_
  refine s_getL (w := 18133905741526461290578710) (pc2 := 19) (by decide +kernel) (c := 1) (by decide +kernel) hC1.1 hC1.2.1 (q := q) hq (v := bR c (25 + 3 * q + 2)) rfl ?_
  refine h_con (w := 257) (pc2 := 20) (by decide +kernel) (v := 0) (by decide +kernel) ?_
  refine h_ldr (w := 259) (pc2 := 21) (by decide +kernel) (by decide +kernel) rfl (bR_ref (o := (25 + 3 * q)) hS1.2.1.2.2 (by omega)) ?_
  refine s_getL (w := 18133905741526461290578710) (pc2 := 24) (by decide +kernel) (c := 1) (by decide +kernel) hS1.1 hS1.2.1 (q := q) hq (v := bR b (25 + 3 * q + 2)) rfl ?_
  refine h_con (w := 257) (pc2 := 25) (by decide +kernel) (v := 0) (by decide +kernel) ?_
  refine h_con (w := 281474977300993) (pc2 := 27) (by decide +kernel) (v := 9) (by decide +kernel) ?_
  refine s_cpyN (w := 21760664753063325160506156) (pc2 := 30) (by decide +kernel) (by decide +kernel) (Nat.le_of_ble_eq_true rfl) hS1 hC1 (Or.inr ⟨q, hq, rfl, rfl⟩) ?_
  intro m2 hS2
  have hC2 := cS_fr hd hC hS2
  refine h_ldr (w := 259) (pc2 := 31) (by decide +kernel) (by decide +kernel) rfl (bR_ref (o := (25 + 3 * q)) hS2.2.1.2.2 (by omega)) ?_
  refine h_ldr (w := 65795) (pc2 := 32) (by decide +kernel) (by decide +kernel) rfl (bR_ref (o := (25 + 3 * q)) hC2.2.1.2.2 (by omega)) ?_
  refine s_getLx (w := 29014256564802197572551446) (pc2 := 35) (by decide +kernel) (c := 2) (by decide +kernel) hC2.1 hC2.2.1 (q := q) hq (x := 300 + 30 * q + 0) (by omega) ?_
  refine s_putLx (w := 29014256564802197572551447) (pc2 := 38) (by decide +kernel) (c := 2) (by decide +kernel) hS2 (q := q) hq (x := 300 + 30 * q + 0) (by omega) (hC2.2.1.2.1.1 _) ?_
  intro m3 hS3
  have hC3 := cS_fr hd hC hS3
  obtain ⟨a3, ea3⟩ : ∃ a3, a3 = (bU a1 (300 + 30 * q + 0) ((e (300 + 30 * q + 0)))) := ⟨_, rfl⟩
  rw [← ea3] at hS3
  refine h_ldr (w := 259) (pc2 := 39) (by decide +kernel) (by decide +kernel) rfl (bR_ref (o := (25 + 3 * q)) hS3.2.1.2.2 (by omega)) ?_
  refine h_ldr (w := 65795) (pc2 := 40) (by decide +kernel) (by decide +kernel) rfl (bR_ref (o := (25 + 3 * q)) hC3.2.1.2.2 (by omega)) ?_
  refine s_getLx (w := 33849978290004787981124374) (pc2 := 43) (by decide +kernel) (c := 3) (by decide +kernel) hC3.1 hC3.2.1 (q := q) hq (x := 300 + 30 * q + 1) (by omega) ?_
  refine s_putLx (w := 33849978290004787981124375) (pc2 := 46) (by decide +kernel) (c := 3) (by decide +kernel) hS3 (q := q) hq (x := 300 + 30 * q + 1) (by omega) (hC3.2.1.2.1.1 _) ?_
  intro m4 hS4
  have hC4 := cS_fr hd hC hS4
  obtain ⟨a4, ea4⟩ : ∃ a4, a4 = (bU a3 (300 + 30 * q + 1) ((e (300 + 30 * q + 1)))) := ⟨_, rfl⟩
  rw [← ea4] at hS4
  refine h_ldr (w := 259) (pc2 := 47) (by decide +kernel) (by decide +kernel) rfl (bR_ref (o := (25 + 3 * q)) hS4.2.1.2.2 (by omega)) ?_
  refine h_ldr (w := 65795) (pc2 := 48) (by decide +kernel) (by decide +kernel) rfl (bR_ref (o := (25 + 3 * q)) hC4.2.1.2.2 (by omega)) ?_
  refine s_getLx (w := 37476774195592749214991126) (pc2 := 51) (by decide +kernel) (c := 4) (by decide +kernel) hC4.1 hC4.2.1 (q := q) hq (x := 300 + 30 * q + 2) (by omega) ?_
  refine s_putLx (w := 37476774195592749214991127) (pc2 := 54) (by decide +kernel) (c := 4) (by decide +kernel) hS4 (q := q) hq (x := 300 + 30 * q + 2) (by omega) (hC4.2.1.2.1.1 _) ?_
  intro m5 hS5
  have hC5 := cS_fr hd hC hS5
  obtain ⟨a5, ea5⟩ : ∃ a5, a5 = (bU a4 (300 + 30 * q + 2) ((e (300 + 30 * q + 2)))) := ⟨_, rfl⟩
  rw [← ea5] at hS5
  refine h_ret0 (w := 302) (by decide +kernel) (by decide +kernel) (g _ a5 hS5 (fun j hj => ?_) (fun y hy => ?_))
  · by_cases q0 : j = 0
    · rw [q0, ea5, bU_n (by omega), ea4, bU_n (by omega), ea3, bU_s]
    by_cases q1 : j = 1
    · rw [q1, ea5, bU_n (by omega), ea4, bU_s]
    by_cases q2 : j = 2
    · rw [q2, ea5, bU_s]
    rw [ea5, bU_n (by omega), ea4, bU_n (by omega), ea3, bU_n (by omega), ea1, mOv_s (by omega)]
  · rw [ea5, bU_n (by omega), ea4, bU_n (by omega), ea3, bU_n (by omega), ea1, mOv_n (by omega)]
theorem m41 (hd : c + 61 ≤ b ∨ b + 61 ≤ c) (hC : bS c r e m9 m0) (hS : bS b p a m0 m) (g : ∀ m', bS b p (bU a 14 (e 14)) m0 m' → gFin1 sc Q frs 41 0 m') : gFin sc Q frs 41 0 [bR b 6, bR c 6] [] m := by
  have hC0 := cS_fr hd hC hS
  refine h_ldr (w := 65795) (pc2 := 1) (by decide +kernel) (by decide +kernel) rfl (bR_ref (o := 6) hC0.2.1.2.2 (by omega)) ?_
  refine s_getG (w := 10880332377657562482279190) (pc2 := 4) (by decide +kernel) (c := 0) (by decide +kernel) hC0.1 hC0.2.1 (v := bR c 7) rfl ?_
  refine h_con (w := 257) (pc2 := 5) (by decide +kernel) (v := 0) (by decide +kernel) ?_
  refine h_ldr (w := 259) (pc2 := 6) (by decide +kernel) (by decide +kernel) rfl (bR_ref (o := 6) hS.2.1.2.2 (by omega)) ?_
  refine s_getG (w := 10880332377657562482279190) (pc2 := 9) (by decide +kernel) (c := 0) (by decide +kernel) hS.1 hS.2.1 (v := bR b 7) rfl ?_
  refine h_con (w := 257) (pc2 := 10) (by decide +kernel) (v := 0) (by decide +kernel) ?_
  refine h_con (w := 281474981954049) (pc2 := 12) (by decide +kernel) (v := 80) (by decide +kernel) ?_
  refine s_cpyN (w := 15716035654990179287499564) (pc2 := 15) (by decide +kernel) (by decide +kernel) (Nat.le_of_ble_eq_true rfl) hS hC0 (Or.inl ⟨rfl, rfl⟩) ?_
  intro m1 hS1
  have hC1 := cS_fr hd hC hS1
  refine h_ldr (w := 259) (pc2 := 16) (by decide +kernel) (by decide +kernel) rfl (bR_ref (o := 6) hS1.2.1.2.2 (by omega)) ?_
  refine h_ldr (w := 65795) (pc2 := 17) (by decide +kernel) (by decide +kernel) rfl (bR_ref (o := 6) hC1.2.1.2.2 (by omega)) ?_
  refine s_getG (w := 22969609020547927938958102) (pc2 := 20) (by decide +kernel) (c := 1) (by decide +kernel) hC1.1 hC1.2.1 (v := (e 14)) rfl ?_
  refine s_putG (w := 22969609020547927938958103) (pc2 := 23) (by decide +kernel) (by decide +kernel) hS1 (hC1.2.1.2.1.1 _) ?_
  intro m2 hS2
  exact h_ret0 (w := 302) (by decide +kernel) (by decide +kernel) (g _ hS2)
def aT (a : Nat → Nat) : Prop := ∀ i, i < a 1 → a (100 + 8 * i + 4) < 2
theorem m7_arms (hd : c + 61 ≤ b ∨ b + 61 ≤ c) (hC : bS c r e m9 m0) (hT : aT e) (g : ∀ m' a', bS b p a' m0 m' → a' 0 = e 0 → a' 1 = e 1 → (∀ i, i < e 1 → ∀ j, j < 8 → a' (100 + 8 * i + j) = e (100 + 8 * i + j)) → gFin sc Q frs 7 47 [bR b 0, bR c 0, e 1] [] m') : ∀ (d k : Nat) (a : Nat → Nat) (m : zM), k + d = e 1 → bS b p a m0 m → a 0 = e 0 → a 1 = e 1 → (∀ i, i < k → ∀ j, j < 8 → a (100 + 8 * i + j) = e (100 + 8 * i + j)) → gFin sc Q frs 7 18 [bR b 0, bR c 0, k] [] m := by
  have e17 := hC.2.1.2.1.2
  intro d
  induction d with
  | zero =>
    intro k a m hk hS h0 h1 hA
    have hC0 := cS_fr hd hC hS
    refine h_ldi (w := 131330) (pc2 := 19) (by decide +kernel) (by decide +kernel) rfl (by omega) ?_
    refine h_ldr (w := 259) (pc2 := 20) (by decide +kernel) (by decide +kernel) rfl (bR_ref (o := 0) hS.2.1.2.2 (by omega)) ?_
    refine s_getHx (w := 59237383608142378255516438) (pc2 := 23) (by decide +kernel) (c := 1) (x := 1) (by decide +kernel) hS.1 hS.2.1 (by decide) ?_
    rw [h1]
    refine h_icmp (w := 844424933212946) (pc2 := 47) (by decide +kernel) (b := true) (by decide +kernel) (by omega) (by omega) (zc_ge_t (by omega) (by omega) (by omega)) ?_
    rw [show k = e 1 by omega] at hA ⊢
    exact g m a hS h0 h1 hA
  | succ d IH =>
    intro k a m hk hS h0 h1 hA
    have hC0 := cS_fr hd hC hS
    have h17 := hS.2.1.2.1.2
    have hp := hS.2.1.1.1 k (by omega)
    have hr := hC.2.1.1.1 k (by omega)
    refine h_ldi (w := 131330) (pc2 := 19) (by decide +kernel) (by decide +kernel) rfl (by omega) ?_
    refine h_ldr (w := 259) (pc2 := 20) (by decide +kernel) (by decide +kernel) rfl (bR_ref (o := 0) hS.2.1.2.2 (by omega)) ?_
    refine s_getHx (w := 59237383608142378255516438) (pc2 := 23) (by decide +kernel) (c := 1) (x := 1) (by decide +kernel) hS.1 hS.2.1 (by decide) ?_
    rw [h1]
    refine h_icmp (w := 844424933212946) (pc2 := 26) (by decide +kernel) (b := false) (by decide +kernel) (by omega) (by omega) (zc_ge_f (by omega) (by omega) (by omega)) ?_
    refine h_ldr (w := 259) (pc2 := 27) (by decide +kernel) (by decide +kernel) rfl (bR_ref (o := 0) hS.2.1.2.2 (by omega)) ?_
    refine s_getHr (w := 13298220909530543326364438) (pc2 := 30) (by decide +kernel) (c := 2) (k := 1) (by decide +kernel) hS.1 hS.2.1 (by decide) ?_
    refine h_ldi (w := 131330) (pc2 := 31) (by decide +kernel) (by decide +kernel) rfl (by omega) ?_
    refine s_aldA (w := 286) (pc2 := 32) (by decide +kernel) (by decide +kernel) hS.1 hS.2.1 (by omega) ?_
    refine h_ldr (w := 65795) (pc2 := 33) (by decide +kernel) (by decide +kernel) rfl (bR_ref (o := 0) hC0.2.1.2.2 (by omega)) ?_
    refine s_getHr (w := 13298220909530543326364438) (pc2 := 36) (by decide +kernel) (c := 2) (k := 1) (by decide +kernel) hC0.1 hC0.2.1 (by decide) ?_
    refine h_ldi (w := 131330) (pc2 := 37) (by decide +kernel) (by decide +kernel) rfl (by omega) ?_
    refine s_aldA (w := 286) (pc2 := 38) (by decide +kernel) (by decide +kernel) hC0.1 hC0.2.1 (by omega) ?_
    refine h_cv (w := 62868440711892841363800869) (c := 2) (n := 1) (by decide +kernel) (by decide +kernel) rfl (zA_A hS (by omega)) ⟨Nat.le_of_ble_eq_true rfl, Nat.le_of_ble_eq_true rfl⟩ (show ∀ cx ∈ [(bR c (8 + r k)), (bR b (8 + p k))], cx < 8589934592 from zl_c (bR_ref (o := (8 + r k)) hC0.2.1.2.2 (by omega)).2 (zl_c (bR_ref (o := (8 + p k)) hS.2.1.2.2 (by omega)).2 zl_n)) (st2 := []) rfl (l2 := [(bR b (8 + p k)), (bR c (8 + r k))]) (by show (List.take 2 _).reverse ++ List.replicate (zMaxL 2 - 2) _ = _; rw [show zMaxL 2 = 2 by decide +kernel]; rfl) ?_
    refine m2 hd hC hS (by omega) (by omega) (hT k (by omega)) (fun m1 a1 hS1 z1 z2 => gF_0 (by decide +kernel) ?_)
    refine h_inc (w := 562949953487622) (pc2 := 44) (by decide +kernel) (by decide +kernel) rfl (by omega) (c2 := (k + 1)) (by show (_ + 1) % 4294967296 = _; omega) (ls2 := [bR b 0, bR c 0, (k + 1)]) rfl ?_
    refine h_goto (w := 1180435) (pc2 := 18) (by decide +kernel) (by decide +kernel) ?_
    refine IH (k + 1) a1 m1 (by omega) hS1 (by rw [z2 0 (by omega)]; exact h0) (by rw [z2 1 (by omega)]; exact h1) (fun i hi j hj => ?_)
    by_cases q : i = k
    · rw [q]
      exact z1 j hj
    · rw [z2 _ (by omega)]
      exact hA i (by omega) j hj
theorem m7_lines (hd : c + 61 ≤ b ∨ b + 61 ≤ c) (hC : bS c r e m9 m0) (g : ∀ m' a', bS b p a' m0 m' → a' 0 = e 0 → a' 1 = e 1 → (∀ i, i < e 1 → ∀ j, j < 8 → a' (100 + 8 * i + j) = e (100 + 8 * i + j)) → (∀ q, q < 12 → ∀ j, j < 12 → a' (300 + 30 * q + j) = e (300 + 30 * q + j)) → gFin sc Q frs 7 76 [bR b 0, bR c 0, 12] [] m') : ∀ (d k : Nat) (a : Nat → Nat) (m : zM), k + d = 12 → bS b p a m0 m → a 0 = e 0 → a 1 = e 1 → (∀ i, i < e 1 → ∀ j, j < 8 → a (100 + 8 * i + j) = e (100 + 8 * i + j)) → (∀ q, q < k → ∀ j, j < 12 → a (300 + 30 * q + j) = e (300 + 30 * q + j)) → gFin sc Q frs 7 49 [bR b 0, bR c 0, k] [] m := by
  have e17 := hC.2.1.2.1.2
  intro d
  induction d with
  | zero =>
    intro k a m hk hS h0 h1 hA hL
    refine h_ldi (w := 131330) (pc2 := 50) (by decide +kernel) (by decide +kernel) rfl (by omega) ?_
    refine h_con (w := 281474977497601) (pc2 := 52) (by decide +kernel) (v := 12) (by decide +kernel) ?_
    refine h_icmp (w := 844424935113490) (pc2 := 76) (by decide +kernel) (b := true) (by decide +kernel) (by omega) (by decide) (zc_ge_t (by omega) (by omega) (by omega)) ?_
    rw [show k = 12 by omega] at hL ⊢
    exact g m a hS h0 h1 hA hL
  | succ d IH =>
    intro k a m hk hS h0 h1 hA hL
    have hC0 := cS_fr hd hC hS
    have hq : k < 12 := by omega
    refine h_ldi (w := 131330) (pc2 := 50) (by decide +kernel) (by decide +kernel) rfl (by omega) ?_
    refine h_con (w := 281474977497601) (pc2 := 52) (by decide +kernel) (v := 12) (by decide +kernel) ?_
    refine h_icmp (w := 844424935113490) (pc2 := 55) (by decide +kernel) (b := false) (by decide +kernel) (by omega) (by decide) (zc_ge_f (by omega) (by omega) (by omega)) ?_
    refine h_ldr (w := 259) (pc2 := 56) (by decide +kernel) (by decide +kernel) rfl (bR_ref (o := 0) hS.2.1.2.2 (by omega)) ?_
    refine s_getHr (w := 22969645913191650433696534) (pc2 := 59) (by decide +kernel) (c := 3) (k := 2) (by decide +kernel) hS.1 hS.2.1 (by decide) ?_
    refine h_ldi (w := 131330) (pc2 := 60) (by decide +kernel) (by decide +kernel) rfl (by omega) ?_
    refine s_aldL (w := 286) (pc2 := 61) (by decide +kernel) (by decide +kernel) hS.1 hS.2.1 hq ?_
    refine h_ldr (w := 65795) (pc2 := 62) (by decide +kernel) (by decide +kernel) rfl (bR_ref (o := 0) hC0.2.1.2.2 (by omega)) ?_
    refine s_getHr (w := 22969645913191650433696534) (pc2 := 65) (by decide +kernel) (c := 3) (k := 2) (by decide +kernel) hC0.1 hC0.2.1 (by decide) ?_
    refine h_ldi (w := 131330) (pc2 := 66) (by decide +kernel) (by decide +kernel) rfl (by omega) ?_
    refine s_aldL (w := 286) (pc2 := 67) (by decide +kernel) (by decide +kernel) hC0.1 hC0.2.1 hq ?_
    refine h_cv (w := 67704217777327652902798117) (c := 32) (n := 1) (by decide +kernel) (by decide +kernel) rfl (zA_L hS (by omega)) ⟨Nat.le_of_ble_eq_true rfl, Nat.le_of_ble_eq_true rfl⟩ (show ∀ cx ∈ [(bR c (25 + 3 * k)), (bR b (25 + 3 * k))], cx < 8589934592 from zl_c (bR_ref (o := (25 + 3 * k)) hC0.2.1.2.2 (by omega)).2 (zl_c (bR_ref (o := (25 + 3 * k)) hS.2.1.2.2 (by omega)).2 zl_n)) (st2 := []) rfl (l2 := [(bR b (25 + 3 * k)), (bR c (25 + 3 * k))]) (by show (List.take 2 _).reverse ++ List.replicate (zMaxL 32 - 2) _ = _; rw [show zMaxL 32 = 2 by decide +kernel]; rfl) ?_
    refine m32 hd hC hS hq (fun m1 a1 hS1 z1 z2 => gF_0 (by decide +kernel) ?_)
    refine h_inc (w := 562949953487622) (pc2 := 73) (by decide +kernel) (by decide +kernel) rfl (by omega) (c2 := (k + 1)) (by show (_ + 1) % 4294967296 = _; omega) (ls2 := [bR b 0, bR c 0, (k + 1)]) rfl ?_
    refine h_goto (w := 3212051) (pc2 := 49) (by decide +kernel) (by decide +kernel) ?_
    refine IH (k + 1) a1 m1 (by omega) hS1 (by rw [z2 0 (by omega)]; exact h0) (by rw [z2 1 (by omega)]; exact h1) (fun i hi j hj => ?_) (fun q hq2 j hj => ?_)
    · rw [z2 _ (by omega)]
      exact hA i hi j hj
    · by_cases qq : q = k
      · rw [qq]
        exact z1 j hj
      · rw [z2 _ (by omega)]
        exact hL q (by omega) j hj
/-- a harbour is copied: then it stands for what the other one stands for -/
theorem m7 {x : Nat} (hd : c + 61 ≤ b ∨ b + 61 ≤ c) (hC : bS c r e m9 m0) (hT : aT e) (hS : bS b p a m0 m) (g : ∀ m', bS b p e m0 m' → gFin1 sc Q frs 7 0 m') : gFin sc Q frs 7 0 [bR b 0, bR c 0, x] [] m := by
  have e17 := hC.2.1.2.1.2
  have hC0 := cS_fr hd hC hS
  refine h_ldr (w := 259) (pc2 := 1) (by decide +kernel) (by decide +kernel) rfl (bR_ref (o := 0) hS.2.1.2.2 (by omega)) ?_
  refine h_ldr (w := 65795) (pc2 := 2) (by decide +kernel) (by decide +kernel) rfl (bR_ref (o := 0) hC0.2.1.2.2 (by omega)) ?_
  refine s_getHx (w := 54401661882939787847009046) (pc2 := 5) (by decide +kernel) (c := 0) (x := 0) (by decide +kernel) hC0.1 hC0.2.1 (by decide) ?_
  refine s_putH (w := 54401661882939787847009047) (pc2 := 8) (by decide +kernel) (c := 0) (x := 0) (by decide +kernel) hS (hC0.2.1.2.1.1 _) ?_
  intro m1 hS1
  have hC1 := cS_fr hd hC hS1
  refine h_ldr (w := 259) (pc2 := 9) (by decide +kernel) (by decide +kernel) rfl (bR_ref (o := 0) hS1.2.1.2.2 (by omega)) ?_
  refine h_ldr (w := 65795) (pc2 := 10) (by decide +kernel) (by decide +kernel) rfl (bR_ref (o := 0) hC1.2.1.2.2 (by omega)) ?_
  refine s_getHx (w := 59237383608142378255516438) (pc2 := 13) (by decide +kernel) (c := 1) (x := 1) (by decide +kernel) hC1.1 hC1.2.1 (by decide) ?_
  refine s_putN (w := 59237383608142378255516439) (pc2 := 16) (by decide +kernel) (by decide +kernel) hS1 e17 (fun m2 a2 hS2 n1 n2 => ?_)
  refine h_con (w := 257) (pc2 := 17) (by decide +kernel) (v := 0) (by decide +kernel) ?_
  refine h_sti (w := 131332) (pc2 := 18) (by decide +kernel) (n := 3) (by decide +kernel) rfl (by decide) (ls2 := [bR b 0, bR c 0, 0]) rfl ?_
  refine m7_arms hd hC hT (fun m3 a3 hS3 f0 f1 fA => ?_) (e 1) 0 a2 m2 (Nat.zero_add _) hS2 (by rw [n2 0 (by decide) (by decide), bU_s]) n1 (fun i hi => absurd hi (Nat.not_lt_zero _))
  refine h_con (w := 257) (pc2 := 48) (by decide +kernel) (v := 0) (by decide +kernel) ?_
  refine h_sti (w := 131332) (pc2 := 49) (by decide +kernel) (n := 3) (by decide +kernel) rfl (by decide) (ls2 := [bR b 0, bR c 0, 0]) rfl ?_
  refine m7_lines hd hC (fun m4 a4 hS4 g0 g1 gA gL => ?_) 12 0 a3 m3 (by decide) hS3 f0 f1 fA (fun q hq => absurd hq (Nat.not_lt_zero _))
  have hC4 := cS_fr hd hC hS4
  refine h_ldr (w := 65795) (pc2 := 77) (by decide +kernel) (by decide +kernel) rfl (bR_ref (o := 0) hC4.2.1.2.2 (by omega)) ?_
  refine s_getHr (w := 27805367638394240842203926) (pc2 := 80) (by decide +kernel) (c := 4) (k := 3) (by decide +kernel) hC4.1 hC4.2.1 (by decide) ?_
  refine h_con (w := 257) (pc2 := 81) (by decide +kernel) (v := 0) (by decide +kernel) ?_
  refine h_ldr (w := 259) (pc2 := 82) (by decide +kernel) (by decide +kernel) rfl (bR_ref (o := 0) hS4.2.1.2.2 (by omega)) ?_
  refine s_getHr (w := 27805367638394240842203926) (pc2 := 85) (by decide +kernel) (c := 4) (k := 3) (by decide +kernel) hS4.1 hS4.2.1 (by decide) ?_
  refine h_con (w := 257) (pc2 := 86) (by decide +kernel) (v := 0) (by decide +kernel) ?_
  refine h_con (w := 327937) (pc2 := 87) (by decide +kernel) (v := 5) (by decide +kernel) ?_
  refine s_cpyS (w := 71326623357263121323655980) (pc2 := 90) (by decide +kernel) (by decide +kernel) (Nat.le_of_ble_eq_true rfl) hS4 hC4 (lo := 5) (by decide) ?_
  intro m5 hS5
  have hC5 := cS_fr hd hC hS5
  obtain ⟨a5, ea5⟩ : ∃ a5, a5 = mOv a4 e 5 (5 + 5) := ⟨_, rfl⟩
  rw [← ea5] at hS5
  refine h_ldr (w := 65795) (pc2 := 91) (by decide +kernel) (by decide +kernel) rfl (bR_ref (o := 0) hC5.2.1.2.2 (by omega)) ?_
  refine s_getHr (w := 32641089363596831250711318) (pc2 := 94) (by decide +kernel) (c := 5) (k := 4) (by decide +kernel) hC5.1 hC5.2.1 (by decide) ?_
  refine h_con (w := 257) (pc2 := 95) (by decide +kernel) (v := 0) (by decide +kernel) ?_
  refine h_ldr (w := 259) (pc2 := 96) (by decide +kernel) (by decide +kernel) rfl (bR_ref (o := 0) hS5.2.1.2.2 (by omega)) ?_
  refine s_getHr (w := 32641089363596831250711318) (pc2 := 99) (by decide +kernel) (c := 5) (k := 4) (by decide +kernel) hS5.1 hS5.2.1 (by decide) ?_
  refine h_con (w := 257) (pc2 := 100) (by decide +kernel) (v := 0) (by decide +kernel) ?_
  refine h_con (w := 131329) (pc2 := 101) (by decide +kernel) (v := 2) (by decide +kernel) ?_
  refine s_cpyS (w := 71326623357263121323655980) (pc2 := 104) (by decide +kernel) (by decide +kernel) (Nat.le_of_ble_eq_true rfl) hS5 hC5 (lo := 10) (by decide) ?_
  intro m6 hS6
  have hC6 := cS_fr hd hC hS6
  obtain ⟨a6, ea6⟩ : ∃ a6, a6 = mOv a5 e 10 (10 + 2) := ⟨_, rfl⟩
  rw [← ea6] at hS6
  refine h_ldr (w := 65795) (pc2 := 105) (by decide +kernel) (by decide +kernel) rfl (bR_ref (o := 0) hC6.2.1.2.2 (by omega)) ?_
  refine s_getHr (w := 36267885269184792484512534) (pc2 := 108) (by decide +kernel) (c := 6) (k := 5) (by decide +kernel) hC6.1 hC6.2.1 (by decide) ?_
  refine h_con (w := 257) (pc2 := 109) (by decide +kernel) (v := 0) (by decide +kernel) ?_
  refine h_ldr (w := 259) (pc2 := 110) (by decide +kernel) (by decide +kernel) rfl (bR_ref (o := 0) hS6.2.1.2.2 (by omega)) ?_
  refine s_getHr (w := 36267885269184792484512534) (pc2 := 113) (by decide +kernel) (c := 6) (k := 5) (by decide +kernel) hS6.1 hS6.2.1 (by decide) ?_
  refine h_con (w := 257) (pc2 := 114) (by decide +kernel) (v := 0) (by decide +kernel) ?_
  refine h_con (w := 131329) (pc2 := 115) (by decide +kernel) (v := 2) (by decide +kernel) ?_
  refine s_cpyS (w := 71326623357263121323655980) (pc2 := 118) (by decide +kernel) (by decide +kernel) (Nat.le_of_ble_eq_true rfl) hS6 hC6 (lo := 12) (by decide) ?_
  intro m7 hS7
  have hC7 := cS_fr hd hC hS7
  obtain ⟨a7, ea7⟩ : ∃ a7, a7 = mOv a6 e 12 (12 + 2) := ⟨_, rfl⟩
  rw [← ea7] at hS7
  refine h_ldr (w := 259) (pc2 := 119) (by decide +kernel) (by decide +kernel) rfl (bR_ref (o := 0) hS7.2.1.2.2 (by omega)) ?_
  refine s_getHr (w := 43521458633616641242432278) (pc2 := 122) (by decide +kernel) (c := 7) (k := 6) (by decide +kernel) hS7.1 hS7.2.1 (by decide) ?_
  refine h_ldr (w := 65795) (pc2 := 123) (by decide +kernel) (by decide +kernel) rfl (bR_ref (o := 0) hC7.2.1.2.2 (by omega)) ?_
  refine s_getHr (w := 43521458633616641242432278) (pc2 := 126) (by decide +kernel) (c := 7) (k := 6) (by decide +kernel) hC7.1 hC7.2.1 (by decide) ?_
  refine h_cv (w := 78584697727811905152156453) (c := 41) (n := 1) (by decide +kernel) (by decide +kernel) rfl (zA_G hS7) ⟨Nat.le_of_ble_eq_true rfl, Nat.le_of_ble_eq_true rfl⟩ (show ∀ cx ∈ [bR c 6, bR b 6], cx < 8589934592 from zl_c (bR_ref (o := 6) hC7.2.1.2.2 (by omega)).2 (zl_c (bR_ref (o := 6) hS7.2.1.2.2 (by omega)).2 zl_n)) (st2 := []) rfl (l2 := [bR b 6, bR c 6]) (by show (List.take 2 _).reverse ++ List.replicate (zMaxL 41 - 2) _ = _; rw [show zMaxL 41 = 2 by decide +kernel]; rfl) ?_
  refine m41 hd hC hS7 (fun m8 hS8 => (gF_0 (by decide +kernel) ?_))
  have hC8 := cS_fr hd hC hS8
  obtain ⟨a8, ea8⟩ : ∃ a8, a8 = (bU a7 14 (e 14)) := ⟨_, rfl⟩
  rw [← ea8] at hS8
  refine h_ldr (w := 259) (pc2 := 130) (by decide +kernel) (by decide +kernel) rfl (bR_ref (o := 0) hS8.2.1.2.2 (by omega)) ?_
  refine h_ldr (w := 65795) (pc2 := 131) (by decide +kernel) (by decide +kernel) rfl (bR_ref (o := 0) hC8.2.1.2.2 (by omega)) ?_
  refine s_getHx (w := 82207103308028848542712598) (pc2 := 134) (by decide +kernel) (c := 8) (x := 2) (by decide +kernel) hC8.1 hC8.2.1 (by decide) ?_
  refine s_putH (w := 82207103308028848542712599) (pc2 := 137) (by decide +kernel) (c := 8) (x := 2) (by decide +kernel) hS8 (hC8.2.1.2.1.1 _) ?_
  intro m9 hS9
  have hC9 := cS_fr hd hC hS9
  obtain ⟨a9, ea9⟩ : ∃ a9, a9 = (bU a8 (2) ((e 2))) := ⟨_, rfl⟩
  rw [← ea9] at hS9
  refine h_ldr (w := 259) (pc2 := 138) (by decide +kernel) (by decide +kernel) rfl (bR_ref (o := 0) hS9.2.1.2.2 (by omega)) ?_
  refine h_ldr (w := 65795) (pc2 := 139) (by decide +kernel) (by decide +kernel) rfl (bR_ref (o := 0) hC9.2.1.2.2 (by omega)) ?_
  refine s_getHx (w := 85833899213616809776513814) (pc2 := 142) (by decide +kernel) (c := 9) (x := 3) (by decide +kernel) hC9.1 hC9.2.1 (by decide) ?_
  refine s_putH (w := 85833899213616809776513815) (pc2 := 145) (by decide +kernel) (c := 9) (x := 3) (by decide +kernel) hS9 (hC9.2.1.2.1.1 _) ?_
  intro m10 hS10
  have hC10 := cS_fr hd hC hS10
  obtain ⟨a10, ea10⟩ : ∃ a10, a10 = (bU a9 (3) ((e 3))) := ⟨_, rfl⟩
  rw [← ea10] at hS10
  refine h_ldr (w := 259) (pc2 := 146) (by decide +kernel) (by decide +kernel) rfl (bR_ref (o := 0) hS10.2.1.2.2 (by omega)) ?_
  refine h_ldr (w := 65795) (pc2 := 147) (by decide +kernel) (by decide +kernel) rfl (bR_ref (o := 0) hC10.2.1.2.2 (by omega)) ?_
  refine s_getHx (w := 89460695119204771010315030) (pc2 := 150) (by decide +kernel) (c := 10) (x := 4) (by decide +kernel) hC10.1 hC10.2.1 (by decide) ?_
  refine s_putH (w := 89460695119204771010315031) (pc2 := 153) (by decide +kernel) (c := 10) (x := 4) (by decide +kernel) hS10 (hC10.2.1.2.1.1 _) ?_
  intro m11 hS11
  have hC11 := cS_fr hd hC hS11
  obtain ⟨a11, ea11⟩ : ∃ a11, a11 = (bU a10 (4) ((e 4))) := ⟨_, rfl⟩
  rw [← ea11] at hS11
  have g4 : ∀ y, a11 y = if y = 4 then e 4 else if y = 3 then e 3 else if y = 2 then e 2 else if y = 14 then e 14 else if 12 ≤ y ∧ y < 14 then e y else if 10 ≤ y ∧ y < 12 then e y else if 5 ≤ y ∧ y < 10 then e y else a4 y := fun y => by
    rw [ea11, bU_ap, ea10, bU_ap, ea9, bU_ap, ea8, bU_ap, ea7, ea6, ea5]
    rfl
  refine h_ret0 (w := 302) (by decide +kernel) (by decide +kernel) (g _ (bS_X ⟨fun y hy => ?_, fun i hi j hj => ?_, fun q hq j hj => ?_⟩ hC.2.1.2.1.1 hS11))
  · rcases (show y = 0 ∨ y = 1 ∨ y = 2 ∨ y = 3 ∨ y = 4 ∨ y = 5 ∨ y = 6 ∨ y = 7 ∨ y = 8 ∨ y = 9 ∨ y = 10 ∨ y = 11 ∨ y = 12 ∨ y = 13 ∨ y = 14 by omega) with rfl | rfl | rfl | rfl | rfl | rfl | rfl | rfl | rfl | rfl | rfl | rfl | rfl | rfl | rfl
    · rw [g4]; exact g0.symm
    · rw [g4]; exact g1.symm
    all_goals (rw [g4]; rfl)
  · have h1 : a11 1 = e 1 := by rw [g4]; exact g1
    rw [h1] at hi
    rw [g4, if_neg (by omega), if_neg (by omega), if_neg (by omega), if_neg (by omega), if_neg (by omega), if_neg (by omega), if_neg (by omega)]
    exact (gA i hi j hj).symm
  · rw [g4, if_neg (by omega), if_neg (by omega), if_neg (by omega), if_neg (by omega), if_neg (by omega), if_neg (by omega), if_neg (by omega)]
    exact (gL q hq j hj).symm
end BG
