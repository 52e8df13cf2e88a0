/-! ===== a new object: the kernel runs its constructors; the claim's walk ===== -/
def st0 : Nat → Nat := fun y => bif Nat.beq y 5 then 2 else bif Nat.beq y 6 then 6 else bif Nat.beq y 7 then 2 else bif Nat.beq y 8 then 8 else bif Nat.beq y 10 then 2 else bif Nat.beq y 11 then 8 else bif Nat.beq y 12 then 2 else bif Nat.beq y 13 then 8 else 0
def cV (b o j v : Nat) : Bool := bif Nat.beq o 0 then Nat.beq v (bif Nat.ble j 1 then 0 else bif Nat.ble j 7 then bR b (j - 1) else 0)
  else bif Nat.beq o 1 then Nat.beq v (bR b (8 + j))
  else bif Nat.beq o 2 then Nat.beq v (bR b (25 + 3 * j))
  else bif Nat.beq o 3 then Nat.beq v (st0 (5 + j))
  else bif Nat.beq o 4 then Nat.beq v (st0 (10 + j))
  else bif Nat.beq o 5 then Nat.beq v (st0 (12 + j))
  else bif Nat.beq o 6 then Nat.beq v (bif Nat.beq j 0 then bR b 7 else 0)
  else bif Nat.ble o 24 then Nat.blt v 4294967296
  else bif Nat.beq ((o - 25) % 3) 0 then Nat.beq v (bif Nat.beq j 0 then bR b (o + 1) else bif Nat.beq j 1 then bR b (o + 2) else 0)
  else bif Nat.beq ((o - 25) % 3) 1 then Nat.beq v 0
  else Nat.blt v 4294967296
theorem st0_0 {y : Nat} (h : y < 5 ∨ y = 9 ∨ 14 ≤ y) : st0 y = 0 := by
  unfold st0
  rw [nb_ne.mpr (by omega), nb_ne.mpr (by omega), nb_ne.mpr (by omega), nb_ne.mpr (by omega), nb_ne.mpr (by omega), nb_ne.mpr (by omega), nb_ne.mpr (by omega), nb_ne.mpr (by omega)]
  rfl
theorem st0_lt {y : Nat} : st0 y ≤ 8 := by
  unfold st0
  cases Nat.beq y 5 <;> cases Nat.beq y 6 <;> cases Nat.beq y 7 <;> cases Nat.beq y 8 <;> cases Nat.beq y 10 <;> cases Nat.beq y 11 <;> cases Nat.beq y 12 <;> cases Nat.beq y 13 <;> exact Nat.le_of_ble_eq_true rfl
theorem cV_ok {b o j v : Nat} (hj : j < bLn o) (ho : o < 61) (h : cV b o j v = true) : bV b (fun i => i) st0 o j v := by
  have hl := bLn_b ho hj
  unfold cV at h
  unfold bV
  by_cases e0 : o = 0
  · rw [nb_eq.mpr e0, cond_true, nb_eq] at h
    rw [if_pos e0, h]
    by_cases q0 : j = 0
    · rw [if_pos q0, q0]; rfl
    by_cases q1 : j = 1
    · rw [if_neg q0, if_pos q1, q1]; rfl
    rw [if_neg q0, if_neg q1, show Nat.ble j 1 = false from by rw [← Bool.not_eq_true, nl_le]; omega, cond_false]
    by_cases q2 : j ≤ 7
    · rw [if_pos q2, nl_le.mpr q2, cond_true]
    · have := hl.1 e0
      rw [if_neg q2, show Nat.ble j 7 = false from by rw [← Bool.not_eq_true, nl_le]; omega, cond_false, st0_0 (by omega)]
  rw [nb_ne.mpr e0, cond_false] at h
  rw [if_neg e0]
  by_cases e1 : o = 1
  · rw [nb_eq.mpr e1, cond_true, nb_eq] at h
    rw [if_pos e1]
    exact h
  rw [nb_ne.mpr e1, cond_false] at h
  rw [if_neg e1]
  by_cases e2 : o = 2
  · rw [nb_eq.mpr e2, cond_true, nb_eq] at h
    rw [if_pos e2]
    exact h
  rw [nb_ne.mpr e2, cond_false] at h
  rw [if_neg e2]
  by_cases e3 : o = 3
  · rw [nb_eq.mpr e3, cond_true, nb_eq] at h
    rw [if_pos e3]
    exact h
  rw [nb_ne.mpr e3, cond_false] at h
  rw [if_neg e3]
  by_cases e4 : o = 4
  · rw [nb_eq.mpr e4, cond_true, nb_eq] at h
    rw [if_pos e4]
    exact h
  rw [nb_ne.mpr e4, cond_false] at h
  rw [if_neg e4]
  by_cases e5 : o = 5
  · rw [nb_eq.mpr e5, cond_true, nb_eq] at h
    rw [if_pos e5]
    exact h
  rw [nb_ne.mpr e5, cond_false] at h
  rw [if_neg e5]
  by_cases e6 : o = 6
  · rw [nb_eq.mpr e6, cond_true, nb_eq] at h
    rw [if_pos e6, h]
    by_cases q0 : j = 0
    · rw [if_pos q0, nb_eq.mpr q0, cond_true]
    · rw [if_neg q0, nb_ne.mpr q0, cond_false, st0_0 (by omega)]
  rw [nb_ne.mpr e6, cond_false] at h
  rw [if_neg e6]
  by_cases e8 : o ≤ 24
  · rw [nl_le.mpr e8, cond_true, nl_lt] at h
    by_cases e7 : o = 7
    · rw [if_pos e7]
      exact h
    · rw [if_neg e7, if_pos e8]
      refine ⟨h, fun i hi => ?_⟩
      rw [st0_0 (by omega)] at hi
      omega
  rw [show Nat.ble o 24 = false from by rw [← Bool.not_eq_true, nl_le]; exact e8, cond_false] at h
  rw [if_neg (by omega), if_neg e8]
  by_cases e9 : (o - 25) % 3 = 0
  · rw [nb_eq.mpr e9, cond_true, nb_eq] at h
    rw [if_pos e9, h]
    by_cases q0 : j = 0
    · rw [if_pos q0, nb_eq.mpr q0, cond_true]
    by_cases q1 : j = 1
    · rw [if_neg q0, if_pos q1, nb_ne.mpr q0, cond_false, nb_eq.mpr q1, cond_true]
    rw [if_neg q0, if_neg q1, nb_ne.mpr q0, cond_false, nb_ne.mpr q1, cond_false, st0_0 (by omega)]
  rw [nb_ne.mpr e9, cond_false] at h
  rw [if_neg e9]
  by_cases e10 : (o - 25) % 3 = 1
  · rw [nb_eq.mpr e10, cond_true, nb_eq] at h
    rw [if_pos e10, h, st0_0 (by omega)]
  rw [nb_ne.mpr e10, cond_false, nl_lt] at h
  rw [if_neg e10]
  exact h
abbrev zCl : Type := Nat × Nat × (Nat → Nat)
def cBk (b k : Nat) (x : zCl) : Bool := Nat.beq x.1 (bKd (k - b)) && (Nat.beq x.2.1 (bLn (k - b)) && (List.range (bLn (k - b))).all (fun j => cV b (k - b) j (x.2.2 j)))
/-- what a new object's cells hold -/
def cCe (k : Nat) (x : zCl) : Bool := bif Nat.beq k 0 then (Nat.beq x.1 5 && Nat.beq x.2.1 7) && ((Nat.beq (x.2.2 0) (bR 1 0) && Nat.beq (x.2.2 1) (bR 62 0)) && (Nat.beq (x.2.2 2) 0 && Nat.beq (x.2.2 5) (bR 124 0)))
  else bif Nat.blt k 62 then cBk 1 k x
  else bif Nat.beq k 62 then (Nat.beq x.1 11 && Nat.beq x.2.1 4) && ((Nat.beq (x.2.2 0) (bR 190 0) && Nat.beq (x.2.2 1) (bR 251 0)) && (Nat.beq (x.2.2 2) (bR 312 0) && Nat.beq (x.2.2 3) (bR 373 0)))
  else bif Nat.blt k 124 then Nat.ble x.2.1 80
  else bif Nat.blt k 185 then cBk 124 k x
  else bif Nat.blt k 190 then Nat.ble x.2.1 80
  else bif Nat.blt k 251 then cBk 190 k x
  else bif Nat.blt k 312 then cBk 251 k x
  else bif Nat.blt k 373 then cBk 312 k x
  else cBk 373 k x
def cG : Nat → zM → Bool
  | _, [] => true
  | k, x :: m => cCe k x && cG (k + 1) m
theorem cG_ok : ∀ {k : Nat} {m : zM} {i : Nat} {x : zCl}, cG k m = true → m[i]? = some x → cCe (k + i) x = true
  | _, [], _, _, _, h => by cases h
  | k, y :: m, i, x, g, h => by
    unfold cG at g
    rw [Bool.and_eq_true] at g
    rcases i with _ | i
    · cases h
      exact g.1
    · have := cG_ok g.2 (i := i) h
      rw [show k + 1 + i = k + (i + 1) by omega] at this
      exact this
def cOk (x : kR) : Bool := match x with
  | some (pc, ls, st, _, R) => (Nat.beq pc 8 && (decide (ls = [8589934595, bR 0 0] ++ List.replicate 19 1099511627776) && decide (st = []))) && (Nat.beq R.length 434 && cG 0 R.reverse)
  | none => false
set_option maxRecDepth 100000 in
theorem p25_pre : cOk (kFore 20000 65 4 0 ([8589934595] ++ List.replicate 20 1099511627776) [] 0 []) = true := by decide +kernel
theorem blt_f {x y : Nat} (h : y ≤ x) : Nat.blt x y = false := by
  rw [← Bool.not_eq_true, nl_lt]
  omega
theorem cBk_ok {b : Nat} {m : zM} (hb : b < 100000) (h : ∀ o, o < 61 → ∃ x, m[b + o]? = some x ∧ cBk b (b + o) x = true) : ∃ p a, bS b p a m m ∧ a = st0 := by
  refine ⟨fun i => i, st0, ⟨fun o ho => ?_, ⟨⟨fun i hi => hi, fun i k _ _ h => h⟩, ⟨fun x => Nat.lt_of_le_of_lt st0_lt (by decide), Nat.le_trans (Nat.le_of_eq (st0_0 (by omega))) (by decide)⟩, hb⟩, bFr_rf⟩, rfl⟩
  obtain ⟨⟨kd, n, f⟩, h1, h2⟩ := h o ho
  unfold cBk at h2
  rw [Nat.add_sub_cancel_left] at h2
  simp only [Bool.and_eq_true, nb_eq] at h2
  obtain ⟨rfl, rfl, h3⟩ := h2
  exact ⟨f, h1, fun j hj => cV_ok hj ho (List.all_eq_true.mp h3 j (List.mem_range.mpr hj))⟩
theorem cell_at {m : zM} (hl : m.length = 434) {k : Nat} (hk : k < 434) : ∃ x, m[k]? = some x := ⟨_, List.getElem?_eq_getElem (by omega)⟩
theorem cG_w {m : zM} (hl : m.length = 434) (h : cG 0 m = true) : oW st0 0 m := by
  have hc : ∀ k x, m[k]? = some x → cCe k x = true := fun k x hx => by
    have := cG_ok h hx
    rw [Nat.zero_add] at this
    exact this
  have hb : ∀ b, (b = 1 ∨ wT b) → ∃ p a, bS b p a m m ∧ a = st0 := fun b hb => by
    have hb : b = 1 ∨ b = 124 ∨ b = 190 ∨ b = 251 ∨ b = 312 ∨ b = 373 := hb
    refine cBk_ok (by omega) (fun o ho => ?_)
    obtain ⟨x, hx⟩ := cell_at hl (k := b + o) (by omega)
    have g := hc _ x hx
    refine ⟨x, hx, ?_⟩
    unfold cCe at g
    rw [nb_ne.mpr (by omega), cond_false] at g
    by_cases c1 : b + o < 62
    · rw [nl_lt.mpr c1, cond_true, show 1 = b by omega] at g
      exact g
    rw [blt_f (by omega), cond_false, nb_ne.mpr (by omega), cond_false, blt_f (by omega), cond_false] at g
    by_cases c2 : b + o < 185
    · rw [nl_lt.mpr c2, cond_true, show 124 = b by omega] at g
      exact g
    rw [blt_f (by omega), cond_false, blt_f (by omega), cond_false] at g
    by_cases c3 : b + o < 251
    · rw [nl_lt.mpr c3, cond_true, show 190 = b by omega] at g
      exact g
    rw [blt_f (by omega), cond_false] at g
    by_cases c4 : b + o < 312
    · rw [nl_lt.mpr c4, cond_true, show 251 = b by omega] at g
      exact g
    rw [blt_f (by omega), cond_false] at g
    by_cases c5 : b + o < 373
    · rw [nl_lt.mpr c5, cond_true, show 312 = b by omega] at g
      exact g
    rw [blt_f (by omega), cond_false, show 373 = b by omega] at g
    exact g
  obtain ⟨p1, a1, h1, rfl⟩ := hb 1 (Or.inl rfl)
  obtain ⟨⟨k0, n0, f0⟩, z0⟩ := cell_at hl (k := 0) (by decide)
  obtain ⟨⟨k6, n6, f6⟩, z6⟩ := cell_at hl (k := 62) (by decide)
  have g0 : ((Nat.beq k0 5 && Nat.beq n0 7) && ((Nat.beq (f0 0) (bR 1 0) && Nat.beq (f0 1) (bR 62 0)) && (Nat.beq (f0 2) 0 && Nat.beq (f0 5) (bR 124 0)))) = true := hc _ _ z0
  have g6 : ((Nat.beq k6 11 && Nat.beq n6 4) && ((Nat.beq (f6 0) (bR 190 0) && Nat.beq (f6 1) (bR 251 0)) && (Nat.beq (f6 2) (bR 312 0) && Nat.beq (f6 3) (bR 373 0)))) = true := hc _ _ z6
  simp only [Bool.and_eq_true, nb_eq] at g0 g6
  obtain ⟨⟨rfl, rfl⟩, ⟨u0, u1⟩, u2, u5⟩ := g0
  obtain ⟨⟨rfl, rfl⟩, ⟨v0, v1⟩, v2, v3⟩ := g6
  refine ⟨⟨p1, h1⟩, ⟨f0, z0, ⟨u0, u1⟩, u2, u5⟩, ⟨⟨f6, z6, fun j hj => ?_⟩, hl, fun k hk x hx => ?_⟩, fun x hx => ?_⟩
  · rcases (show j = 0 ∨ j = 1 ∨ j = 2 ∨ j = 3 by omega) with rfl | rfl | rfl | rfl
    · exact ⟨190, Or.inl rfl, v0⟩
    · exact ⟨251, Or.inr (Or.inl rfl), v1⟩
    · exact ⟨312, Or.inr (Or.inr (Or.inl rfl)), v2⟩
    · exact ⟨373, Or.inr (Or.inr (Or.inr rfl)), v3⟩
  · have g := hc _ x hx
    unfold cCe at g
    rw [nb_ne.mpr (by omega), cond_false, blt_f (by omega), cond_false, nb_ne.mpr (by omega), cond_false] at g
    by_cases c1 : k < 124
    · rw [nl_lt.mpr c1, cond_true, nl_le] at g
      exact g
    rw [blt_f (by omega), cond_false, blt_f (by omega), cond_false, nl_lt.mpr (by omega), cond_true, nl_le] at g
    exact g
  · obtain ⟨p, a, g, -⟩ := hb x (Or.inr hx)
    exact ⟨p, a, g⟩
theorem st0_v : vI 0 st0 := by
  have e1 : st0 1 = 0 := rfl
  refine ⟨⟨⟨by rw [e1]; decide, by unfold vT; decide⟩, fun i hi => absurd hi (Nat.not_lt_zero _), fun q hq => ⟨⟨?_, ?_⟩, fun j hj => ?_⟩, by unfold vD; decide⟩, by unfold vN; decide, by unfold vB; decide⟩
  · rw [st0_0 (by omega)]
    decide
  · rw [st0_0 (by omega), e1]
    rfl
  · rw [st0_0 (by omega)] at hj
    exact absurd hj (Nat.not_lt_zero _)
theorem zSl_le : ∀ {m : zM}, (∀ x ∈ m, x.2.1 ≤ 80) → zSl m ≤ 80 * m.length
  | [], _ => Nat.le_refl _
  | x :: m, h => by
    have h1 := h x List.mem_cons_self
    have h2 := zSl_le (m := m) (fun y hy => h y (List.mem_cons_of_mem _ hy))
    have e : zSl (x :: m) = x.2.1 + zSl m := by
      unfold zSl
      rw [List.map_cons, List.sum_cons]
    rw [e, List.length_cons]
    omega
set_option maxRecDepth 100000 in
theorem bLn_80 : (List.range 61).all (fun o => Nat.ble (bLn o) 80) = true := by decide +kernel
/-- the room that the law takes -/
theorem oW_sz {a : Nat → Nat} {u : Nat} {m : zM} (hW : oW a u m) : m.length ≤ 600000 ∧ zSl m ≤ 7302250 := by
  obtain ⟨⟨p1, hN⟩, ⟨f, f1, -⟩, ⟨⟨h, h1, -⟩, hl, hX⟩, hT⟩ := hW
  have hb : ∀ b k p e, bS b p e m m → b ≤ k → k < b + 61 → ∀ x, m[k]? = some x → x.2.1 ≤ 80 := fun b k p e hS h1 h2 x hx => by
    obtain ⟨g, g1, -⟩ := hS.1 (k - b) (by omega)
    rw [show b + (k - b) = k by omega, hx] at g1
    rw [Option.some.inj g1]
    exact nl_le.mp (List.all_eq_true.mp bLn_80 (k - b) (List.mem_range.mpr (by omega)))
  have hx : ∀ x ∈ m, x.2.1 ≤ 80 := fun x hx => by
    obtain ⟨k, hk, e⟩ := List.getElem_of_mem hx
    have ek : m[k]? = some x := by rw [List.getElem?_eq_getElem hk, e]
    by_cases c0 : k = 0
    · rw [c0, f1] at ek
      rw [← Option.some.inj ek]
      exact Nat.le_of_ble_eq_true rfl
    by_cases c1 : k < 62
    · exact hb 1 k _ _ hN (by omega) (by omega) x ek
    by_cases c2 : k = 62
    · rw [c2, h1] at ek
      rw [← Option.some.inj ek]
      exact Nat.le_of_ble_eq_true rfl
    by_cases c3 : k < 124
    · exact hX k (by omega) x ek
    by_cases c4 : k < 185
    · obtain ⟨p, e, hS⟩ := hT 124 (Or.inl rfl)
      exact hb 124 k _ _ hS (by omega) (by omega) x ek
    by_cases c5 : k < 190
    · exact hX k (by omega) x ek
    by_cases c6 : k < 251
    · obtain ⟨p, e, hS⟩ := hT 190 (Or.inr (Or.inl rfl))
      exact hb 190 k _ _ hS (by omega) (by omega) x ek
    by_cases c7 : k < 312
    · obtain ⟨p, e, hS⟩ := hT 251 (Or.inr (Or.inr (Or.inl rfl)))
      exact hb 251 k _ _ hS (by omega) (by omega) x ek
    by_cases c8 : k < 373
    · obtain ⟨p, e, hS⟩ := hT 312 (Or.inr (Or.inr (Or.inr (Or.inl rfl))))
      exact hb 312 k _ _ hS (by omega) (by omega) x ek
    · obtain ⟨p, e, hS⟩ := hT 373 (Or.inr (Or.inr (Or.inr (Or.inr rfl))))
      exact hb 373 k _ _ hS (by omega) (by omega) x ek
  have := zSl_le hx
  omega
theorem p25_go {sc : List Nat} (hs : sOk sc) : ∃ (n : Nat) (m' : zM), zGo sc n 65 0 ([8589934595] ++ List.replicate 20 1099511627776) [] [] = some (1, m') ∧ m'.length ≤ 600000 ∧ zSl m' ≤ 7302250 := by
  have h := p25_pre
  rcases e : kFore 20000 65 4 0 ([8589934595] ++ List.replicate 20 1099511627776) [] 0 [] with _ | ⟨pc, ls, st, N, R⟩
  · rw [e] at h
    cases h
  rw [e] at h
  simp only [cOk, Bool.and_eq_true, decide_eq_true_eq, nb_eq] at h
  obtain ⟨⟨rfl, rfl, rfl⟩, h4, h5⟩ := h
  have hW := cG_w (by rw [List.length_reverse]; exact h4) h5
  have hf : gFin sc (fun v m => v = 1 ∧ m.length ≤ 600000 ∧ zSl m ≤ 7302250) [] 65 8 ([8589934595, bR 0 0] ++ List.replicate 19 1099511627776) [] R.reverse := m65 hs hW st0_v (fun m a u hw => ⟨rfl, oW_sz hw⟩)
  have hf2 := kFore_ok e rfl (Nat.zero_le _) hf
  obtain ⟨n, v, m', g1, rfl, g2⟩ := hf2
  exact ⟨n, m', g1, g2⟩
theorem whole_start {p : Program} {e : Env} {s : State} {m : MethodId} {below : List Frame} {meth : Method} {c : Code} (l : Launch) (hflags : l.flags = flags0) {b L : Nat} {xs : Nat → Int32} (hL : L ≤ 260) (C0 : lw_At p s m meth c b L xs) : W p l e room_1 s m #[Value.ref b] below meth c s.heap [] 0 0 (lw_Z below #[Value.ref b] s) (entryFrame m ([Value.ref b] : List Value).toArray 21) := by
  have hlen := zScr_len L xs
  obtain ⟨n, m', h1, h2, h3⟩ := p25_go (sc := zScr L xs) ⟨by rw [hlen]; omega, zScr_lt⟩
  exact zStart l (by omega) C0 h1 h2 h3
