/-! ===== a loop that ends because each round takes an arm out of those that don't go: lends (method 96) ===== -/
/-- how many of the first n arms aren't on their way -/
def lCnt (f : Nat → Nat) : Nat → Nat
  | 0 => 0
  | n + 1 => (if f (98 + 8 * n) = 2 then 0 else 1) + lCnt f n
theorem lCnt_eq {f g : Nat → Nat} : ∀ {n : Nat}, (∀ b, b < n → g (98 + 8 * b) = f (98 + 8 * b)) → lCnt g n = lCnt f n
  | 0, _ => rfl
  | n + 1, h => by
    simp only [lCnt]
    rw [h n (Nat.lt_succ_self n), lCnt_eq (fun b hb => h b (Nat.lt_succ_of_lt hb))]
theorem lCnt_lt {f g : Nat → Nat} {a : Nat} (h1 : f (98 + 8 * a) ≠ 2) (h2 : g (98 + 8 * a) = 2) : ∀ {n : Nat}, a < n → (∀ b, b < n → b ≠ a → g (98 + 8 * b) = f (98 + 8 * b)) → lCnt g n < lCnt f n
  | 0, h, _ => absurd h (Nat.not_lt_zero _)
  | n + 1, h, hb => by
    simp only [lCnt]
    by_cases q : a = n
    · subst q
      rw [if_pos h2, if_neg h1, lCnt_eq (fun b hb2 => hb b (Nat.lt_succ_of_lt hb2) (Nat.ne_of_lt hb2))]
      omega
    · rw [hb n (Nat.lt_succ_self n) (Ne.symm q)]
      have := lCnt_lt h1 h2 (n := n) (by omega) (fun b hb2 hn => hb b (Nat.lt_succ_of_lt hb2) hn)
      omega
def lPl (q v : eE) (r : Nat) (fs : List eF) : eS := ([], 96, 36, [(1, r, 0, 0, r + 1, 0), (0, 2147483648, 2147483651, 1, 20001, 0), (0, 0, 4294967295, 1, 0, 0), q, v], [], fs, 30000)
/-- at the loop's head: no arm; the arm a, that idles -/
def lPn (r : Nat) : eS := lPl (0, 2147483643, 2147483659, 1, 0, 0) (0, 2147483643, 2147483643, 0, 0, 0) r []
def lF (r a v : Nat) : eF := (r + 1, r, 0, 98 + 8 * a, 0, (0, 2147483648 + v, 2147483648 + v, 0, 0, 0))
def lP (r a : Nat) : eS := lPl (0, 2147483648, 2147483659, 1, 0, 0) (0, 2147483648 + a, 2147483648 + a, 0, 0, 0) r [lF r a 0]
def lP2 (r a b : Nat) : eS := lPl (0, 2147483648, 2147483659, 1, 0, 0) (0, 2147483648 + b, 2147483648 + b, 0, 0, 0) r [lF r b 0, lF r a 2]
def lWa (r a : Nat) : List (Nat × Nat × Nat) := [(r, 14, 94), (r, 97 + 8 * a, 102 + 8 * a)]
def lW (r : Nat) : List (Nat × Nat × Nat) := [(r, 14, 94), (r, 97, 230)]
def lHy (r a : Nat) : eCt := (20000, (20001, 0, 0, 0), lPn r :: ((List.range 17).filter (fun b => !Nat.beq b a)).map (lP2 r a))
def lC (r : Nat) : eCt := (20000, (20001, 1, 2147483648, 2147483651), lPn r :: (List.range 17).map (lP r))
def lE : List (eE × List eF) := [((0, 0, 4294967295, 1, 0, 0), [])]
def lRow (r : Nat) : eSm := (96, ([], 96, 0, [(1, r, 0, 0, r + 1, 0), (0, 2147483648, 2147483651, 1, 10001, 0), eAny, eAny, eAny], [], [], 16000), lE, lW r, 0)
section LA
variable {sc : List Nat} {su : List eSm} {r : Nat}
theorem lF_at {ρ : Nat → Nat} {nx Bc a v : Nat} {m : zM} (hs : 0 < eSg.getD r 0) (hr : gRig sc ρ) (h : gF sc Bc ρ nx m (lF r a v)) (hv : v < 2147483648) : ∃ kd n f, m[eSg.getD r 0 - 1]? = some (kd, n, f) ∧ f (98 + 8 * a) = v := by
  have h1 := eSg_lt hs
  have h2 := eSg_len
  obtain ⟨-, c, h3, h4⟩ := (gF_a (Nat.zero_le 1)).mp h
  unfold gSl at h3
  rw [if_neg (by omega)] at h3
  obtain ⟨k, kd, n, f, ⟨a1, a2, a3⟩, a4, a5⟩ := h3
  have e := hr.1 r hs
  have hk : k = eSg.getD r 0 - 1 := by omega
  subst hk
  obtain ⟨b1, ⟨b2, b3⟩, -⟩ := gA_i0 h4.1
  have b4 := zs_of b1 (by omega)
  rw [gIx_0] at a5
  exact ⟨kd, n, f, a4, by omega⟩
theorem lends_lem (hD : eDat = true) (hsu : ∀ q ∈ su, gSum sc q ∧ eWf 10000 q.2.1 = true) (hs : 0 < eSg.getD r 0) {F : Nat}
    (hw : eWfC (lC r) = true ∧ (List.range 17).all (fun a => eWfC (lHy r a)) = true)
    (hn : eChk (su, ([], []), lW r, lE, [], [], []) F true [] (lPn r) = some 0)
    (hg : (List.range 17).all (fun a => match eChk (su, ([], []), lWa r a, [], [], [], []) F true [lHy r a] (lP r a) with | some k => Nat.beq k 0 | none => false) = true)
    (BF : Nat) (m0 : zM) (ρ0 : Nat → Nat) (hBF : BF ≤ 1073741824) : gLem sc (gQ sc lE (lW r) BF m0 ρ0) (lW r) BF m0 ρ0 (lC r) 0 := by
  have hNone : ∀ (ρ : Nat → Nat) (frs : gCf) (i pc : Nat) (cl cst : List Nat) (m : zM) (Bc : Nat), gAg 10000 ρ0 ρ → gS sc Bc ρ (lPn r) frs i pc cl cst m → gM Bc m → gW (lW r) m0 m → Bc ≤ BF → gFin sc (gQ sc lE (lW r) BF m0 ρ0) frs i pc cl cst m := by
    intro ρ frs i pc cl cst m Bc g0 g1 g2 g3 g5
    have hc := eChk_ok (sc := sc) (cf := (su, ([], []), lW r, lE, [], [], [])) (BF := BF) (m0 := m0) (ρ0 := ρ0) hD hBF hsu (fun c hc => by cases hc) (fun q hq => by cases hq) F
    exact hc true [] (lPn r) 0 hn ρ frs i pc cl cst m Bc 0 g0 g1 g2 g3 (fun d hd => by cases hd) (by omega)
  have hArm : ∀ (N a : Nat), a < 17 → ∀ (ρ : Nat → Nat) (frs : gCf) (i pc : Nat) (cl cst : List Nat) (m : zM) (Bc : Nat), (∀ kd n f, m[eSg.getD r 0 - 1]? = some (kd, n, f) → lCnt f 17 ≤ N) → gAg 10000 ρ0 ρ → gS sc Bc ρ (lP r a) frs i pc cl cst m → gM Bc m → gW (lW r) m0 m → Bc ≤ BF → gFin sc (gQ sc lE (lW r) BF m0 ρ0) frs i pc cl cst m := by
    intro N
    induction N with
    | zero =>
      intro a ha ρ frs i pc cl cst m Bc hN g0 g1 g2 g3 g5
      exfalso
      obtain ⟨kd, n, f, e1, e2⟩ := lF_at (v := 0) hs g1.2.2.2.2 (g1.2.2.1 _ List.mem_cons_self) (by decide)
      have h0 := hN kd n f e1
      have := lCnt_lt (f := f) (g := fun j => if j = 98 + 8 * a then 2 else f j) (a := a) (n := 17) (by omega) (if_pos rfl) ha (fun b _ hb => if_neg (by omega))
      omega
    | succ N IH =>
      intro a ha ρ frs i pc cl cst m Bc hN g0 g1 g2 g3 g5
      obtain ⟨kd, n, f, e1, e2⟩ := lF_at (v := 0) hs g1.2.2.2.2 (g1.2.2.1 _ List.mem_cons_self) (by decide)
      have h0 := hN kd n f e1
      have hgA := List.all_eq_true.mp hg a (List.mem_range.mpr ha)
      have hc0 : eChk (su, ([], []), lWa r a, [], [], [], []) F true [lHy r a] (lP r a) = some 0 := by
        revert hgA
        cases eChk (su, ([], []), lWa r a, [], [], [], []) F true [lHy r a] (lP r a) with
        | none => intro h; cases h
        | some k => intro h; rw [nb_eq.mp h]
      have hc := eChk_okQ (sc := sc) (cf := (su, ([], []), lWa r a, [], [], [], [])) (BF := BF) (m0 := m) (ρ0 := ρ) (Q := gQ sc lE (lW r) BF m0 ρ0) (fun v m' h => by
        obtain ⟨-, q, hq, -⟩ := h
        cases hq) hD hBF hsu (fun c hc => by cases hc) (fun q hq => by cases hq) F
      have hsub : eSubW (lW r) (lWa r a) = true := by
        simp only [eSubW, lWa, lW, List.all_cons, List.all_nil, eInW, List.any_cons, List.any_nil, Bool.and_true, Bool.or_false, Nat.beq_refl, Bool.true_and, Bool.and_eq_true, Bool.or_eq_true, nl_le]
        omega
      refine hc true [lHy r a] (lP r a) 0 hc0 ρ frs i pc cl cst m Bc 0 gAg_rf g1 g2 gW_rf (fun d hd => ?_) (by omega)
      rcases List.mem_singleton.mp hd with rfl
      refine ⟨List.all_eq_true.mp hw.2 a (List.mem_range.mpr ha), ⟨by show 20000 ≤ 30000; decide, by show 20001 < 30000; decide⟩, Or.inl rfl, fun P hP ρ' frs' i' pc' cl' cst' m' Bc' a1 a2 a3 a4 _ a6 => ?_⟩
      have hag : gAg 10000 ρ0 ρ' := fun x hx => (a1 x (by show x < 20000; omega)).trans (g0 x hx)
      have hW : gW (lW r) m0 m' := gW_tr g3 (gW_sub hsub a4)
      rcases List.mem_cons.mp hP with rfl | hP
      · exact hNone ρ' frs' i' pc' cl' cst' m' Bc' hag a2 a3 hW (by omega)
      · obtain ⟨b, hb, rfl⟩ := List.mem_map.mp hP
        obtain ⟨hb1, hb2⟩ := List.mem_filter.mp hb
        have hb1 := List.mem_range.mp hb1
        simp only [Bool.not_eq_true', nb_ne] at hb2
        obtain ⟨c1, c2, c3, c4⟩ := a2
        have d1 : gS sc Bc' ρ' (lP r b) frs' i' pc' cl' cst' m' := ⟨c1, c2, fun x hx => c3 x (by
          rcases List.mem_singleton.mp hx with rfl
          exact List.mem_cons_self), c4⟩
        obtain ⟨kd', n', f', e3, e4⟩ := lF_at (v := 2) hs c4.2 (c3 (lF r a 2) (List.mem_cons_of_mem _ List.mem_cons_self)) (by decide)
        refine IH b hb1 ρ' frs' i' pc' cl' cst' m' Bc' (fun kd2 n2 f2 e5 => ?_) hag d1 a3 hW (by omega)
        rw [e3] at e5
        cases e5
        obtain ⟨f3, e6, e7⟩ := a4 _ kd n f e1
        rw [e3] at e6
        cases e6
        have := lCnt_lt (f := f) (g := f') (a := a) (n := 17) (by omega) e4 ha (fun b2 hb3 hb4 => e7 _ (fun q hq h1 h2 h3 => by
          simp only [lWa, List.mem_cons, List.not_mem_nil, or_false] at hq
          rcases hq with rfl | rfl
          · have h3 : 98 + 8 * b2 ≤ 94 := h3
            omega
          · have h2 : 97 + 8 * a ≤ 98 + 8 * b2 := h2
            have h3 : 98 + 8 * b2 ≤ 102 + 8 * a := h3
            omega))
        omega
  intro P hP ρ frs i pc cl cst m Bc g0 g1 g2 g3 _ g5
  rcases List.mem_cons.mp hP with rfl | hP
  · exact hNone ρ frs i pc cl cst m Bc g0 g1 g2 g3 (by omega)
  · obtain ⟨a, ha, rfl⟩ := List.mem_map.mp hP
    obtain ⟨kd, n, f, e1, e2⟩ := lF_at (v := 0) hs g1.2.2.2.2 (g1.2.2.1 _ List.mem_cons_self) (by decide)
    exact hArm (lCnt f 17) a (List.mem_range.mp ha) ρ frs i pc cl cst m Bc (fun kd2 n2 f2 e5 => by rw [e1] at e5; cases e5; exact Nat.le_refl _) g0 g1 g2 g3 (by omega)
end LA
/-- a method's row from its check, behind rows of places that are proved already -/
theorem gSum_ofL {sc : List Nat} {q : eSm} {su : List eSm} {inl : List Nat × List (Nat × Nat)} {sp : List eSp} {L : List (eCt × Nat)} {fuel k : Nat} (hD : eDat = true) (hsu : ∀ q ∈ su, gSum sc q ∧ eWf 10000 q.2.1 = true) (hL : gLs sc q.2.2.1 q.2.2.2.1 L) (h : eChk (su, inl, q.2.2.2.1, q.2.2.1, [], sp, L) fuel false [] q.2.1 = some k) (hk : k ≤ q.2.2.2.2) : gSum sc q := by
  intro ρ cl m Bc g1 g2 g3
  have hc := eChk_ok (sc := sc) (cf := (su, inl, q.2.2.2.1, q.2.2.1, [], sp, L)) (BF := Bc + q.2.2.2.2) (m0 := m) (ρ0 := ρ) hD g3 hsu (fun c hc => by cases hc) (hL _ m ρ g3) fuel
  exact hc false [] q.2.1 k h ρ [] _ _ cl [] m Bc 0 gAg_rf g1 g2 gW_rf (fun d hd => by cases hd) (by omega)
theorem lends_of {sc : List Nat} {su : List eSm} {r : Nat} (hD : eDat = true) (hsu : ∀ q ∈ su, gSum sc q ∧ eWf 10000 q.2.1 = true) (hs : Nat.blt 0 (eSg.getD r 0) = true) {F : Nat}
    (hw : (eWfC (lC r) && (List.range 17).all (fun a => eWfC (lHy r a))) = true)
    (hn : eChk (su, ([], []), lW r, lE, [], [], []) F true [] (lPn r) = some 0)
    (hg : (List.range 17).all (fun a => match eChk (su, ([], []), lWa r a, [], [], [], []) F true [lHy r a] (lP r a) with | some k => Nat.beq k 0 | none => false) = true)
    (h : eChk (su, ([], []), lW r, lE, [], [], [(lC r, 0)]) F false [] (lRow r).2.1 = some 0) : gSum sc (lRow r) := by
  rw [Bool.and_eq_true] at hw
  exact gSum_ofL (q := lRow r) (L := [(lC r, 0)]) hD hsu (gLs_cons hw.1 (lends_lem hD hsu (nl_lt.mp hs) hw hn hg) (fun BF m0 ρ0 hB q hq => by cases hq)) h (Nat.le_refl _)
