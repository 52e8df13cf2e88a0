/-! ===== splits ===== -/
section FB
variable {sc : List Nat} {Bc : Nat} {ρ : Nat → Nat} {s : eS} {frs : gCf} {i pc : Nat} {cl cst : List Nat} {m : zM}
theorem set_id : ∀ {l : List Nat} {k c : Nat}, l[k]? = some c → l.set k c = l
  | [], _, _, _ => rfl
  | a :: l, 0, c, h => by
    cases h
    rfl
  | a :: l, k + 1, c, h => by
    show a :: l.set k c = a :: l
    rw [set_id (l := l) h]
/-- the place of a split, and its value -/
def eAtP (k n : Nat) (s : eS) : Option eE := bif Nat.beq k 0 then s.2.2.2.2.1[n]? else s.2.2.2.1[n]?
def gAtP (k n : Nat) (cl cst : List Nat) : Option Nat := bif Nat.beq k 0 then cst[n]? else cl[n]?
theorem eAtP_ok {k n : Nat} {e : eE} (h : eAtP k n s = some e) (g : gS sc Bc ρ s frs i pc cl cst m) : ∃ c, gAtP k n cl cst = some c ∧ gE Bc ρ s.2.2.2.2.2.2 e c := by
  unfold eAtP at h
  unfold gAtP
  cases q : Nat.beq k 0
  · rw [q] at h
    exact gL_get g.2.1.2.1 h
  · rw [q] at h
    exact gL_get g.2.1.2.2 h
theorem eSet1_ok {k n c : Nat} {v : eE} (hc : gAtP k n cl cst = some c) (hv : gE Bc ρ s.2.2.2.2.2.2 v c) (g : gS sc Bc ρ s frs i pc cl cst m) : gS sc Bc ρ (eSet1 k n v s) frs i pc cl cst m ∧ (eSet1 k n v s).2.2.2.2.2.2 = s.2.2.2.2.2.2 := by
  obtain ⟨fr, i2, pc2, l2, s2, fs, nx⟩ := s
  obtain ⟨g1, ⟨g2, g3, g4⟩, g5, g6⟩ := g
  unfold gAtP at hc
  unfold eSet1
  cases q : Nat.beq k 0
  · rw [q] at hc
    have h2 := gL_set (k := n) hv g3
    rw [set_id hc] at h2
    exact ⟨⟨g1, ⟨g2, h2, g4⟩, g5, g6⟩, rfl⟩
  · rw [q] at hc
    have h2 := gL_set (k := n) hv g4
    rw [set_id hc] at h2
    exact ⟨⟨g1, ⟨g2, g3, h2⟩, g5, g6⟩, rfl⟩
theorem eSpl1_ok {k n lo hi st c : Nat} {e : eE} (hc : gAtP k n cl cst = some c) (he : gE Bc ρ s.2.2.2.2.2.2 e c) (hi2 : eInt e = true) (h1 : lo ≤ zs c) (h2 : zs c ≤ hi) (h3 : st ∣ (zs c - lo)) (g : gS sc Bc ρ s frs i pc cl cst m) : gS sc Bc ρ (eSpl1 k n e lo hi st s) frs i pc cl cst m ∧ (eSpl1 k n e lo hi st s).2.2.2.2.2.2 = s.2.2.2.2.2.2 := by
  have hlt := (gA_int hi2 he.1).1
  have g2 : gS sc Bc ρ (eRefine e (0, lo, hi, st, 0, 0) s) frs i pc cl cst m := eRefine_ok he.2.1 rfl (gA_mk hlt h1 h2 h3) g
  have hx : (eRefine e (0, lo, hi, st, 0, 0) s).2.2.2.2.2.2 = s.2.2.2.2.2.2 := eRefine_nx
  unfold eSpl1
  obtain ⟨t, l, h, st2, id, off⟩ := e
  have ht : t = 0 ∨ t = 5 := by
    simp only [eInt, Bool.or_eq_true, nb_eq] at hi2
    exact hi2
  have hv : gE Bc ρ (eRefine (t, l, h, st2, id, off) (0, lo, hi, st, 0, 0) s).2.2.2.2.2.2 (t, lo, hi, bif Nat.beq t 5 then st2 else st, id, off) c := by
    rw [hx]
    exact ⟨gA_t ht he.1 h1 h2 h3, he.2.1, he.2.2⟩
  obtain ⟨r1, r2⟩ := eSet1_ok hc hv g2
  exact ⟨r1, r2.trans hx⟩
theorem eSplV_in {k n : Nat} {e : eE} : ∀ {c x st q : Nat}, q < c → eSpl1 k n e (x + q * st) (x + q * st) 0 s ∈ eSplV k n e s c x st
  | 0, _, _, _, h => absurd h (Nat.not_lt_zero _)
  | c + 1, x, st, 0, _ => by
    rw [Nat.zero_mul, Nat.add_zero]
    exact List.mem_cons_self
  | c + 1, x, st, q + 1, h => by
    rw [Nat.succ_mul, Nat.add_comm (q * st) st, ← Nat.add_assoc]
    exact List.mem_cons_of_mem _ (eSplV_in (Nat.lt_of_succ_lt_succ h))
theorem eSplC_ok {tb : List (Nat × Nat × Nat)} {k n c : Nat} {e : eE} {L : List eS} (hc : gAtP k n cl cst = some c) (ge : gE Bc ρ s.2.2.2.2.2.2 e c) (hi : eInt e = true) (g : gS sc Bc ρ s frs i pc cl cst m) (h : eSplC tb k n e s = some L) : ∃ s2 ∈ L, gS sc Bc ρ s2 frs i pc cl cst m ∧ s2.2.2.2.2.2.2 = s.2.2.2.2.2.2 := by
  unfold eSplC at h
  obtain ⟨h1, h⟩ := cs_and h
  cases h
  rw [Bool.and_eq_true, Bool.and_eq_true] at h1
  obtain ⟨-, -, h2⟩ := h1
  obtain ⟨c1, c2, c3⟩ := eLo_cnt hi ge.1
  unfold eClsOk at h2
  rw [Bool.and_eq_true] at h2
  have h3 := List.all_eq_true.mp h2.2 (zs c - eLo e) (List.mem_range.mpr (by omega))
  obtain ⟨q, q1, q2⟩ := List.any_eq_true.mp h3
  rw [show eLo e + (zs c - eLo e) = zs c by omega] at q2
  simp only [Bool.and_eq_true, nl_le, nb_eq] at q2
  refine ⟨eSpl1 k n e q.1 q.2.1 q.2.2 s, List.mem_map.mpr ⟨q, List.mem_filter.mpr ⟨q1, ?_⟩, rfl⟩, eSpl1_ok hc ge hi q2.1.1 q2.1.2 (Nat.dvd_of_mod_eq_zero q2.2) g⟩
  simp only [Bool.and_eq_true, nl_le]
  omega
theorem eSplit_ok {q : Nat × Nat × Nat × Nat} {L : List eS} (g : gS sc Bc ρ s frs i pc cl cst m) (h : eSplit q s = some L) : ∃ s2 ∈ L, gS sc Bc ρ s2 frs i pc cl cst m ∧ s2.2.2.2.2.2.2 = s.2.2.2.2.2.2 := by
  obtain ⟨k, n, a, b⟩ := q
  unfold eSplit at h
  split at h
  · rename_i e he
    obtain ⟨c, hc, ge⟩ := eAtP_ok (k := k) (n := n) he g
    rcases cs_ite h with ⟨h1, h⟩ | ⟨h1, h⟩
    · cases h
    simp only [Bool.or_eq_false_iff, Bool.not_eq_false'] at h1
    obtain ⟨h1, -⟩ := h1
    obtain ⟨c1, c2, c3⟩ := eLo_cnt h1 ge.1
    rcases cs_ite h with ⟨h2, h⟩ | ⟨h2, h⟩
    · exact eSplC_ok hc ge h1 g h
    rcases cs_ite h with ⟨h2, h⟩ | ⟨h2, h⟩
    · simp only [Bool.and_eq_true, nb_eq] at h2
      cases h
      obtain ⟨q, q1, q2⟩ := eIx_ok h2.1 ge.1
      exact ⟨_, eSplV_in q1, eSpl1_ok hc ge h1 (Nat.le_of_eq q2.symm) (Nat.le_of_eq q2) (by rw [q2, Nat.sub_self]; exact Nat.dvd_zero _) g⟩
    · rcases cs_ite h with ⟨h3, h⟩ | ⟨h3, h⟩
      · simp only [Bool.and_eq_true, nl_le, nl_lt] at h3
        obtain ⟨⟨h3, h4⟩, h5, h6⟩ := h3
        cases h
        by_cases p1 : zs c < a
        · refine ⟨eSpl1 k n e (eLo e) (a - 1) 1 s, List.mem_append_right _ (List.mem_append_left _ ?_), eSpl1_ok hc ge h1 c2 (by omega) (Nat.one_dvd _) g⟩
          rw [nl_lt.mpr (show eLo e < a by omega)]
          exact List.mem_cons_self
        · by_cases p2 : b < zs c
          · refine ⟨eSpl1 k n e (b + 1) (eHi e) 1 s, List.mem_append_right _ (List.mem_append_right _ ?_), eSpl1_ok hc ge h1 (by omega) c3 (Nat.one_dvd _) g⟩
            rw [nl_lt.mpr (show b < eHi e by omega)]
            exact List.mem_cons_self
          · have hm : eSpl1 k n e (a + (zs c - a) * 1) (a + (zs c - a) * 1) 0 s ∈ eSplV k n e s (b - a + 1) a 1 := eSplV_in (by omega)
            exact ⟨_, List.mem_append_left _ hm, eSpl1_ok hc ge h1 (by omega) (by omega) (by rw [show zs c - (a + (zs c - a) * 1) = 0 by omega]; exact Nat.dvd_zero _) g⟩
      · cases h
  · cases h
end FB
