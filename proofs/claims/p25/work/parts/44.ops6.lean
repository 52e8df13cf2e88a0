/-! ===== arrays ===== -/
section EU
variable {sc : List Nat} {W : List (Nat × Nat × Nat)} {Bc : Nat} {ρ : Nat → Nat} {nx : Nat} {fr : List eFr} {frs : gCf} {i w pc k : Nat} {ls st : List eE} {cl cst : List Nat} {fs : List eF} {m : zM} {L : List eS}
theorem cnd_t {α : Type} {b : Bool} {x y : α} (h : b = true) : (bif b then x else y) = x := by
  rw [h]
  rfl
theorem gIx_0 {a b : Nat} : gIx ρ 0 a b = a := if_pos rfl
theorem gIx_1 {a b : Nat} : gIx ρ 1 a b = (ρ a + b) % 4294967296 := if_neg (by decide)
theorem eKey_c {t lo hi s id off : Nat} (q : (Nat.beq t 0 && Nat.beq lo hi) = true) : eKey1 (t, lo, hi, s, id, off) = 0 ∧ eKey2 (t, lo, hi, s, id, off) = lo - 2147483648 ∧ eKey3 (t, lo, hi, s, id, off) = 0 := ⟨cnd_t q, cnd_t q, cnd_t q⟩
theorem eKey_n {t lo hi s id off : Nat} (q : (Nat.beq t 0 && Nat.beq lo hi) = false) : eKey1 (t, lo, hi, s, id, off) = 1 ∧ eKey2 (t, lo, hi, s, id, off) = id ∧ eKey3 (t, lo, hi, s, id, off) = off := by
  simp only [eKey1, eKey2, eKey3, q, cond_false, and_self]
/-- an index entry's keys tell the index -/
theorem eKey_ok {x : eE} {j : Nat} (hn : 0 < nx) (h : eHasNm x = true) (hi : eInt x = true) (h0 : 2147483648 ≤ eLo x) (g : gE Bc ρ nx x j) : gIx ρ (eKey1 x) (eKey2 x) (eKey3 x) = j ∧ (eKey1 x = 0 ∨ eKey2 x < nx) := by
  have gi := gA_int hi g.1
  obtain ⟨t, lo, hi2, s, id, off⟩ := x
  have h0 : 2147483648 ≤ lo := h0
  have g2 : lo ≤ zs j := gi.2.1
  have g3 : zs j ≤ hi2 := gi.2.2
  have e1 := zs_of gi.1 (by omega)
  cases q : (Nat.beq t 0 && Nat.beq lo hi2)
  · obtain ⟨k1, k2, k3⟩ := eKey_n (s := s) (id := id) (off := off) q
    simp only [eHasNm, q, Bool.false_or, Bool.and_eq_true, nl_lt] at h
    rw [k1, k2, k3, gIx_1]
    exact ⟨(gV_int (g.2.1.resolve_left (by show id ≠ 0; omega)) gi.1).symm, Or.inr g.2.2⟩
  · obtain ⟨k1, k2, k3⟩ := eKey_c (s := s) (id := id) (off := off) q
    simp only [Bool.and_eq_true, nb_eq] at q
    rw [k1, k2, k3, gIx_0]
    exact ⟨by omega, Or.inl rfl⟩
theorem eKey_le {x : eE} : eKey1 x ≤ 1 := by
  obtain ⟨t, lo, hi2, s, id, off⟩ := x
  simp only [eKey1]
  cases (Nat.beq t 0 && Nat.beq lo hi2)
  · exact Nat.le_refl _
  · exact Nat.zero_le _
/-- an index entry's slots, one after another -/
theorem eIx_ok {x : eE} {j : Nat} (h0 : x.1 = 0) (g : gA Bc x j) : ∃ q, q < eCount x ∧ zs j = eLo x + q * x.2.2.2.1 := by
  obtain ⟨t, lo, hi, s, id, off⟩ := x
  have h0 : t = 0 := h0
  subst h0
  obtain ⟨g1, ⟨g2, g3⟩, q, g4⟩ := gA_i0 g
  show ∃ q, q < (bif Nat.beq lo hi then 1 else (hi - lo) / s + 1) ∧ zs j = lo + q * s
  cases e : Nat.beq lo hi
  · rw [cond_false]
    by_cases hs : s = 0
    · subst hs
      refine ⟨0, Nat.succ_pos _, ?_⟩
      omega
    · refine ⟨q, ?_, ?_⟩
      · apply Nat.lt_succ_of_le
        rw [Nat.le_div_iff_mul_le (Nat.pos_of_ne_zero hs), Nat.mul_comm, ← g4]
        omega
      · rw [Nat.mul_comm, ← g4]
        omega
  · have e := nb_eq.mp e
    exact ⟨0, Nat.one_pos, by omega⟩
theorem eAllIx_ok {f : Nat → Bool} : ∀ {n x s q : Nat}, eAllIx f n x s = true → q < n → f (x + q * s) = true
  | 0, _, _, _, _, hq => absurd hq (Nat.not_lt_zero _)
  | n + 1, x, s, 0, h, _ => by
    simp only [eAllIx, Bool.and_eq_true] at h
    rw [Nat.zero_mul, Nat.add_zero]
    exact h.1
  | n + 1, x, s, q + 1, h, hq => by
    simp only [eAllIx, Bool.and_eq_true] at h
    have := eAllIx_ok h.2 (Nat.lt_of_succ_lt_succ hq)
    rw [Nat.succ_mul, Nat.add_comm (q * s) s, ← Nat.add_assoc]
    exact this
theorem dv_j {a b c lo mn st g : Nat} (h : st ∣ c - lo) (h1 : g ∣ st) (h2 : g ∣ lo - mn) (h3 : lo ≤ c) (h4 : mn ≤ lo) : g ∣ c - mn := by
  have : c - mn = (c - lo) + (lo - mn) := by omega
  rw [this]
  exact Nat.dvd_add (Nat.dvd_trans h1 h) h2
theorem eJoin_ok {a b : eE} {c : Nat} (h : gA Bc a c ∨ gA Bc b c) : gA Bc (eJoin a b) c := by
  obtain ⟨t, lo, hi, s, id, off⟩ := a
  obtain ⟨u, lo2, hi2, s2, id2, off2⟩ := b
  simp only [eJoin]
  cases q : (Nat.beq t 0 && Nat.beq u 0)
  · rw [cond_false]
    cases q2 : ((Nat.beq t u && Nat.beq lo lo2) && (Nat.beq hi hi2 && Nat.beq s s2))
    · exact Or.inr (Or.inr (Or.inr (Or.inl rfl)))
    · simp only [Bool.and_eq_true, nb_eq] at q2
      obtain ⟨⟨rfl, rfl⟩, rfl, rfl⟩ := q2
      exact h.elim (fun z => z) (fun z => z)
  · simp only [Bool.and_eq_true, nb_eq] at q
    obtain ⟨rfl, rfl⟩ := q
    rw [cond_true]
    have g1 : Nat.gcd (Nat.gcd s s2) (max lo lo2 - min lo lo2) ∣ s := Nat.dvd_trans (Nat.gcd_dvd_left _ _) (Nat.gcd_dvd_left _ _)
    have g2 : Nat.gcd (Nat.gcd s s2) (max lo lo2 - min lo lo2) ∣ s2 := Nat.dvd_trans (Nat.gcd_dvd_left _ _) (Nat.gcd_dvd_right _ _)
    have g3 : Nat.gcd (Nat.gcd s s2) (max lo lo2 - min lo lo2) ∣ max lo lo2 - min lo lo2 := Nat.gcd_dvd_right _ _
    have d1 : Nat.gcd (Nat.gcd s s2) (max lo lo2 - min lo lo2) ∣ lo - min lo lo2 := by
      by_cases e : lo ≤ lo2
      · rw [show lo - min lo lo2 = 0 by omega]
        exact Nat.dvd_zero _
      · rw [show lo - min lo lo2 = max lo lo2 - min lo lo2 by omega]
        exact g3
    have d2 : Nat.gcd (Nat.gcd s s2) (max lo lo2 - min lo lo2) ∣ lo2 - min lo lo2 := by
      by_cases e : lo ≤ lo2
      · rw [show lo2 - min lo lo2 = max lo lo2 - min lo lo2 by omega]
        exact g3
      · rw [show lo2 - min lo lo2 = 0 by omega]
        exact Nat.dvd_zero _
    rcases h with h | h
    · obtain ⟨a1, ⟨a2, a3⟩, a4⟩ := gA_i0 h
      exact eNorm_ok a1 (by omega) (by omega) (dv_j (a := 0) (b := 0) a4 g1 d1 a2 (by omega))
    · obtain ⟨a1, ⟨a2, a3⟩, a4⟩ := gA_i0 h
      exact eNorm_ok a1 (by omega) (by omega) (dv_j (a := 0) (b := 0) a4 g2 d2 a2 (by omega))
theorem eJoinIx_ok {r c : Nat} : ∀ {n x s : Nat} {e : eE}, (gA Bc e c ∨ ∃ q, q < n ∧ gA Bc (eTy r (x + q * s - 2147483648)) c) → gA Bc (eJoinIx r n x s e) c
  | 0, _, _, _, h => by
    rcases h with h | ⟨q, hq, -⟩
    · exact h
    · exact absurd hq (Nat.not_lt_zero _)
  | n + 1, x, s, e, h => by
    show gA Bc (eJoinIx r n (x + s) s (eJoin e (eTy r (x - 2147483648)))) c
    apply eJoinIx_ok
    rcases h with h | ⟨q, hq, h⟩
    · exact Or.inl (eJoin_ok (Or.inl h))
    · cases q with
      | zero =>
        rw [Nat.zero_mul, Nat.add_zero] at h
        exact Or.inl (eJoin_ok (Or.inr h))
      | succ q =>
        refine Or.inr ⟨q, Nat.lt_of_succ_lt_succ hq, ?_⟩
        rw [Nat.add_assoc, Nat.add_comm s, ← Nat.succ_mul]
        exact h
theorem eTyIx_ok {r j c : Nat} {x : eE} (h0 : x.1 = 0) (hx : gA Bc x j) (hj : j + 2147483648 = zs j) (g : gA Bc (eTy r j) c) : gA Bc (eTyIx r x) c := by
  obtain ⟨q, h1, h2⟩ := eIx_ok h0 hx
  obtain ⟨t, lo, hi, s, id, off⟩ := x
  have h2 : zs j = lo + q * s := h2
  show gA Bc (eJoinIx r (eCount (t, lo, hi, s, id, off) - 1) (lo + s) s (eTy r (lo - 2147483648))) c
  apply eJoinIx_ok
  have e : j = lo + q * s - 2147483648 := by omega
  cases q with
  | zero =>
    rw [Nat.zero_mul, Nat.add_zero] at e
    rw [← e]
    exact Or.inl g
  | succ q =>
    refine Or.inr ⟨q, by omega, ?_⟩
    rw [Nat.add_assoc, Nat.add_comm s, ← Nat.succ_mul, ← e]
    exact g
/-- an index within its region -/
theorem eIxOk_ok {r j : Nat} {x : eE} (h : eIxOk r x = true) (g : gA Bc x j) : j < eLen r ∧ 2147483648 ≤ eLo x ∧ j + 2147483648 = zs j ∧ eInt x = true ∧ (eLo x - 2147483648 ≤ j ∧ j ≤ eHi x - 2147483648) := by
  simp only [eIxOk, Bool.and_eq_true, nl_le, nl_lt] at h
  obtain ⟨h1, h2, h3⟩ := h
  obtain ⟨g1, g2, g3⟩ := eLo_cnt h1 g
  have := zs_of g1 (by omega)
  exact ⟨by omega, h2, by omega, h1, by omega⟩
theorem ed_arr {r j : Nat} (h : eDat1 r = true) (h7 : ¬ eKd r < 7) (hj : j < eLen r) : (eKd r = 7 → (eTy r j).1 = 0) ∧ (eKd r = 8 → (eTy r j).1 = 0 ∧ eSub (eTy r j) (0, 2147483648, 2147549183, 1, 0, 0) = true) ∧ (9 ≤ eKd r → (eTy r j).1 = 1 ∧ eKd (eTy r j).2.1 = zEl (eKd r)) := by
  unfold eDat1 at h
  have h2 := List.all_eq_true.mp h j (List.mem_range.mpr hj)
  have e7 : Nat.blt (eKd r) 7 = false := nl_nlt.mpr (by omega)
  simp only [e7, cond_false, Bool.and_eq_true] at h2
  obtain ⟨h2, -⟩ := h2
  refine ⟨fun e => ?_, fun e => ?_, fun e => ?_⟩
  · rw [nb_eq.mpr e, cond_true] at h2
    exact nb_eq.mp h2
  · rw [nb_ne.mpr (by omega), cond_false, nb_eq.mpr e, cond_true] at h2
    simp only [Bool.and_eq_true, nb_eq] at h2
    exact h2
  · rw [nb_ne.mpr (by omega), cond_false, nb_ne.mpr (by omega), cond_false] at h2
    simp only [Bool.and_eq_true, nb_eq] at h2
    exact h2
/-- the script's limit holds -/
theorem eScOk_ok {x : eE} {j : Nat} (hs : sc.length < 2147483648) (hf : ∀ f ∈ fs, gF sc Bc ρ nx m f) (hi : eInt x = true) (h0 : 2147483648 ≤ eLo x) (g : gE Bc ρ nx x j) (h : eScOk x fs = true) : j < sc.length := by
  obtain ⟨g1, g2, g3⟩ := eLo_cnt hi g.1
  have e1 := zs_of g1 (by omega)
  unfold eScOk at h
  rw [Bool.or_eq_true, Bool.and_eq_true] at h
  rcases h with ⟨q, h⟩ | h
  · obtain ⟨⟨o, r, k1, k2, k3, e⟩, f1, f2⟩ := List.any_eq_true.mp h
    simp only [Bool.and_eq_true, nb_eq, nl_lt] at f2
    obtain ⟨rfl, rfl, f3⟩ := f2
    have f5 := (gF_2.mp (hf _ f1)).2.2
    rw [if_pos rfl] at f5
    have := (eSin_ok q g.1).1
    omega
  · obtain ⟨⟨o, r, k1, k2, k3, e⟩, f1, f2⟩ := List.any_eq_true.mp h
    simp only [Bool.and_eq_true, nb_eq, nl_lt] at f2
    obtain ⟨rfl, rfl, f3, f4⟩ := f2
    have f5 := (gF_2.mp (hf _ f1)).2.2
    rw [if_neg (by omega)] at f5
    have f6 := gV_int (g.2.1.resolve_left (by omega)) g1
    omega
def ctP (l : List Nat) (v : Nat) : Bool := match l with
  | [] => true
  | a :: t => decide (t.foldl min a ≤ v) && (decide (v ≤ t.foldl max a) && decide (v < 100))
theorem ct_all : ((List.range 3).all fun j => (List.range 5).all fun a => (List.range 6).all fun n => (List.range n).all fun d => !decide (a + d < 5) || (ctP (((zCT j).drop a).take n) ((zCT j).getD (a + d) 0) && decide ((zCT j).getD (a + d) 0 < 100))) = true := by decide +kernel
theorem ct_chk {j a n d : Nat} (hj : j < 3) (ha : a < 5) (hn : n < 6) (hd : d < n) (h5 : a + d < 5) : ctP (((zCT j).drop a).take n) ((zCT j).getD (a + d) 0) = true ∧ (zCT j).getD (a + d) 0 < 100 := by
  have h := List.all_eq_true.mp (List.all_eq_true.mp (List.all_eq_true.mp (List.all_eq_true.mp ct_all j (List.mem_range.mpr hj)) a (List.mem_range.mpr ha)) n (List.mem_range.mpr hn)) d (List.mem_range.mpr hd)
  simpa only [h5, decide_true, Bool.not_true, Bool.false_or, Bool.and_eq_true, decide_eq_true_eq] using h
theorem eCTj_ok {j a p n : Nat} (hj : j < 3) (h1 : p ≤ a) (h2 : a < p + n) (h3 : p + n ≤ 5) : gA Bc (eCTj j p n) ((zCT j).getD a 0) ∧ (zCT j).getD a 0 < 100 := by
  have hc := ct_chk hj (a := p) (n := n) (d := a - p) (by omega) (by omega) (by omega) (by omega)
  rw [show p + (a - p) = a by omega] at hc
  refine ⟨?_, hc.2⟩
  unfold eCTj
  have hc1 := hc.1
  have hc2 := hc.2
  revert hc1 hc2
  generalize (zCT j).getD a 0 = v
  cases ((zCT j).drop p).take n with
  | nil => exact fun _ hv => eTop_ok (by omega)
  | cons b t =>
    intro hv hv2
    simp only [ctP, Bool.and_eq_true, decide_eq_true_eq] at hv
    obtain ⟨b1, b2, b3⟩ := hv
    have := zs_lo (show v < 2147483648 by omega)
    exact eNorm_ok (by omega) (by omega) (by omega) (Nat.one_dvd _)
end EU
