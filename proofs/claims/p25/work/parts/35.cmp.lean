/-! ===== comparisons ===== -/
theorem ceil_le {d s q : Nat} (hs : 1 < s) (h : d ≤ q * s) : (d + s - 1) / s ≤ q := by
  have h1 : d + s - 1 < (q + 1) * s := by
    rw [Nat.add_mul, Nat.one_mul]
    omega
  exact Nat.lt_succ_iff.mp (Nat.div_lt_of_lt_mul (by rw [Nat.mul_comm]; exact h1))
theorem eCut_ok {Bc l h st id off lo hi c : Nat} (g : gA Bc (0, l, h, st, id, off) c) (h1 : lo ≤ zs c) (h2 : zs c ≤ hi) : gA Bc (eCut (0, l, h, st, id, off) lo hi) c := by
  obtain ⟨g1, ⟨g2, g3⟩, q, g4⟩ := gA_i0 g
  simp only [eCut]
  have e0 : zs c = l + q * st := by rw [Nat.mul_comm]; omega
  refine gA_mk g1 ?_ ?_ ?_
  · cases a1 : Nat.ble lo l
    · have a1 := nl_nle.mp a1
      cases a2 : Nat.ble st 1
      · have a2 := nl_nle.mp a2
        have := Nat.mul_le_mul_right st (ceil_le (q := q) (d := lo - l) a2 (by omega))
        show l + (lo - l + st - 1) / st * st ≤ zs c
        omega
      · exact h1
    · exact g2
  · cases a1 : Nat.ble h hi
    · cases a2 : Nat.ble st 1
      · have a2 := nl_nle.mp a2
        have h3 : q ≤ (hi - l) / st := (Nat.le_div_iff_mul_le (by omega)).mpr (by omega)
        have := Nat.mul_le_mul_right st h3
        show zs c ≤ l + (hi - l) / st * st
        omega
      · exact h2
    · exact g3
  · cases a1 : Nat.ble lo l
    · have a1 := nl_nle.mp a1
      cases a2 : Nat.ble st 1
      · have a2 := nl_nle.mp a2
        have h3 := ceil_le (q := q) (d := lo - l) a2 (by omega)
        show st ∣ zs c - (l + (lo - l + st - 1) / st * st)
        refine ⟨q - (lo - l + st - 1) / st, ?_⟩
        rw [e0, Nat.mul_sub, Nat.mul_comm st q, Nat.mul_comm st ((lo - l + st - 1) / st)]
        omega
      · have a2 := nl_le.mp a2
        show st ∣ zs c - lo
        rcases (show st = 0 ∨ st = 1 by omega) with rfl | rfl
        · omega
        · exact Nat.one_dvd _
    · show st ∣ zs c - l
      exact ⟨q, g4⟩
theorem eNe_ok {Bc l h st id off v c : Nat} (g : gA Bc (0, l, h, st, id, off) c) (hv : zs c ≠ v) : gA Bc (eNe (0, l, h, st, id, off) v) c := by
  obtain ⟨g1, ⟨g2, g3⟩, q, g4⟩ := gA_i0 g
  simp only [eNe]
  cases a1 : Nat.beq l v
  · cases a2 : Nat.beq h v
    · exact g
    · have a2 := nb_eq.mp a2
      exact eCut_ok g (Nat.zero_le _) (by omega)
  · have a1 := nb_eq.mp a1
    refine eCut_ok g ?_ (Nat.le_of_lt (zs_lt g1))
    have hq : 0 < q := by
      rcases Nat.eq_zero_or_pos q with rfl | h
      · rw [Nat.mul_zero] at g4
        omega
      · exact h
    have hs : 0 < st := by
      rcases Nat.eq_zero_or_pos st with rfl | h
      · rw [Nat.zero_mul] at g4
        omega
      · exact h
    have : st * 1 ≤ st * q := Nat.mul_le_mul_left st hq
    rw [Nat.mul_one] at this
    rw [Nat.max_eq_left hs]
    omega
theorem eOne_ok {Bc : Nat} {e : eE} {c : Nat} (h0 : e.1 = 0) (g : gA Bc e c) : gA Bc (eOne e) c := by
  obtain ⟨t, l, h, st, id, off⟩ := e
  have h0 : t = 0 := h0
  subst h0
  obtain ⟨g1, ⟨g2, g3⟩, g4⟩ := gA_i0 g
  simp only [eOne]
  refine gA_mk g1 g2 g3 ?_
  cases a1 : Nat.beq l h
  · exact g4
  · have a1 := nb_eq.mp a1
    show 0 ∣ zs c - l
    rw [show zs c - l = 0 by omega]
    exact Nat.dvd_refl 0
/-- an entry's shape: an int, its name -/
def eShp (id off : Nat) (e : eE) : Prop := e.1 = 0 ∧ eId e = id ∧ eOff e = off
theorem eShp_cut {l h st id off lo hi : Nat} : eShp id off (eCut (0, l, h, st, id, off) lo hi) := ⟨rfl, rfl, rfl⟩
theorem eShp_ne {l h st id off v : Nat} : eShp id off (eNe (0, l, h, st, id, off) v) := by
  simp only [eNe]
  cases Nat.beq l v
  · cases Nat.beq h v
    · exact ⟨rfl, rfl, rfl⟩
    · exact ⟨rfl, rfl, rfl⟩
  · exact ⟨rfl, rfl, rfl⟩
theorem eShp_one {e : eE} {id off : Nat} (h : eShp id off e) : eShp id off (eOne e) := by
  obtain ⟨t, l, h2, st, i, o⟩ := e
  exact h
theorem eEmp_no {Bc : Nat} {e : eE} {c : Nat} (h0 : e.1 = 0) (g : gA Bc e c) : eEmp e = false := by
  obtain ⟨t, l, h, st, id, off⟩ := e
  have h0 : t = 0 := h0
  subst h0
  obtain ⟨g1, ⟨g2, g3⟩, g4⟩ := gA_i0 g
  exact nl_nlt.mpr (Nat.le_trans g2 g3)
/-- the outcome of a comparison -/
def eCmpOk (Bc : Nat) (x y : eE) (a b : Nat) (q : Option (eE × eE)) : Prop := ∃ x2 y2, q = some (x2, y2) ∧ (gA Bc x2 a ∧ gA Bc y2 b) ∧ eShp (eId x) (eOff x) x2 ∧ eShp (eId y) (eOff y) y2
theorem eOkP_ok {Bc : Nat} {x y : eE} {a b : Nat} {q : Option (eE × eE)} (h : eCmpOk Bc x y a b q) : eCmpOk Bc x y a b (eOkP q) := by
  obtain ⟨x2, y2, rfl, ⟨h1, h2⟩, h3, h4⟩ := h
  refine ⟨x2, y2, ?_, ⟨h1, h2⟩, h3, h4⟩
  simp only [eOkP, eEmp_no h3.1 h1, eEmp_no h4.1 h2, Bool.or_self, cond_false]
theorem eSwp_ok {Bc : Nat} {x y : eE} {a b : Nat} {q : Option (eE × eE)} (h : eCmpOk Bc y x b a q) : eCmpOk Bc x y a b (eSwp q) := by
  obtain ⟨x2, y2, rfl, ⟨h1, h2⟩, h3, h4⟩ := h
  exact ⟨y2, x2, rfl, ⟨h2, h1⟩, h4, h3⟩
theorem eSin_ok {Bc : Nat} {e : eE} {c : Nat} (h : eSin e = true) (g : gA Bc e c) : zs c = eLo e ∧ c < 4294967296 := by
  obtain ⟨t, l, h2, st, id, off⟩ := e
  simp only [eSin, Bool.and_eq_true, nb_eq] at h
  obtain ⟨rfl, rfl⟩ := h
  obtain ⟨g1, ⟨g2, g3⟩, g4⟩ := gA_i0 g
  exact ⟨Nat.le_antisymm g3 g2, g1⟩
theorem eRel_ok {Bc : Nat} {x y : eE} {a b : Nat} (hx : x.1 = 0) (hy : y.1 = 0) (gx : gA Bc x a) (gy : gA Bc y b) {k : Nat} (h : if k = 0 then zs a = zs b else if k = 1 then zs a ≠ zs b else if k = 2 then zs a < zs b else zs b ≤ zs a) : eCmpOk Bc x y a b (eRel k x y) := by
  obtain ⟨t, lx, hx2, sx, ix, ox⟩ := x
  obtain ⟨u, ly, hy2, sy, iy, oy⟩ := y
  have hx : t = 0 := hx
  have hy : u = 0 := hy
  subst hx; subst hy
  obtain ⟨a1, ⟨a2, a3⟩, a4⟩ := gA_i0 gx
  obtain ⟨b1, ⟨b2, b3⟩, b4⟩ := gA_i0 gy
  have za := zs_lt a1
  have zb := zs_lt b1
  rcases k with _ | _ | _ | k
  · have h : zs a = zs b := h
    exact ⟨_, _, rfl, ⟨eOne_ok rfl (eCut_ok gx (by show ly ≤ zs a; omega) (by show zs a ≤ hy2; omega)), eOne_ok rfl (eCut_ok gy (by show lx ≤ zs b; omega) (by show zs b ≤ hx2; omega))⟩, eShp_one eShp_cut, eShp_one eShp_cut⟩
  · have h : zs a ≠ zs b := h
    simp only [eRel]
    cases q : ((eSin (0, lx, hx2, sx, ix, ox) && eSin (0, ly, hy2, sy, iy, oy)) && Nat.beq (eLo (0, lx, hx2, sx, ix, ox)) (eLo (0, ly, hy2, sy, iy, oy)))
    · refine ⟨_, _, rfl, ⟨eOne_ok ?_ ?_, eOne_ok ?_ ?_⟩, eShp_one ?_, eShp_one ?_⟩
      · cases eSin (0, ly, hy2, sy, iy, oy)
        · rfl
        · exact (eShp_ne (id := ix) (off := ox)).1
      · cases q2 : eSin (0, ly, hy2, sy, iy, oy)
        · exact gx
        · exact eNe_ok gx (by rw [← (eSin_ok q2 gy).1]; exact h)
      · cases eSin (0, lx, hx2, sx, ix, ox)
        · rfl
        · exact (eShp_ne (id := iy) (off := oy)).1
      · cases q2 : eSin (0, lx, hx2, sx, ix, ox)
        · exact gy
        · exact eNe_ok gy (by rw [← (eSin_ok q2 gx).1]; exact fun e => h e.symm)
      · cases eSin (0, ly, hy2, sy, iy, oy)
        · exact ⟨rfl, rfl, rfl⟩
        · exact eShp_ne
      · cases eSin (0, lx, hx2, sx, ix, ox)
        · exact ⟨rfl, rfl, rfl⟩
        · exact eShp_ne
    · exfalso
      simp only [Bool.and_eq_true, nb_eq] at q
      exact h (by rw [(eSin_ok q.1.1 gx).1, (eSin_ok q.1.2 gy).1, q.2])
  · have h : zs a < zs b := h
    simp only [eRel]
    cases q : Nat.beq (eHi (0, ly, hy2, sy, iy, oy)) 0
    · exact ⟨_, _, rfl, ⟨eOne_ok rfl (eCut_ok gx (Nat.zero_le _) (by show zs a ≤ hy2 - 1; omega)), eOne_ok rfl (eCut_ok gy (by show lx + 1 ≤ zs b; omega) (Nat.le_of_lt zb))⟩, eShp_one eShp_cut, eShp_one eShp_cut⟩
    · have q : hy2 = 0 := nb_eq.mp q
      omega
  · have h : zs b ≤ zs a := by
      rw [if_neg (by omega), if_neg (by omega), if_neg (by omega)] at h
      exact h
    exact ⟨_, _, rfl, ⟨eOne_ok rfl (eCut_ok gx (by show ly ≤ zs a; omega) (Nat.le_of_lt za)), eOne_ok rfl (eCut_ok gy (Nat.zero_le _) (by show zs b ≤ hx2; omega))⟩, eShp_one eShp_cut, eShp_one eShp_cut⟩
theorem zCmp_rel {k a b : Nat} (h : zCmp k a b = true) : (k = 0 → zs a = zs b) ∧ (k = 1 → a ≠ b) ∧ (k = 2 → zs a < zs b) ∧ (k = 3 → zs b ≤ zs a) ∧ (k = 4 → zs b < zs a) ∧ (5 ≤ k → zs a ≤ zs b) := by
  rcases k with _ | _ | _ | _ | _ | k <;> simp [zCmp, zlt] at h ⊢ <;> first | exact h | (rw [h]) | omega
theorem eCmp_ok {Bc : Nat} {x y : eE} {a b k : Nat} (hx : x.1 = 0) (hy : y.1 = 0) (gx : gA Bc x a) (gy : gA Bc y b) (hs : eSame x y = true → a = b) (hk : k < 6) (h : zCmp k a b = true) : eCmpOk Bc x y a b (eCmp k x y) := by
  obtain ⟨c0, c1, c2, c3, c4, c5⟩ := zCmp_rel h
  have ha : a < 4294967296 := by
    obtain ⟨t, lx, hx2, sx, ix, ox⟩ := x
    have hx : t = 0 := hx
    subst hx
    exact (gA_i0 gx).1
  have hb : b < 4294967296 := by
    obtain ⟨t, lx, hx2, sx, ix, ox⟩ := y
    have hy : t = 0 := hy
    subst hy
    exact (gA_i0 gy).1
  unfold eCmp
  cases q : eSame x y
  · cases q4 : Nat.beq k 4
    · cases q5 : Nat.beq k 5
      · have q4 := nb_ne.mp q4
        have q5 := nb_ne.mp q5
        refine eOkP_ok (eRel_ok hx hy gx gy ?_)
        rcases (show k = 0 ∨ k = 1 ∨ k = 2 ∨ k = 3 by omega) with rfl | rfl | rfl | rfl
        · exact c0 rfl
        · exact fun e => c1 rfl (zs_inj ha hb e)
        · exact c2 rfl
        · exact c3 rfl
      · exact eSwp_ok (eOkP_ok (eRel_ok (k := 3) hy hx gy gx (c5 (by rw [nb_eq.mp q5]; exact Nat.le_refl _))))
    · exact eSwp_ok (eOkP_ok (eRel_ok (k := 2) hy hx gy gx (c4 (nb_eq.mp q4))))
  · have e := hs q
    subst e
    have : (Nat.beq k 0 || (Nat.beq k 3 || Nat.beq k 5)) = true := by
      simp only [Bool.or_eq_true, nb_eq]
      rcases (show k = 0 ∨ k = 1 ∨ k = 2 ∨ k = 3 ∨ k = 4 ∨ k = 5 by omega) with rfl | rfl | rfl | rfl | rfl | rfl
      · exact Or.inl rfl
      · exact absurd rfl (c1 rfl)
      · exact absurd (c2 rfl) (Nat.lt_irrefl _)
      · exact Or.inr (Or.inl rfl)
      · exact absurd (c4 rfl) (Nat.lt_irrefl _)
      · exact Or.inr (Or.inr rfl)
    rw [this]
    exact ⟨x, y, rfl, ⟨gx, gy⟩, ⟨hx, rfl, rfl⟩, ⟨hy, rfl, rfl⟩⟩
