/-! ===== values: every operation on entries keeps what it says ===== -/
theorem gA_int {Bc : Nat} {e : eE} {c : Nat} (h : eInt e = true) (g : gA Bc e c) : c < 4294967296 ∧ e.2.1 ≤ zs c ∧ zs c ≤ e.2.2.1 := by
  obtain ⟨t, lo, hi, st, id, off⟩ := e
  simp only [eInt, Bool.or_eq_true, nb_eq] at h
  rcases g with ⟨-, g1, ⟨g2, g3⟩, -⟩ | ⟨g, -⟩ | ⟨g, -⟩ | g | ⟨-, g1, ⟨g2, g3⟩, -⟩
  · exact ⟨g1, g2, g3⟩
  · have g : t = 1 := g
    omega
  · have g : t = 2 := g
    omega
  · have g : t = 3 := g
    omega
  · exact ⟨g1, g2, g3⟩
theorem gA_i0 {Bc : Nat} {lo hi st id off c : Nat} (g : gA Bc (0, lo, hi, st, id, off) c) : c < 4294967296 ∧ (lo ≤ zs c ∧ zs c ≤ hi) ∧ st ∣ (zs c - lo) := by
  rcases g with ⟨-, g⟩ | ⟨g, -⟩ | ⟨g, -⟩ | g | ⟨g, -⟩
  · exact g
  · cases g
  · cases g
  · cases g
  · cases g
theorem gA_mk {Bc : Nat} {lo hi st id off c : Nat} (h1 : c < 4294967296) (h2 : lo ≤ zs c) (h3 : zs c ≤ hi) (h4 : st ∣ (zs c - lo)) : gA Bc (0, lo, hi, st, id, off) c := Or.inl ⟨rfl, h1, ⟨h2, h3⟩, h4⟩
theorem gA_with {Bc : Nat} {e : eE} {c id off : Nat} (g : gA Bc e c) : gA Bc (eWith e id off) c := g
theorem eCnt_ok {Bc : Nat} {e : eE} {c : Nat} (h : eInt e = true) (g : gA Bc e c) : gA Bc (eCnt e) c ∧ (eCnt e).1 = 0 := by
  obtain ⟨t, lo, hi, st, id, off⟩ := e
  have g2 := gA_int h g
  simp only [eInt, Bool.or_eq_true, nb_eq] at h
  rcases h with rfl | rfl
  · exact ⟨g, rfl⟩
  · exact ⟨gA_mk g2.1 g2.2.1 g2.2.2 (Nat.one_dvd _), rfl⟩
theorem eCnt_name {e : eE} : eId (eCnt e) = eId e ∧ eOff (eCnt e) = eOff e := by
  obtain ⟨t, lo, hi, st, id, off⟩ := e
  show eId (bif Nat.beq t 5 then (0, lo, hi, 1, id, off) else (t, lo, hi, st, id, off)) = id ∧ eOff (bif Nat.beq t 5 then (0, lo, hi, 1, id, off) else (t, lo, hi, st, id, off)) = off
  cases Nat.beq t 5 <;> exact ⟨rfl, rfl⟩
theorem eCnt_b {e : eE} : eLo (eCnt e) = eLo e ∧ eHi (eCnt e) = eHi e := by
  obtain ⟨t, lo, hi, st, id, off⟩ := e
  show eLo (bif Nat.beq t 5 then (0, lo, hi, 1, id, off) else (t, lo, hi, st, id, off)) = lo ∧ eHi (bif Nat.beq t 5 then (0, lo, hi, 1, id, off) else (t, lo, hi, st, id, off)) = hi
  cases Nat.beq t 5 <;> exact ⟨rfl, rfl⟩
theorem eInt_t0 {e : eE} (h : e.1 = 0) : eInt e = true := by
  obtain ⟨t, lo, hi, st, id, off⟩ := e
  have h : t = 0 := h
  subst h
  rfl
theorem eSub_ok {Bc : Nat} {e p : eE} {c : Nat} (h : eSub e p = true) (g : gA Bc e c) : gA Bc p c := by
  obtain ⟨t, lo, hi, st, id, off⟩ := e
  obtain ⟨u, lo2, hi2, st2, id2, off2⟩ := p
  simp only [eSub] at h
  cases n3 : Nat.beq u 3
  · cases n5 : Nat.beq u 5
    · cases n0 : Nat.beq u 0
      · simp only [n3, n5, n0, cond_false, Bool.and_eq_true, nb_eq] at h
        obtain ⟨rfl, rfl⟩ := h
        rcases g with ⟨g, g2⟩ | ⟨g, g2⟩ | ⟨g, g2⟩ | g | ⟨g, g2⟩
        · exact absurd g (nb_ne.mp n0)
        · exact Or.inr (Or.inl ⟨g, g2⟩)
        · exact Or.inr (Or.inr (Or.inl ⟨g, g2⟩))
        · exact Or.inr (Or.inr (Or.inr (Or.inl g)))
        · exact absurd g (nb_ne.mp n5)
      · simp only [n3, n5, n0, cond_false, cond_true] at h
        have h0 := nb_eq.mp n0
        subst h0
        rw [Bool.and_eq_true] at h
        obtain ⟨ht, h⟩ := h
        rw [Bool.and_eq_true] at h
        obtain ⟨h23, h4⟩ := h
        simp only [Bool.and_eq_true, nl_le] at h23
        simp only [Bool.or_eq_true, Bool.and_eq_true, nb_eq] at h4
        have gi : c < 4294967296 ∧ lo ≤ zs c ∧ zs c ≤ hi := gA_int (e := (t, lo, hi, st, id, off)) ht g
        refine gA_mk gi.1 (Nat.le_trans h23.1 gi.2.1) (Nat.le_trans gi.2.2 h23.2) ?_
        rcases h4 with rfl | ⟨rfl, h5, h6⟩
        · exact Nat.one_dvd _
        · have g2 := (gA_i0 g).2.2
          have e1 : zs c - lo2 = (zs c - lo) + (lo - lo2) := by omega
          rw [e1]
          refine Nat.dvd_add ?_ (Nat.dvd_of_mod_eq_zero h5)
          rcases h6 with rfl | h6
          · rw [show zs c - lo = 0 by omega]
            exact Nat.dvd_zero _
          · exact Nat.dvd_trans (Nat.dvd_of_mod_eq_zero h6) g2
    · simp only [n3, n5, cond_false, cond_true, Bool.and_eq_true, nb_eq, nl_le] at h
      have h0 := nb_eq.mp n5
      subst h0
      obtain ⟨rfl, h2, h3, h4⟩ := h
      rcases g with ⟨g, -⟩ | ⟨g, -⟩ | ⟨g, -⟩ | g | ⟨-, g1, ⟨g2, g3⟩, g4⟩
      · cases g
      · cases g
      · cases g
      · cases g
      · exact Or.inr (Or.inr (Or.inr (Or.inr ⟨rfl, g1, ⟨Nat.le_trans h2 g2, Nat.le_trans g3 h3⟩, Nat.le_trans g4 (Nat.add_le_add_left h4 Bc)⟩)))
  · exact Or.inr (Or.inr (Or.inr (Or.inl (nb_eq.mp n3))))
theorem eNorm_ok {Bc lo hi st c : Nat} (h1 : c < 4294967296) (h2 : lo ≤ zs c) (h3 : zs c ≤ hi) (h4 : st ∣ (zs c - lo)) : gA Bc (eNorm lo hi st) c := by
  unfold eNorm
  refine gA_mk h1 h2 h3 ?_
  cases hq : Nat.beq lo hi
  · exact h4
  · have := nb_eq.mp hq
    rw [show zs c - lo = 0 by omega]
    exact Nat.dvd_zero _
theorem eTop_ok {Bc c : Nat} (h : c < 4294967296) : gA Bc eTop c := gA_mk h (Nat.zero_le _) (by have := zs_lt h; omega) (Nat.one_dvd _)
theorem eCon_ok {Bc a : Nat} (h : a < 4294967296) : gA Bc (eCon a) a := gA_mk h (Nat.le_refl _) (Nat.le_refl _) (by rw [Nat.sub_self]; exact Nat.dvd_zero _)
theorem eNat_ok {Bc n : Nat} (h : n < 2147483648) : gA Bc (eNat n) n := by
  have e : zs n = 2147483648 + n := by rw [zs_lo h, Nat.add_comm]
  exact gA_mk (by omega) (by rw [e]; exact Nat.le_refl _) (by rw [e]; exact Nat.le_refl _) (by rw [e, Nat.sub_self]; exact Nat.dvd_zero _)
theorem eAdd_ok {Bc : Nat} {x y : eE} {a b : Nat} (hx : x.1 = 0) (hy : y.1 = 0) (gx : gA Bc x a) (gy : gA Bc y b) : gA Bc (eAdd x y) ((a + b) % 4294967296) := by
  obtain ⟨t, lx, hx2, sx, id, off⟩ := x
  obtain ⟨u, ly, hy2, sy, id2, off2⟩ := y
  have hx : t = 0 := hx
  have hy : u = 0 := hy
  subst hx; subst hy
  obtain ⟨a1, ⟨a2, a3⟩, a4⟩ := gA_i0 gx
  obtain ⟨b1, ⟨b2, b3⟩, b4⟩ := gA_i0 gy
  unfold eAdd
  split
  rename_i e1 e2
  cases e1; cases e2
  cases hq : (Nat.ble 2147483648 (lx + ly) && Nat.blt (hx2 + hy2) 6442450944)
  · exact eTop_ok (Nat.mod_lt _ (by decide))
  · simp only [Bool.and_eq_true, nl_le, nl_lt] at hq
    have hz := zs_add a1 b1 (by omega) (by omega)
    refine eNorm_ok (Nat.mod_lt _ (by decide)) (by rw [hz]; omega) (by rw [hz]; omega) ?_
    rw [hz, show zs a + zs b - 2147483648 - (lx + ly - 2147483648) = (zs a - lx) + (zs b - ly) by omega]
    exact Nat.dvd_add (Nat.dvd_trans (Nat.gcd_dvd_left _ _) a4) (Nat.dvd_trans (Nat.gcd_dvd_right _ _) b4)
theorem eDif_ok {Bc : Nat} {x y : eE} {a b : Nat} (hx : x.1 = 0) (hy : y.1 = 0) (gx : gA Bc x a) (gy : gA Bc y b) : gA Bc (eDif x y) ((a + 4294967296 - b) % 4294967296) := by
  obtain ⟨t, lx, hx2, sx, id, off⟩ := x
  obtain ⟨u, ly, hy2, sy, id2, off2⟩ := y
  have hx : t = 0 := hx
  have hy : u = 0 := hy
  subst hx; subst hy
  obtain ⟨a1, ⟨a2, a3⟩, a4⟩ := gA_i0 gx
  obtain ⟨b1, ⟨b2, b3⟩, b4⟩ := gA_i0 gy
  unfold eDif
  split
  rename_i e1 e2
  cases e1; cases e2
  cases hq : (Nat.ble hy2 (lx + 2147483648) && Nat.blt (hx2 + 2147483648 - ly) 4294967296)
  · exact eTop_ok (Nat.mod_lt _ (by decide))
  · simp only [Bool.and_eq_true, nl_le, nl_lt] at hq
    have hz := zs_sub a1 b1 (by omega) (by omega)
    refine eNorm_ok (Nat.mod_lt _ (by decide)) (by rw [hz]; omega) (by rw [hz]; omega) ?_
    cases hs : Nat.beq ly hy2
    · exact Nat.one_dvd _
    · have := nb_eq.mp hs
      rw [hz, show zs a + 2147483648 - zs b - (lx + 2147483648 - hy2) = zs a - lx by omega]
      exact a4
theorem zs_box {c lo hi : Nat} (h : c < 4294967296) (h2 : lo ≤ zs c) (h3 : zs c ≤ hi) (hk : 2147483648 ≤ lo) : lo - 2147483648 ≤ c ∧ c ≤ hi - 2147483648 ∧ zs c - lo = c - (lo - 2147483648) ∧ c < 2147483648 := by
  have e := zs_of h (by omega)
  have e2 := (zs_pos h).mp (by omega)
  omega
theorem eMul_aux {Bc a b LX HX LY HY st : Nat} (h1 : LX ≤ a) (h2 : a ≤ HX) (h3 : LY ≤ b) (h4 : b ≤ HY) (h5 : HX * HY < 2147483648) (h6 : st ∣ a * b - LX * LY) : gA Bc (eNorm (LX * LY + 2147483648) (HX * HY + 2147483648) st) ((a * b) % 4294967296) := by
  have hm : a * b ≤ HX * HY := Nat.mul_le_mul h2 h4
  have hl : LX * LY ≤ a * b := Nat.mul_le_mul h1 h3
  have hb4 : a * b < 2147483648 := Nat.lt_of_le_of_lt hm h5
  have hz : zs (a * b) = a * b + 2147483648 := zs_lo hb4
  rw [Nat.mod_eq_of_lt (Nat.lt_trans hb4 (by decide))]
  refine eNorm_ok (Nat.lt_trans hb4 (by decide)) (by rw [hz]; exact Nat.add_le_add_right hl _) (by rw [hz]; exact Nat.add_le_add_right hm _) ?_
  rw [hz, Nat.add_sub_add_right]
  exact h6
theorem dv_l {s X Y b : Nat} (h : s ∣ b - Y) : s * X ∣ X * b - X * Y := by
  rw [← Nat.mul_sub, Nat.mul_comm s X]
  exact Nat.mul_dvd_mul (Nat.dvd_refl X) h
theorem dv_r {s X Y a : Nat} (h : s ∣ a - X) : s * Y ∣ a * Y - X * Y := by
  rw [← Nat.sub_mul]
  exact Nat.mul_dvd_mul h (Nat.dvd_refl Y)
theorem eMul_dv {a b LX LY sx sy : Nat} {p q : Bool} (h1 : p = true → b = LY) (h2 : q = true → a = LX) (ha : sx ∣ a - LX) (hb : sy ∣ b - LY) : (bif p then sx * LY else bif q then sy * LX else 1) ∣ a * b - LX * LY := by
  cases p
  · cases q
    · exact Nat.one_dvd _
    · rw [h2 rfl]
      exact dv_l hb
  · rw [h1 rfl]
    exact dv_r ha
theorem eMul_ok {Bc : Nat} {x y : eE} {a b : Nat} (hx : x.1 = 0) (hy : y.1 = 0) (gx : gA Bc x a) (gy : gA Bc y b) : gA Bc (eMul x y) ((a * b) % 4294967296) := by
  obtain ⟨t, lx, hx2, sx, id, off⟩ := x
  obtain ⟨u, ly, hy2, sy, id2, off2⟩ := y
  have hx : t = 0 := hx
  have hy : u = 0 := hy
  subst hx; subst hy
  obtain ⟨a1, ⟨a2, a3⟩, a4⟩ := gA_i0 gx
  obtain ⟨b1, ⟨b2, b3⟩, b4⟩ := gA_i0 gy
  unfold eMul
  split
  rename_i e1 e2
  cases e1; cases e2
  cases hq : ((Nat.ble 2147483648 lx && Nat.ble 2147483648 ly) && Nat.blt ((hx2 - 2147483648) * (hy2 - 2147483648)) 2147483648)
  · exact eTop_ok (Nat.mod_lt _ (by decide))
  · simp only [Bool.and_eq_true, nl_le, nl_lt] at hq
    obtain ⟨⟨q1, q2⟩, q3⟩ := hq
    obtain ⟨c1, c2, c3, c4⟩ := zs_box a1 a2 a3 q1
    obtain ⟨d1, d2, d3, d4⟩ := zs_box b1 b2 b3 q2
    rw [c3] at a4
    rw [d3] at b4
    exact eMul_aux c1 c2 d1 d2 q3 (eMul_dv (fun h => Nat.le_antisymm (by rw [nb_eq.mp h]; exact d2) d1) (fun h => Nat.le_antisymm (by rw [nb_eq.mp h]; exact c2) c1) a4 b4)
