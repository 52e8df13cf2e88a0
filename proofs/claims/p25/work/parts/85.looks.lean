/-! ===== the looks (printed by wip/gen/m85.py) ===== -/
section BK
variable {sc : List Nat} {Q : Nat → zM → Prop} {frs : gCf} {i pc w pc2 : Nat} {ls st : List Nat} {m m0 : zM} {b : Nat} {p a : Nat → Nat}
theorem zIsC_f42 {w : Nat} (h : zop w = 42) : zIsC w = false := by
  unfold zIsC
  rw [h]
  rfl
theorem h_min {x y c : Nat} (hw : zI i pc = w) (ho : zop w = 42 ∧ pc + 3 = pc2) (ha : x < 4294967296) (hb : y < 4294967296) (hl : st.length ≤ 8) (hv : (bif zlt y x then y else x) = c) (g : gFin sc Q frs i pc2 ls (c :: st) m) : gFin sc Q frs i pc ls (y :: x :: st) m := by
  subst hw
  obtain ⟨h1, rfl⟩ := ho
  have h2 : (x < 4294967296 ∧ y < 4294967296) ∧ st.length ≤ 8 := ⟨⟨ha, hb⟩, hl⟩
  have h3 : (if zlt y x then y else x) = c := by
    rw [← hv]
    cases zlt y x <;> rfl
  exact gFin_step (zIsC_f42 h1) (by simp only [zOne, h1, ↓reduceIte, Nat.reduceEqDiff, or_self, zNx, if_pos h2, h3]) g
end BK
def mul1 (x y : Nat) : Nat := (x * y) % 4294967296
theorem mul1_eq {x y : Nat} : (x * y) % 4294967296 = mul1 x y := rfl
theorem mul1_lt {x y : Nat} : mul1 x y < 4294967296 := Nat.mod_lt _ (by decide)
def min1 (x y : Nat) : Nat := bif zlt y x then y else x
theorem min1_eq {x y : Nat} : (bif zlt y x then y else x) = min1 x y := rfl
theorem min1_lt {x y : Nat} (hx : x < 4294967296) (hy : y < 4294967296) : min1 x y < 4294967296 := by
  unfold min1
  cases zlt y x
  · exact hx
  · exact hy
section BG
variable {sc : List Nat} {Q : Nat → zM → Prop} {frs : gCf} {m m0 : zM} {b : Nat} {p a : Nat → Nat}
def mPl1 (a : Nat → Nat) (lv d : Nat) : Nat → Nat := bU a (10 + lv) d
def mPl2 (a : Nat → Nat) (lv d : Nat) : Nat → Nat := bU (mPl1 a lv d) (12 + lv) (add1 (mPl1 a lv d 0) (mPl1 a lv d (10 + lv)))
theorem mPl1_d {lv d : Nat} : mPl1 a lv d = bU a (10 + lv) d := rfl
theorem mPl2_d {lv d : Nat} : mPl2 a lv d = bU (mPl1 a lv d) (12 + lv) (add1 (mPl1 a lv d 0) (mPl1 a lv d (10 + lv))) := rfl
def mDb (a : Nat → Nat) (lv : Nat) : Nat := min1 (mul1 (a (10 + lv)) 2) 64
def mPl (a : Nat → Nat) (lv fd : Nat) : Nat → Nat := mPl2 a lv (bif Nat.beq fd 0 then mDb a lv else a (5 + (2 + lv)))
theorem m23 {lv fd : Nat} (hS : bS b p a m0 m) (hl : lv < 2) (hf : fd < 2) (g : ∀ m', bS b p (mPl a lv fd) m0 m' → gFin1 sc Q frs 23 0 m') : gFin sc Q frs 23 0 [bR b 0, lv, fd] [] m := by
  have go : ∀ d, d < 4294967296 → (∀ m', bS b p (mPl2 a lv d) m0 m' → gFin1 sc Q frs 23 0 m') → gFin sc Q frs 23 33 [bR b 0, lv, fd] [d, lv, bR b 4] m := by
    intro d hd g
    refine s_astD (w := 283) (pc2 := 34) (by decide +kernel) (by decide +kernel) hS (j := lv) (by omega) hd ?_
    intro m1 hS1
    rw [← mPl1_d] at hS1
    refine h_ldr (w := 259) (pc2 := 35) (by decide +kernel) (by decide +kernel) rfl (bR_ref hS1.2.1.2.2 (by omega)) ?_
    refine s_getHr (w := 36267885269184792484512534) (pc2 := 38) (by decide +kernel) (c := 6) (k := 5) (by decide +kernel) hS1.1 hS1.2.1 (by decide) ?_
    refine h_ldi (w := 65794) (pc2 := 39) (by decide +kernel) (by decide +kernel) rfl (by omega) ?_
    refine h_ldr (w := 259) (pc2 := 40) (by decide +kernel) (by decide +kernel) rfl (bR_ref hS1.2.1.2.2 (by omega)) ?_
    refine s_getHx (w := 54401661882939787847009046) (pc2 := 43) (by decide +kernel) (c := 0) (x := 0) (by decide +kernel) hS1.1 hS1.2.1 (by decide) ?_
    refine h_ldr (w := 259) (pc2 := 44) (by decide +kernel) (by decide +kernel) rfl (bR_ref hS1.2.1.2.2 (by omega)) ?_
    refine s_getHr (w := 32641089363596831250711318) (pc2 := 47) (by decide +kernel) (c := 5) (k := 4) (by decide +kernel) hS1.1 hS1.2.1 (by decide) ?_
    refine h_ldi (w := 65794) (pc2 := 48) (by decide +kernel) (by decide +kernel) rfl (by omega) ?_
    refine s_aldD (w := 282) (pc2 := 49) (by decide +kernel) (by decide +kernel) hS1.1 hS1.2.1 (j := lv) (by omega) ?_
    refine h_add (w := 263) (pc2 := 50) (by decide +kernel) (by decide +kernel) (hS1.2.1.2.1.1 _) (hS1.2.1.2.1.1 _) (c := (add1 (mPl1 a lv d 0) (mPl1 a lv d (10 + lv)))) add1_eq ?_
    refine s_astN (w := 283) (pc2 := 51) (by decide +kernel) (by decide +kernel) hS1 (j := lv) (by omega) add1_lt ?_
    intro m2 hS2
    rw [← mPl2_d] at hS2
    exact h_ret0 (w := 302) (by decide +kernel) (by decide +kernel) (g _ hS2)
  refine h_ldr (w := 259) (pc2 := 1) (by decide +kernel) (by decide +kernel) rfl (bR_ref hS.2.1.2.2 (by omega)) ?_
  refine s_getHr (w := 32641089363596831250711318) (pc2 := 4) (by decide +kernel) (c := 5) (k := 4) (by decide +kernel) hS.1 hS.2.1 (by decide) ?_
  refine h_ldi (w := 65794) (pc2 := 5) (by decide +kernel) (by decide +kernel) rfl (by omega) ?_
  refine h_ldi (w := 131330) (pc2 := 6) (by decide +kernel) (by decide +kernel) rfl (by omega) ?_
  by_cases q0 : fd = 0
  · rw [show mPl a lv fd = mPl2 a lv (mDb a lv) from by unfold mPl; rw [nb_eq.mpr q0]; rfl] at g
    refine h_if (w := 1311505) (pc2 := 20) (by decide +kernel) (b := true) (by decide +kernel) (by omega)  (zc_eq_t q0) ?_
    refine h_ldr (w := 259) (pc2 := 21) (by decide +kernel) (by decide +kernel) rfl (bR_ref hS.2.1.2.2 (by omega)) ?_
    refine s_getHr (w := 32641089363596831250711318) (pc2 := 24) (by decide +kernel) (c := 5) (k := 4) (by decide +kernel) hS.1 hS.2.1 (by decide) ?_
    refine h_ldi (w := 65794) (pc2 := 25) (by decide +kernel) (by decide +kernel) rfl (by omega) ?_
    refine s_aldD (w := 282) (pc2 := 26) (by decide +kernel) (by decide +kernel) hS.1 hS.2.1 (j := lv) (by omega) ?_
    refine h_con (w := 131329) (pc2 := 27) (by decide +kernel) (v := 2) (by decide +kernel) ?_
    refine h_mul (w := 265) (pc2 := 28) (by decide +kernel) (by decide +kernel) (hS.2.1.2.1.1 _) (by decide) (c := (mul1 (a (10 + lv)) 2)) mul1_eq ?_
    refine h_con (w := 281474980905473) (pc2 := 30) (by decide +kernel) (v := 64) (by decide +kernel) ?_
    refine h_min (w := 211562018432560105594356522) (pc2 := 33) (by decide +kernel) (by decide +kernel) mul1_lt (by decide) (Nat.le_of_ble_eq_true rfl) (c := mDb a lv) min1_eq ?_
    exact go _ (min1_lt mul1_lt (by decide)) g
  · rw [show mPl a lv fd = mPl2 a lv (a (5 + (2 + lv))) from by unfold mPl; rw [nb_ne.mpr q0]; rfl] at g
    refine h_if (w := 1311505) (pc2 := 9) (by decide +kernel) (b := false) (by decide +kernel) (by omega)  (zc_eq_f q0) ?_
    refine h_ldr (w := 259) (pc2 := 10) (by decide +kernel) (by decide +kernel) rfl (bR_ref hS.2.1.2.2 (by omega)) ?_
    refine s_getHr (w := 27805367638394240842203926) (pc2 := 13) (by decide +kernel) (c := 4) (k := 3) (by decide +kernel) hS.1 hS.2.1 (by decide) ?_
    refine h_con (w := 131329) (pc2 := 14) (by decide +kernel) (v := 2) (by decide +kernel) ?_
    refine h_ldi (w := 65794) (pc2 := 15) (by decide +kernel) (by decide +kernel) rfl (by omega) ?_
    refine h_add (w := 263) (pc2 := 16) (by decide +kernel) (by decide +kernel) (by decide) (by omega) (c := (2 + lv)) (Nat.mod_eq_of_lt (by omega)) ?_
    refine s_aldS (w := 282) (pc2 := 17) (by decide +kernel) (by decide +kernel) hS.1 hS.2.1 (j := (2 + lv)) (by omega) ?_
    refine h_goto (w := 2163475) (pc2 := 33) (by decide +kernel) (by decide +kernel) ?_
    exact go _ (hS.2.1.2.1.1 _) g
/-- the lowest arm that may be lent: what is known of it -/
def oFr (a : Nat → Nat) (q f i : Nat) : Prop := a (100 + 8 * i + 2) = 0 ∧ a (100 + 8 * i + 4) = 0 ∧ a (100 + 8 * i + 1) ≠ q ∧ mIn (a (100 + 8 * i + 1)) q = f
theorem mHf_ok {q f : Nat} : ∀ (d k : Nat), k + d < 4294967295 → (mHf a q f d k = 4294967295 → ∀ i, k ≤ i → i < k + d → ¬ oFr a q f i) ∧ (mHf a q f d k ≠ 4294967295 → oFr a q f (mHf a q f d k)) := by
  intro d
  induction d with
  | zero => exact fun k _ => ⟨fun _ i h1 h2 => by omega, fun h => absurd rfl h⟩
  | succ d IH =>
    intro k hk
    have h1 := IH (k + 1) (by omega)
    have e : mHf a q f (d + 1) k = bif (Nat.beq (a (100 + 8 * k + 2)) 0 && (Nat.beq (a (100 + 8 * k + 4)) 0 && (!Nat.beq (a (100 + 8 * k + 1)) q && Nat.beq (mIn (a (100 + 8 * k + 1)) q) f))) then k else mHf a q f d (k + 1) := rfl
    cases q0 : (Nat.beq (a (100 + 8 * k + 2)) 0 && (Nat.beq (a (100 + 8 * k + 4)) 0 && (!Nat.beq (a (100 + 8 * k + 1)) q && Nat.beq (mIn (a (100 + 8 * k + 1)) q) f)))
    · rw [q0, cond_false] at e
      rw [e]
      refine ⟨fun h i h2 h3 => ?_, h1.2⟩
      by_cases c : i = k
      · intro z
        rw [c] at z
        obtain ⟨z1, z2, z3, z4⟩ := z
        rw [nb_eq.mpr z1, nb_eq.mpr z2, nb_ne.mpr z3, nb_eq.mpr z4] at q0
        exact Bool.noConfusion q0
      · exact h1.1 h i (by omega) (by omega)
    · rw [q0, cond_true] at e
      rw [e]
      simp only [Bool.and_eq_true, Bool.not_eq_true', nb_eq, nb_ne] at q0
      exact ⟨fun h => by omega, fun _ => ⟨q0.1, q0.2.1, q0.2.2.1, q0.2.2.2⟩⟩
/-- what holds behind a lending -/
theorem mLe_ind {R : Nat → (Nat → Nat) → Prop} {fi en f : Nat} (he : en ≤ 12) (hf : fi ≤ en) (h0 : ∀ d a, R d a → a 1 ≤ 17) (hn : ∀ d a, R d a → R 0 a) (hs : ∀ d a j q, R (d + 1) a → j < a 1 → fi ≤ q → q < en → oFr a q f j → R d (mDp a j q)) : ∀ d a, R d a → R 0 (mLe fi en f d a) := by
  intro d
  induction d with
  | zero => exact fun a h => h
  | succ d IH =>
    intro a h
    have h17 := h0 _ _ h
    rw [mLe_s]
    have hq := mNd_in (a := a) (en - fi) fi 4294967295 1
    obtain ⟨q, eq⟩ : ∃ q, q = mNd a (en - fi) fi 4294967295 1 := ⟨_, rfl⟩
    rw [← eq] at hq ⊢
    by_cases q0 : q = 4294967295
    · rw [nb_eq.mpr q0, cond_true]
      exact hn _ _ h
    · rw [nb_ne.mpr q0, cond_false]
      have hh := mHf_in (a := a) q f (a 1) 0
      have ho := (mHf_ok (a := a) (q := q) (f := f) (a 1) 0 (by omega)).2
      obtain ⟨j, ej⟩ : ∃ j, j = mHf a q f (a 1) 0 := ⟨_, rfl⟩
      rw [← ej] at hh ho ⊢
      by_cases q1 : j = 4294967295
      · rw [nb_eq.mpr q1, cond_true]
        exact hn _ _ h
      · rw [nb_ne.mpr q1, cond_false]
        exact IH _ (hs d a j q h (by omega) (by omega) (by omega) (ho q1))
theorem mLe_k {fi en f d : Nat} (he : en ≤ 12) (hf : fi ≤ en) (h17 : a 1 ≤ 17) (hQ : aQ a) (h14 : a 14 + d < 2147483648) : aQ (mLe fi en f d a) ∧ mLe fi en f d a 1 = a 1 ∧ a 14 ≤ mLe fi en f d a 14 ∧ mLe fi en f d a 14 ≤ a 14 + d := by
  have h := mLe_ind (R := fun e c => aQ c ∧ c 1 = a 1 ∧ a 14 ≤ c 14 ∧ c 14 + e ≤ a 14 + d) he hf (f := f) (fun _ _ h => by rw [h.2.1]; exact h17) (fun e c h => ⟨h.1, h.2.1, h.2.2.1, by omega⟩) (fun e c j q h hj h1 h2 h3 => by
    obtain ⟨r1, r2, r3, r4⟩ := h
    have hk : j < 17 := by omega
    refine ⟨aQ_dp (by omega) hk (by omega) r1, ?_, ?_⟩
    · rw [mDp_n hk (by omega) (by omega) (by omega) (by omega) (by omega) (by omega) (by omega) (by omega)]
      exact r2
    · rw [mDp_14 hk, show inc1 (c 14) = c 14 + 1 from Nat.mod_eq_of_lt (by omega)]
      omega) d a ⟨hQ, rfl, Nat.le_refl _, Nat.le_refl _⟩
  exact ⟨h.1, h.2.1, h.2.2.1, by have := h.2.2.2; omega⟩
def mLb1 (a : Nat → Nat) : Nat → Nat := mLe 0 4 1 (a 1) a
def mLb2 (a : Nat → Nat) : Nat → Nat := mLe 4 8 1 (mLb1 a 1) (mLb1 a)
def mLb3 (a : Nat → Nat) : Nat → Nat := mLe 8 12 1 (mLb2 a 1) (mLb2 a)
def mLb (a : Nat → Nat) : Nat → Nat := mPl (mLb3 a) 0 (i1 (zlt (a 14) (mLb3 a 14)))
theorem mLb1_k (h17 : a 1 ≤ 17) (hQ : aQ a) (h14 : a 14 + 17 < 2147483648) : aQ (mLb1 a) ∧ mLb1 a 1 = a 1 ∧ a 14 ≤ mLb1 a 14 ∧ mLb1 a 14 ≤ a 14 + 17 := by
  have h := mLe_k (fi := 0) (en := 4) (f := 1) (d := a 1) (by decide) (by decide) h17 hQ (by omega)
  exact ⟨h.1, h.2.1, h.2.2.1, Nat.le_trans h.2.2.2 (by omega)⟩
theorem mLb2_k (h17 : a 1 ≤ 17) (hQ : aQ a) (h14 : a 14 + 34 < 2147483648) : aQ (mLb2 a) ∧ mLb2 a 1 = a 1 ∧ a 14 ≤ mLb2 a 14 ∧ mLb2 a 14 ≤ a 14 + 34 := by
  obtain ⟨r1, r2, r3, r4⟩ := mLb1_k h17 hQ (by omega)
  have h := mLe_k (fi := 4) (en := 8) (f := 1) (d := mLb1 a 1) (by decide) (by decide) (by omega) r1 (by omega)
  exact ⟨h.1, h.2.1.trans r2, Nat.le_trans r3 h.2.2.1, Nat.le_trans h.2.2.2 (by omega)⟩
theorem mLb3_k (h17 : a 1 ≤ 17) (hQ : aQ a) (h14 : a 14 + 51 < 2147483648) : aQ (mLb3 a) ∧ mLb3 a 1 = a 1 ∧ a 14 ≤ mLb3 a 14 ∧ mLb3 a 14 ≤ a 14 + 51 := by
  obtain ⟨r1, r2, r3, r4⟩ := mLb2_k h17 hQ (by omega)
  have h := mLe_k (fi := 8) (en := 12) (f := 1) (d := mLb2 a 1) (by decide) (by decide) (by omega) r1 (by omega)
  exact ⟨h.1, h.2.1.trans r2, Nat.le_trans r3 h.2.2.1, Nat.le_trans h.2.2.2 (by omega)⟩
def mLp1 (a : Nat → Nat) : Nat → Nat := mLe 0 12 0 (a 1) a
def mLp (a : Nat → Nat) : Nat → Nat := mPl (mLp1 a) 1 (i1 (zlt (a 14) (mLp1 a 14)))
theorem mLp1_k (h17 : a 1 ≤ 17) (hQ : aQ a) (h14 : a 14 + 17 < 2147483648) : aQ (mLp1 a) ∧ mLp1 a 1 = a 1 ∧ a 14 ≤ mLp1 a 14 ∧ mLp1 a 14 ≤ a 14 + 17 := by
  have h := mLe_k (fi := 0) (en := 12) (f := 0) (d := a 1) (by decide) (by decide) h17 hQ (by omega)
  exact ⟨h.1, h.2.1, h.2.2.1, Nat.le_trans h.2.2.2 (by omega)⟩
theorem i1_lt {c : Bool} : i1 c < 2 := Nat.lt_succ_of_le i1_le
theorem m20 {x y : Nat} (hS : bS b p a m0 m) (hQ : aQ a) (h14 : a 14 + 51 < 2147483648) (g : ∀ m', bS b p (mLb a) m0 m' → gFin1 sc Q frs 20 0 m') : gFin sc Q frs 20 0 [bR b 0, x, y] [] m := by
  have h17 := hS.2.1.2.1.2
  have k1 := mLb1_k h17 hQ (by omega)
  have k2 := mLb2_k h17 hQ (by omega)
  have k3 := mLb3_k h17 hQ (by omega)
  refine h_ldr (w := 259) (pc2 := 1) (by decide +kernel) (by decide +kernel) rfl (bR_ref hS.2.1.2.2 (by omega)) ?_
  refine s_getHr (w := 43521458633616641242432278) (pc2 := 4) (by decide +kernel) (c := 7) (k := 6) (by decide +kernel) hS.1 hS.2.1 (by decide) ?_
  refine s_getG (w := 191010297946981383223182102) (pc2 := 7) (by decide +kernel) (c := 1) (by decide +kernel) hS.1 hS.2.1 (v := (a 14)) rfl ?_
  refine h_sti (w := 65796) (pc2 := 8) (by decide +kernel) (n := 3) (by decide +kernel) rfl (hS.2.1.2.1.1 _) (ls2 := [bR b 0, (a 14), y]) rfl ?_
  refine h_con (w := 257) (pc2 := 9) (by decide +kernel) (v := 0) (by decide +kernel) ?_
  refine h_sti (w := 131332) (pc2 := 10) (by decide +kernel) (n := 3) (by decide +kernel) rfl (by decide) (ls2 := [bR b 0, (a 14), 0]) rfl ?_
  refine h_ldi (w := 131330) (pc2 := 11) (by decide +kernel) (by decide +kernel) rfl (by decide) ?_
  refine h_con (w := 196865) (pc2 := 12) (by decide +kernel) (v := 3) (by decide +kernel) ?_
  refine h_icmp (w := 844424932360978) (pc2 := 15) (by decide +kernel) (b := false) (by decide +kernel) (by decide) (by decide) (zc_ge_f (by decide) (by decide) (by decide)) ?_
  refine h_ldr (w := 259) (pc2 := 16) (by decide +kernel) (by decide +kernel) rfl (bR_ref hS.2.1.2.2 (by omega)) ?_
  refine h_ldi (w := 131330) (pc2 := 17) (by decide +kernel) (by decide +kernel) rfl (by decide) ?_
  refine h_con (w := 262401) (pc2 := 18) (by decide +kernel) (v := 4) (by decide +kernel) ?_
  refine h_mul (w := 265) (pc2 := 19) (by decide +kernel) (by decide +kernel) (by decide) (by decide) (c := 0) (by decide) ?_
  refine h_ldi (w := 131330) (pc2 := 20) (by decide +kernel) (by decide +kernel) rfl (by decide) ?_
  refine h_con (w := 65793) (pc2 := 21) (by decide +kernel) (v := 1) (by decide +kernel) ?_
  refine h_add (w := 263) (pc2 := 22) (by decide +kernel) (by decide +kernel) (by decide) (by decide) (c := 1) (by decide) ?_
  refine h_con (w := 262401) (pc2 := 23) (by decide +kernel) (v := 4) (by decide +kernel) ?_
  refine h_mul (w := 265) (pc2 := 24) (by decide +kernel) (by decide +kernel) (by decide) (by decide) (c := 4) (by decide) ?_
  refine h_con (w := 65793) (pc2 := 25) (by decide +kernel) (v := 1) (by decide +kernel) ?_
  refine h_cv (w := 194642258940909983129535269) (c := 22) (n := 3) (by decide +kernel) (by decide +kernel) rfl (zA_H hS) ⟨Nat.le_of_ble_eq_true rfl, Nat.le_of_ble_eq_true rfl⟩ (show ∀ c ∈ [1, 4, 0, bR b 0], c < 8589934592 from zl_c (zlo (by decide)) (zl_c (zlo (by decide)) (zl_c (zlo (by decide)) (zl_c (bR_ref hS.2.1.2.2 (by omega)).2 zl_n)))) (st2 := []) rfl (l2 := [bR b 0, 0, 4, 1, 1099511627776, 1099511627776, 1099511627776]) (by show (List.take 4 _).reverse ++ List.replicate (zMaxL 22 - 4) _ = _; rw [show zMaxL 22 = 7 by decide +kernel]; rfl) ?_
  refine m22 hS (by decide) (by decide) (by decide) hQ (by omega) (fun m1 hS1 => (gF_0 (by decide +kernel) ?_))
  have hS1 : bS b p (mLb1 a) m0 m1 := hS1
  refine h_inc (w := 562949953487622) (pc2 := 31) (by decide +kernel) (by decide +kernel) rfl (by decide) (c2 := 1) (by show (_ + 1) % 4294967296 = _; omega) (ls2 := [bR b 0, (a 14), 1]) rfl ?_
  refine h_goto (w := 656147) (pc2 := 10) (by decide +kernel) (by decide +kernel) ?_
  refine h_ldi (w := 131330) (pc2 := 11) (by decide +kernel) (by decide +kernel) rfl (by decide) ?_
  refine h_con (w := 196865) (pc2 := 12) (by decide +kernel) (v := 3) (by decide +kernel) ?_
  refine h_icmp (w := 844424932360978) (pc2 := 15) (by decide +kernel) (b := false) (by decide +kernel) (by decide) (by decide) (zc_ge_f (by decide) (by decide) (by decide)) ?_
  refine h_ldr (w := 259) (pc2 := 16) (by decide +kernel) (by decide +kernel) rfl (bR_ref hS1.2.1.2.2 (by omega)) ?_
  refine h_ldi (w := 131330) (pc2 := 17) (by decide +kernel) (by decide +kernel) rfl (by decide) ?_
  refine h_con (w := 262401) (pc2 := 18) (by decide +kernel) (v := 4) (by decide +kernel) ?_
  refine h_mul (w := 265) (pc2 := 19) (by decide +kernel) (by decide +kernel) (by decide) (by decide) (c := 4) (by decide) ?_
  refine h_ldi (w := 131330) (pc2 := 20) (by decide +kernel) (by decide +kernel) rfl (by decide) ?_
  refine h_con (w := 65793) (pc2 := 21) (by decide +kernel) (v := 1) (by decide +kernel) ?_
  refine h_add (w := 263) (pc2 := 22) (by decide +kernel) (by decide +kernel) (by decide) (by decide) (c := 2) (by decide) ?_
  refine h_con (w := 262401) (pc2 := 23) (by decide +kernel) (v := 4) (by decide +kernel) ?_
  refine h_mul (w := 265) (pc2 := 24) (by decide +kernel) (by decide +kernel) (by decide) (by decide) (c := 8) (by decide) ?_
  refine h_con (w := 65793) (pc2 := 25) (by decide +kernel) (v := 1) (by decide +kernel) ?_
  refine h_cv (w := 194642258940909983129535269) (c := 22) (n := 3) (by decide +kernel) (by decide +kernel) rfl (zA_H hS1) ⟨Nat.le_of_ble_eq_true rfl, Nat.le_of_ble_eq_true rfl⟩ (show ∀ c ∈ [1, 8, 4, bR b 0], c < 8589934592 from zl_c (zlo (by decide)) (zl_c (zlo (by decide)) (zl_c (zlo (by decide)) (zl_c (bR_ref hS1.2.1.2.2 (by omega)).2 zl_n)))) (st2 := []) rfl (l2 := [bR b 0, 4, 8, 1, 1099511627776, 1099511627776, 1099511627776]) (by show (List.take 4 _).reverse ++ List.replicate (zMaxL 22 - 4) _ = _; rw [show zMaxL 22 = 7 by decide +kernel]; rfl) ?_
  refine m22 hS1 (by decide) (by decide) (by decide) k1.1 (by omega) (fun m2 hS2 => (gF_0 (by decide +kernel) ?_))
  have hS2 : bS b p (mLb2 a) m0 m2 := hS2
  refine h_inc (w := 562949953487622) (pc2 := 31) (by decide +kernel) (by decide +kernel) rfl (by decide) (c2 := 2) (by show (_ + 1) % 4294967296 = _; omega) (ls2 := [bR b 0, (a 14), 2]) rfl ?_
  refine h_goto (w := 656147) (pc2 := 10) (by decide +kernel) (by decide +kernel) ?_
  refine h_ldi (w := 131330) (pc2 := 11) (by decide +kernel) (by decide +kernel) rfl (by decide) ?_
  refine h_con (w := 196865) (pc2 := 12) (by decide +kernel) (v := 3) (by decide +kernel) ?_
  refine h_icmp (w := 844424932360978) (pc2 := 15) (by decide +kernel) (b := false) (by decide +kernel) (by decide) (by decide) (zc_ge_f (by decide) (by decide) (by decide)) ?_
  refine h_ldr (w := 259) (pc2 := 16) (by decide +kernel) (by decide +kernel) rfl (bR_ref hS2.2.1.2.2 (by omega)) ?_
  refine h_ldi (w := 131330) (pc2 := 17) (by decide +kernel) (by decide +kernel) rfl (by decide) ?_
  refine h_con (w := 262401) (pc2 := 18) (by decide +kernel) (v := 4) (by decide +kernel) ?_
  refine h_mul (w := 265) (pc2 := 19) (by decide +kernel) (by decide +kernel) (by decide) (by decide) (c := 8) (by decide) ?_
  refine h_ldi (w := 131330) (pc2 := 20) (by decide +kernel) (by decide +kernel) rfl (by decide) ?_
  refine h_con (w := 65793) (pc2 := 21) (by decide +kernel) (v := 1) (by decide +kernel) ?_
  refine h_add (w := 263) (pc2 := 22) (by decide +kernel) (by decide +kernel) (by decide) (by decide) (c := 3) (by decide) ?_
  refine h_con (w := 262401) (pc2 := 23) (by decide +kernel) (v := 4) (by decide +kernel) ?_
  refine h_mul (w := 265) (pc2 := 24) (by decide +kernel) (by decide +kernel) (by decide) (by decide) (c := 12) (by decide) ?_
  refine h_con (w := 65793) (pc2 := 25) (by decide +kernel) (v := 1) (by decide +kernel) ?_
  refine h_cv (w := 194642258940909983129535269) (c := 22) (n := 3) (by decide +kernel) (by decide +kernel) rfl (zA_H hS2) ⟨Nat.le_of_ble_eq_true rfl, Nat.le_of_ble_eq_true rfl⟩ (show ∀ c ∈ [1, 12, 8, bR b 0], c < 8589934592 from zl_c (zlo (by decide)) (zl_c (zlo (by decide)) (zl_c (zlo (by decide)) (zl_c (bR_ref hS2.2.1.2.2 (by omega)).2 zl_n)))) (st2 := []) rfl (l2 := [bR b 0, 8, 12, 1, 1099511627776, 1099511627776, 1099511627776]) (by show (List.take 4 _).reverse ++ List.replicate (zMaxL 22 - 4) _ = _; rw [show zMaxL 22 = 7 by decide +kernel]; rfl) ?_
  refine m22 hS2 (by decide) (by decide) (by decide) k2.1 (by omega) (fun m3 hS3 => (gF_0 (by decide +kernel) ?_))
  have hS3 : bS b p (mLb3 a) m0 m3 := hS3
  refine h_inc (w := 562949953487622) (pc2 := 31) (by decide +kernel) (by decide +kernel) rfl (by decide) (c2 := 3) (by show (_ + 1) % 4294967296 = _; omega) (ls2 := [bR b 0, (a 14), 3]) rfl ?_
  refine h_goto (w := 656147) (pc2 := 10) (by decide +kernel) (by decide +kernel) ?_
  refine h_ldi (w := 131330) (pc2 := 11) (by decide +kernel) (by decide +kernel) rfl (by decide) ?_
  refine h_con (w := 196865) (pc2 := 12) (by decide +kernel) (v := 3) (by decide +kernel) ?_
  refine h_icmp (w := 844424932360978) (pc2 := 34) (by decide +kernel) (b := true) (by decide +kernel) (by decide) (by decide) (zc_ge_t (by decide) (by decide) (by decide)) ?_
  refine h_ldr (w := 259) (pc2 := 35) (by decide +kernel) (by decide +kernel) rfl (bR_ref hS3.2.1.2.2 (by omega)) ?_
  refine h_con (w := 257) (pc2 := 36) (by decide +kernel) (v := 0) (by decide +kernel) ?_
  refine h_ldr (w := 259) (pc2 := 37) (by decide +kernel) (by decide +kernel) rfl (bR_ref hS3.2.1.2.2 (by omega)) ?_
  refine s_getHr (w := 43521458633616641242432278) (pc2 := 40) (by decide +kernel) (c := 7) (k := 6) (by decide +kernel) hS3.1 hS3.2.1 (by decide) ?_
  refine s_getG (w := 191010297946981383223182102) (pc2 := 43) (by decide +kernel) (c := 1) (by decide +kernel) hS3.1 hS3.2.1 (v := ((mLb3 a) 14)) rfl ?_
  refine h_ldi (w := 65794) (pc2 := 44) (by decide +kernel) (by decide +kernel) rfl (hS.2.1.2.1.1 _) ?_
  have go : ∀ fd, fd = i1 (zlt (a 14) (mLb3 a 14)) → gFin sc Q frs 20 52 [bR b 0, (a 14), 3] [fd, 0, bR b 0] m3 := by
    intro fd ef
    have hfd : fd < 2 := by rw [ef]; exact i1_lt
    refine h_cv (w := 198269608248538680673108773) (c := 23) (n := 2) (by decide +kernel) (by decide +kernel) rfl (zA_H hS3) ⟨Nat.le_of_ble_eq_true rfl, Nat.le_of_ble_eq_true rfl⟩ (show ∀ c ∈ [fd, 0, bR b 0], c < 8589934592 from zl_c (zlo (by omega)) (zl_c (zlo (by decide)) (zl_c (bR_ref hS3.2.1.2.2 (by omega)).2 zl_n))) (st2 := []) rfl (l2 := [bR b 0, 0, fd]) (by show (List.take 3 _).reverse ++ List.replicate (zMaxL 23 - 3) _ = _; rw [show zMaxL 23 = 3 by decide +kernel]; rfl) ?_
    refine m23 hS3 (by decide) hfd (fun m4 hS4 => (gF_0 (by decide +kernel) ?_))
    rw [ef] at hS4
    exact h_ret0 (w := 302) (by decide +kernel) (by decide +kernel) (g _ hS4)
  cases c0 : zlt (a 14) (mLb3 a 14)
  · rw [c0] at go
    refine h_icmp (w := 1407374886896402) (pc2 := 51) (by decide +kernel) (b := true) (by decide +kernel) (hS3.2.1.2.1.1 _) (hS.2.1.2.1.1 _) (cmp5_t c0) ?_
    refine h_con (w := 257) (pc2 := 52) (by decide +kernel) (v := 0) (by decide +kernel) ?_
    exact go 0 rfl
  · rw [c0] at go
    refine h_icmp (w := 1407374886896402) (pc2 := 47) (by decide +kernel) (b := false) (by decide +kernel) (hS3.2.1.2.1.1 _) (hS.2.1.2.1.1 _) (cmp5_f c0) ?_
    refine h_con (w := 65793) (pc2 := 48) (by decide +kernel) (v := 1) (by decide +kernel) ?_
    refine h_goto (w := 3408659) (pc2 := 52) (by decide +kernel) (by decide +kernel) ?_
    exact go 1 rfl
theorem m21 {x : Nat} (hS : bS b p a m0 m) (hQ : aQ a) (h14 : a 14 + 17 < 2147483648) (g : ∀ m', bS b p (mLp a) m0 m' → gFin1 sc Q frs 21 0 m') : gFin sc Q frs 21 0 [bR b 0, x] [] m := by
  have h17 := hS.2.1.2.1.2
  refine h_ldr (w := 259) (pc2 := 1) (by decide +kernel) (by decide +kernel) rfl (bR_ref hS.2.1.2.2 (by omega)) ?_
  refine s_getHr (w := 43521458633616641242432278) (pc2 := 4) (by decide +kernel) (c := 7) (k := 6) (by decide +kernel) hS.1 hS.2.1 (by decide) ?_
  refine s_getG (w := 191010297946981383223182102) (pc2 := 7) (by decide +kernel) (c := 1) (by decide +kernel) hS.1 hS.2.1 (v := (a 14)) rfl ?_
  refine h_sti (w := 65796) (pc2 := 8) (by decide +kernel) (n := 2) (by decide +kernel) rfl (hS.2.1.2.1.1 _) (ls2 := [bR b 0, (a 14)]) rfl ?_
  refine h_ldr (w := 259) (pc2 := 9) (by decide +kernel) (by decide +kernel) rfl (bR_ref hS.2.1.2.2 (by omega)) ?_
  refine h_con (w := 257) (pc2 := 10) (by decide +kernel) (v := 0) (by decide +kernel) ?_
  refine h_con (w := 281474977497601) (pc2 := 12) (by decide +kernel) (v := 12) (by decide +kernel) ?_
  refine h_con (w := 131329) (pc2 := 13) (by decide +kernel) (v := 2) (by decide +kernel) ?_
  refine h_cv (w := 194642258940909983129535269) (c := 22) (n := 3) (by decide +kernel) (by decide +kernel) rfl (zA_H hS) ⟨Nat.le_of_ble_eq_true rfl, Nat.le_of_ble_eq_true rfl⟩ (show ∀ c ∈ [2, 12, 0, bR b 0], c < 8589934592 from zl_c (zlo (by decide)) (zl_c (zlo (by decide)) (zl_c (zlo (by decide)) (zl_c (bR_ref hS.2.1.2.2 (by omega)).2 zl_n)))) (st2 := []) rfl (l2 := [bR b 0, 0, 12, 2, 1099511627776, 1099511627776, 1099511627776]) (by show (List.take 4 _).reverse ++ List.replicate (zMaxL 22 - 4) _ = _; rw [show zMaxL 22 = 7 by decide +kernel]; rfl) ?_
  refine m22 hS (by decide) (by decide) (by decide) hQ (by omega) (fun m1 hS1 => (gF_0 (by decide +kernel) ?_))
  refine h_ldr (w := 259) (pc2 := 17) (by decide +kernel) (by decide +kernel) rfl (bR_ref hS1.2.1.2.2 (by omega)) ?_
  refine h_con (w := 65793) (pc2 := 18) (by decide +kernel) (v := 1) (by decide +kernel) ?_
  refine h_ldr (w := 259) (pc2 := 19) (by decide +kernel) (by decide +kernel) rfl (bR_ref hS1.2.1.2.2 (by omega)) ?_
  refine s_getHr (w := 43521458633616641242432278) (pc2 := 22) (by decide +kernel) (c := 7) (k := 6) (by decide +kernel) hS1.1 hS1.2.1 (by decide) ?_
  refine s_getG (w := 191010297946981383223182102) (pc2 := 25) (by decide +kernel) (c := 1) (by decide +kernel) hS1.1 hS1.2.1 (v := ((mLp1 a) 14)) rfl ?_
  refine h_ldi (w := 65794) (pc2 := 26) (by decide +kernel) (by decide +kernel) rfl (hS.2.1.2.1.1 _) ?_
  have go : ∀ fd, fd = i1 (zlt (a 14) (mLp1 a 14)) → gFin sc Q frs 21 34 [bR b 0, (a 14)] [fd, 1, bR b 0] m1 := by
    intro fd ef
    have hfd : fd < 2 := by rw [ef]; exact i1_lt
    refine h_cv (w := 198269608248538680673108773) (c := 23) (n := 2) (by decide +kernel) (by decide +kernel) rfl (zA_H hS1) ⟨Nat.le_of_ble_eq_true rfl, Nat.le_of_ble_eq_true rfl⟩ (show ∀ c ∈ [fd, 1, bR b 0], c < 8589934592 from zl_c (zlo (by omega)) (zl_c (zlo (by decide)) (zl_c (bR_ref hS1.2.1.2.2 (by omega)).2 zl_n))) (st2 := []) rfl (l2 := [bR b 0, 1, fd]) (by show (List.take 3 _).reverse ++ List.replicate (zMaxL 23 - 3) _ = _; rw [show zMaxL 23 = 3 by decide +kernel]; rfl) ?_
    refine m23 hS1 (by decide) hfd (fun m2 hS2 => (gF_0 (by decide +kernel) ?_))
    rw [ef] at hS2
    exact h_ret0 (w := 302) (by decide +kernel) (by decide +kernel) (g _ hS2)
  cases c0 : zlt (a 14) (mLp1 a 14)
  · rw [c0] at go
    refine h_icmp (w := 1407374885716754) (pc2 := 33) (by decide +kernel) (b := true) (by decide +kernel) (hS1.2.1.2.1.1 _) (hS.2.1.2.1.1 _) (cmp5_t c0) ?_
    refine h_con (w := 257) (pc2 := 34) (by decide +kernel) (v := 0) (by decide +kernel) ?_
    exact go 0 rfl
  · rw [c0] at go
    refine h_icmp (w := 1407374885716754) (pc2 := 29) (by decide +kernel) (b := false) (by decide +kernel) (hS1.2.1.2.1.1 _) (hS.2.1.2.1.1 _) (cmp5_f c0) ?_
    refine h_con (w := 65793) (pc2 := 30) (by decide +kernel) (v := 1) (by decide +kernel) ?_
    refine h_goto (w := 2229011) (pc2 := 34) (by decide +kernel) (by decide +kernel) ?_
    exact go 1 rfl
end BG
