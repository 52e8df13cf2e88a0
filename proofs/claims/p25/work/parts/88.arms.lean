/-! ===== an arm is added, an arm is taken out (printed by wip/gen/m88.py) ===== -/
section BK
variable {sc : List Nat} {Q : Nat → zM → Prop} {frs : gCf} {i pc w pc2 : Nat} {ls st : List Nat} {m m0 : zM} {b : Nat} {p a : Nat → Nat}
theorem zIsC_f32 {w : Nat} (h : zop w = 32 ∨ zop w = 31) : zIsC w = false := by
  unfold zIsC
  rcases h with h | h <;> rw [h] <;> rfl
theorem h_len {r kd n : Nat} {f : Nat → Nat} (hw : zI i pc = w) (ho : zop w = 32 ∧ pc + 1 = pc2) (hz : zAt m r = some (kd, n, f)) (hk : 7 ≤ kd ∧ kd ≤ 11) (hn : n < 2147483648) (g : gFin sc Q frs i pc2 ls (n :: st) m) : gFin sc Q frs i pc ls (r :: st) m := by
  subst hw
  obtain ⟨h1, rfl⟩ := ho
  have h0 : ¬ r = 8589934595 := by have := zAt_lt hz; omega
  have h2 : 7 ≤ kd ∧ kd ≤ 11 ∧ n < 2147483648 := ⟨hk.1, hk.2, hn⟩
  exact gFin_step (zIsC_f32 (Or.inl h1)) (by simp only [zOne, h1, ↓reduceIte, Nat.reduceEqDiff, or_self, hz, zNx, if_neg h0, if_pos h2]) g
theorem h_aast {r kd n j v kv nv : Nat} {f fv : Nat → Nat} {m2 : zM} (hw : zI i pc = w) (ho : zop w = 31 ∧ pc + 1 = pc2) (hz : zAt m r = some (kd, n, f)) (hv : zAt m v = some (kv, nv, fv)) (hk : 9 ≤ kd ∧ kd ≤ 11) (hj : j < n) (hn : n < 2147483648) (he : kv = zEl kd) (hm : m.set (r - 4294967297) (kd, n, zUp f j v) = m2) (g : gFin sc Q frs i pc2 ls st m2) : gFin sc Q frs i pc ls (v :: j :: r :: st) m := by
  subst hw
  subst hm
  obtain ⟨h1, rfl⟩ := ho
  have h2 : (9 ≤ kd ∧ kd ≤ 11 ∧ j < n ∧ n < 2147483648) ∧ kv = zEl kd := ⟨⟨hk.1, hk.2, hj, hn⟩, he⟩
  exact gFin_step (zIsC_f32 (Or.inr h1)) (by simp only [zOne, h1, ↓reduceIte, Nat.reduceEqDiff, or_self, hz, hv, zNx, if_pos h2]) g
theorem zset_id {l : zM} {k : Nat} {x : Nat × Nat × (Nat → Nat)} (h : l[k]? = some x) : l.set k x = l := by
  apply List.ext_getElem?
  intro j
  by_cases e : j = k
  · subst e
    rw [List.getElem?_set_self (List.getElem?_eq_some_iff.mp h).1, h]
  · rw [List.getElem?_set_ne (Ne.symm e)]
/-- a field of an arm that isn't counted -/
theorem s_putS {c n v : Nat} {f : Nat → Nat} (hw : zI i pc = w) (ho : ((zop w = 23 ∧ pc + 3 = pc2) ∧ zb w = 0) ∧ zc w = c ∧ c < 8) (hS : bS b p a m0 m) (hn : a 1 ≤ n ∧ n < 17) (hf : m[b + (8 + p n)]? = some (0, 8, f)) (hv : v < 4294967296) (hv2 : c = 4 → v < 2) (g : ∀ m', bS b p a m0 m' → m'[b + (8 + p n)]? = some (0, 8, zUp f c v) → gFin sc Q frs i pc2 ls st m') : gFin sc Q frs i pc ls (v :: bR b (8 + p n) :: st) m := by
  have hp := hS.2.1.1.1 n hn.2
  have h17 := hS.2.1.2.1.2
  obtain ⟨⟨h3, h4⟩, rfl, h5⟩ := ho
  obtain ⟨k1, k2⟩ := kA_o hp
  have hz : zAt m (bR b (8 + p n)) = some (0, 8, f) := by rw [zAt_b hS.2.1.2.2 (by omega), hf]
  have hk : zOkV (zTag (zTy (zb w) (zc w))) v = true := by
    rw [h4]
    rcases (show zc w = 0 ∨ zc w = 1 ∨ zc w = 2 ∨ zc w = 3 ∨ zc w = 4 ∨ zc w = 5 ∨ zc w = 6 ∨ zc w = 7 by omega) with e | e | e | e | e | e | e | e <;> rw [e] <;> first | exact decide_eq_true hv | exact decide_eq_true (hv2 e)
  refine h_put hw ⟨h3, h4.symm, h5⟩ hk hz rfl (g _ ?_ ?_)
  · rw [bR_sub]
    have hs := bS_set0 (o := 8 + p n) (j := zc w) (v := v) (f := f) hS (by omega) (by rw [hf, k1, k2]) (by
      unfold bV
      rw [if_neg (by omega), if_neg (by omega), if_neg (by omega), if_neg (by omega), if_neg (by omega), if_neg (by omega), if_neg (by omega), if_neg (by omega), if_pos (by omega)]
      refine ⟨hv, fun k hk1 hk2 => ?_⟩
      have e := hS.2.1.1.2 k n (by omega) hn.2 (by omega)
      omega)
    rw [k1, k2] at hs
    exact hs
  · rw [bR_sub]
    exact List.getElem?_set_self (List.getElem?_eq_some_iff.mp hf).1
/-- what slots stand for, if the numbers that they stand for are the same -/
theorem bV_Y {p' a' : Nat → Nat} {o j v : Nat} (hE : ∀ y, y ≠ 1 → (y < 100 ∨ 300 ≤ y) → a' y = a y) (ho : o < 61) (hj : j < bLn o) (h0 : o ≠ 0) (h1 : o ≠ 1) (ha : o < 8 ∨ 25 ≤ o) (h : bV b p a o j v) : bV b p' a' o j v := by
  obtain ⟨l0, l3, l4, l5, l6, la, ll, lw⟩ := bLn_b ho hj
  unfold bV at h ⊢
  rw [if_neg h0] at h ⊢
  rw [if_neg h1] at h ⊢
  by_cases e2 : o = 2
  · rw [if_pos e2] at h ⊢
    exact h
  rw [if_neg e2] at h ⊢
  by_cases e3 : o = 3
  · rw [if_pos e3] at h ⊢
    have := l3 e3
    rw [h, hE _ (by omega) (by omega)]
  rw [if_neg e3] at h ⊢
  by_cases e4 : o = 4
  · rw [if_pos e4] at h ⊢
    have := l4 e4
    rw [h, hE _ (by omega) (by omega)]
  rw [if_neg e4] at h ⊢
  by_cases e5 : o = 5
  · rw [if_pos e5] at h ⊢
    have := l5 e5
    rw [h, hE _ (by omega) (by omega)]
  rw [if_neg e5] at h ⊢
  by_cases e6 : o = 6
  · rw [if_pos e6] at h ⊢
    rw [h]
    by_cases q0 : j = 0
    · rw [if_pos q0, if_pos q0]
    · rw [if_neg q0, if_neg q0, hE _ (by omega) (by omega)]
  rw [if_neg e6] at h ⊢
  by_cases e7 : o = 7
  · rw [if_pos e7] at h ⊢
    exact h
  rw [if_neg e7] at h ⊢
  rw [if_neg (by omega)] at h ⊢
  by_cases e9 : (o - 25) % 3 = 0
  · rw [if_pos e9] at h ⊢
    have := ll (by omega) e9
    rw [h]
    by_cases q0 : j = 0
    · rw [if_pos q0, if_pos q0]
    rw [if_neg q0, if_neg q0]
    by_cases q1 : j = 1
    · rw [if_pos q1, if_pos q1]
    · rw [if_neg q1, if_neg q1, hE _ (by omega) (by omega)]
  rw [if_neg e9] at h ⊢
  have := lw (by omega) e9
  by_cases e10 : (o - 25) % 3 = 1
  · rw [if_pos e10] at h ⊢
    rw [h, hE _ (by omega) (by omega)]
  rw [if_neg e10] at h ⊢
  exact h
/-- the arms are counted and set out anew -/
theorem bS_re {m' : zM} {p' a' : Nat → Nat} (hS : bS b p a m0 m) (hfr : bFr b m m') (hc : ∀ o, o < 61 → o ≠ 0 → o ≠ 1 → m'[b + o]? = m[b + o]?) (h0 : ∃ f, m'[b + 0]? = some (1, 11, f) ∧ ∀ j, j < 11 → bV b p' a' 0 j (f j)) (h1 : ∃ f, m'[b + 1]? = some (9, 17, f) ∧ ∀ j, j < 17 → f j = bR b (8 + p' j)) (hp : (∀ i, i < 17 → p' i < 17) ∧ ∀ i k, i < 17 → k < 17 → p' i = p' k → i = k) (ha : ∀ y, a' y < 4294967296) (h17 : a' 1 ≤ 17) (hE : ∀ y, y ≠ 1 → (y < 100 ∨ 300 ≤ y) → a' y = a y) (hA : ∀ i, i < a' 1 → ∃ g, m[b + (8 + p' i)]? = some (0, 8, g) ∧ ∀ k, k < 8 → g k = a' (100 + 8 * i + k)) : bS b p' a' m0 m' := by
  refine ⟨fun o ho => ?_, ⟨hp, ⟨ha, h17⟩, hS.2.1.2.2⟩, hfr.1.trans hS.2.2.1, fun k hk => (hfr.2 k hk).trans (hS.2.2.2 k hk)⟩
  by_cases e0 : o = 0
  · subst e0
    exact h0
  by_cases e1 : o = 1
  · subst e1
    obtain ⟨f, z1, z2⟩ := h1
    refine ⟨f, z1, fun j hj => ?_⟩
    unfold bV
    rw [if_neg (by decide), if_pos rfl]
    exact z2 j hj
  obtain ⟨f, z1, z2⟩ := hS.1 o ho
  refine ⟨f, (hc o ho e0 e1).trans z1, fun j hj => ?_⟩
  by_cases e2 : o < 8 ∨ 25 ≤ o
  · exact bV_Y hE ho hj e0 e1 e2 (z2 j hj)
  have z3 := z2 j hj
  have lj := (bLn_b ho hj).2.2.2.2.2.1 (by omega) (by omega)
  unfold bV at z3 ⊢
  rw [if_neg (by omega), if_neg (by omega), if_neg (by omega), if_neg (by omega), if_neg (by omega), if_neg (by omega), if_neg (by omega), if_neg (by omega), if_pos (by omega)] at z3 ⊢
  refine ⟨z3.1, fun i hi hpi => ?_⟩
  obtain ⟨g, g1, g2⟩ := hA i hi
  rw [hpi, z1] at g1
  have g3 : f = g := (Prod.mk.inj (Prod.mk.inj (Option.some.inj g1)).2).2
  rw [g3]
  exact g2 j lj
/-- an arm's cell -/
theorem bS_arm {k : Nat} (hS : bS b p a m0 m) (hk : k < a 1) : ∃ g, m[b + (8 + p k)]? = some (0, 8, g) ∧ ∀ c, c < 8 → g c = a (100 + 8 * k + c) := by
  have h17 := hS.2.1.2.1.2
  have hp := hS.2.1.1.1 k (by omega)
  obtain ⟨f, z1, z2⟩ := hS.1 (8 + p k) (by omega)
  rw [(kA_o hp).1, (kA_o hp).2] at z1
  rw [(kA_o hp).2] at z2
  exact ⟨f, z1, fun c hc => bA_ok (z2 c hc) hp hk⟩
end BK
section BG
variable {sc : List Nat} {Q : Nat → zM → Prop} {frs : gCf} {m m0 : zM} {b : Nat} {p a : Nat → Nat}
def mBg (a : Nat → Nat) (n h t : Nat) : Nat → Nat := fun y => if 100 + 8 * n ≤ y ∧ y < 108 + 8 * n then (if y ≤ 101 + 8 * n then h else if y = 104 + 8 * n then t else 0) else a y
def mAd (a : Nat → Nat) (h t : Nat) : Nat → Nat := bU (mBg a (a 1) h t) 1 (inc1 (a 1))
theorem mAd_d {n h t : Nat} (e : n = a 1) : mAd a h t = bU (mBg a n h t) 1 (inc1 n) := by rw [e]; rfl
theorem m1 {n h t : Nat} (hS : bS b p a m0 m) (hn : a 1 ≤ n ∧ n < 17) (hh : h < 4294967296) (ht : t < 2) (g : ∀ m' f, bS b p a m0 m' → m'[b + (8 + p n)]? = some (0, 8, f) → (∀ c, c < 8 → f c = mBg a n h t (100 + 8 * n + c)) → gFin1 sc Q frs 1 0 m') : gFin sc Q frs 1 0 [bR b (8 + p n), h, t] [] m := by
  have hp := hS.2.1.1.1 n hn.2
  obtain ⟨f0, z0, -⟩ := hS.1 (8 + p n) (by omega)
  rw [(kA_o hp).1, (kA_o hp).2] at z0
  refine h_ldr (w := 259) (pc2 := 1) (by decide +kernel) (by decide +kernel) rfl (bR_ref hS.2.1.2.2 (by omega)) ?_
  refine h_ldi (w := 65794) (pc2 := 2) (by decide +kernel) (by decide +kernel) rfl hh ?_
  refine s_putS (w := 10880332376531662576419607) (pc2 := 5) (by decide +kernel) (c := 0) (by decide +kernel) hS hn z0 hh (fun h => absurd h (by decide)) ?_
  intro m1 hS1 z1
  refine h_ldr (w := 259) (pc2 := 6) (by decide +kernel) (by decide +kernel) rfl (bR_ref hS1.2.1.2.2 (by omega)) ?_
  refine h_ldi (w := 65794) (pc2 := 7) (by decide +kernel) (by decide +kernel) rfl hh ?_
  refine s_putS (w := 18133905740963511334404887) (pc2 := 10) (by decide +kernel) (c := 1) (by decide +kernel) hS1 hn z1 hh (fun h => absurd h (by decide)) ?_
  intro m2 hS2 z2
  refine h_ldr (w := 259) (pc2 := 11) (by decide +kernel) (by decide +kernel) rfl (bR_ref hS2.2.1.2.2 (by omega)) ?_
  refine h_con (w := 257) (pc2 := 12) (by decide +kernel) (v := 0) (by decide +kernel) ?_
  refine s_putS (w := 21760701646551472568271639) (pc2 := 15) (by decide +kernel) (c := 2) (by decide +kernel) hS2 hn z2 (by decide) (fun h => absurd h (by decide)) ?_
  intro m3 hS3 z3
  refine h_ldr (w := 259) (pc2 := 16) (by decide +kernel) (by decide +kernel) rfl (bR_ref hS3.2.1.2.2 (by omega)) ?_
  refine h_con (w := 257) (pc2 := 17) (by decide +kernel) (v := 0) (by decide +kernel) ?_
  refine s_putS (w := 25387497552139433802138391) (pc2 := 20) (by decide +kernel) (c := 3) (by decide +kernel) hS3 hn z3 (by decide) (fun h => absurd h (by decide)) ?_
  intro m4 hS4 z4
  refine h_ldr (w := 259) (pc2 := 21) (by decide +kernel) (by decide +kernel) rfl (bR_ref hS4.2.1.2.2 (by omega)) ?_
  refine h_ldi (w := 131330) (pc2 := 22) (by decide +kernel) (by decide +kernel) rfl (by omega) ?_
  refine s_putS (w := 29014293457727395036005143) (pc2 := 25) (by decide +kernel) (c := 4) (by decide +kernel) hS4 hn z4 (by omega) (fun _ => ht) ?_
  intro m5 hS5 z5
  refine h_ldr (w := 259) (pc2 := 26) (by decide +kernel) (by decide +kernel) rfl (bR_ref hS5.2.1.2.2 (by omega)) ?_
  refine h_con (w := 257) (pc2 := 27) (by decide +kernel) (v := 0) (by decide +kernel) ?_
  refine s_putS (w := 33850015182929985444578071) (pc2 := 30) (by decide +kernel) (c := 5) (by decide +kernel) hS5 hn z5 (by decide) (fun h => absurd h (by decide)) ?_
  intro m6 hS6 z6
  refine h_ldr (w := 259) (pc2 := 31) (by decide +kernel) (by decide +kernel) rfl (bR_ref hS6.2.1.2.2 (by omega)) ?_
  refine h_con (w := 257) (pc2 := 32) (by decide +kernel) (v := 0) (by decide +kernel) ?_
  refine s_putS (w := 37476811088517946678444823) (pc2 := 35) (by decide +kernel) (c := 6) (by decide +kernel) hS6 hn z6 (by decide) (fun h => absurd h (by decide)) ?_
  intro m7 hS7 z7
  refine h_ldr (w := 259) (pc2 := 36) (by decide +kernel) (by decide +kernel) rfl (bR_ref hS7.2.1.2.2 (by omega)) ?_
  refine h_con (w := 257) (pc2 := 37) (by decide +kernel) (v := 0) (by decide +kernel) ?_
  refine s_putS (w := 41103606994105907912246039) (pc2 := 40) (by decide +kernel) (c := 7) (by decide +kernel) hS7 hn z7 (by decide) (fun h => absurd h (by decide)) ?_
  intro m8 hS8 z8
  refine h_ret0 (w := 302) (by decide +kernel) (by decide +kernel) (g _ _ hS8 z8 (fun c hc => ?_))
  unfold mBg
  rw [if_pos (by omega)]
  rcases (show c = 0 ∨ c = 1 ∨ c = 2 ∨ c = 3 ∨ c = 4 ∨ c = 5 ∨ c = 6 ∨ c = 7 by omega) with rfl | rfl | rfl | rfl | rfl | rfl | rfl | rfl
  · rw [if_pos (by omega)]; rfl
  · rw [if_pos (by omega)]; rfl
  · rw [if_neg (by omega), if_neg (by omega)]; rfl
  · rw [if_neg (by omega), if_neg (by omega)]; rfl
  · rw [if_neg (by omega), if_pos (by omega)]; rfl
  · rw [if_neg (by omega), if_neg (by omega)]; rfl
  · rw [if_neg (by omega), if_neg (by omega)]; rfl
  · rw [if_neg (by omega), if_neg (by omega)]; rfl
theorem m9 {h t : Nat} (hS : bS b p a m0 m) (hn : a 1 < 17) (hh : h < 4294967296) (ht : t < 2) (g : ∀ m', bS b p (mAd a h t) m0 m' → gFin1 sc Q frs 9 0 m') : gFin sc Q frs 9 0 [bR b 0, h, t] [] m := by
  obtain ⟨n, en⟩ : ∃ n, n = a 1 := ⟨_, rfl⟩
  have hn1 : n < 17 := by omega
  have hp := hS.2.1.1.1 n hn1
  obtain ⟨f1, z1, -⟩ := bM_at (o := 1) hS.1 hS.2.1.2.2 (by decide)
  have z1 : zAt m (bR b 1) = some (9, 17, f1) := z1
  refine h_ldr (w := 259) (pc2 := 1) (by decide +kernel) (by decide +kernel) rfl (bR_ref hS.2.1.2.2 (by omega)) ?_
  refine s_getHx (w := 59237383608142378255516438) (pc2 := 4) (by decide +kernel) (c := 1) (x := 1) (by decide +kernel) hS.1 hS.2.1 (by decide) ?_
  rw [← en]
  refine h_ldr (w := 259) (pc2 := 5) (by decide +kernel) (by decide +kernel) rfl (bR_ref hS.2.1.2.2 (by omega)) ?_
  refine s_getHr (w := 13298220909530543326364438) (pc2 := 8) (by decide +kernel) (c := 2) (k := 1) (by decide +kernel) hS.1 hS.2.1 (by decide) ?_
  refine h_len (w := 288) (pc2 := 9) (by decide +kernel) (by decide +kernel) z1 (by decide) (by decide) ?_
  refine h_icmp (w := 844424932492050) (pc2 := 12) (by decide +kernel) (b := false) (by decide +kernel) (by omega) (by decide) (zc_ge_f (by omega) (by omega) (by omega)) ?_
  refine h_ldr (w := 259) (pc2 := 13) (by decide +kernel) (by decide +kernel) rfl (bR_ref hS.2.1.2.2 (by omega)) ?_
  refine s_getHr (w := 13298220909530543326364438) (pc2 := 16) (by decide +kernel) (c := 2) (k := 1) (by decide +kernel) hS.1 hS.2.1 (by decide) ?_
  refine h_ldr (w := 259) (pc2 := 17) (by decide +kernel) (by decide +kernel) rfl (bR_ref hS.2.1.2.2 (by omega)) ?_
  refine s_getHx (w := 59237383608142378255516438) (pc2 := 20) (by decide +kernel) (c := 1) (x := 1) (by decide +kernel) hS.1 hS.2.1 (by decide) ?_
  rw [← en]
  refine s_aldA (w := 286) (pc2 := 21) (by decide +kernel) (by decide +kernel) hS.1 hS.2.1 (by omega) ?_
  refine h_ldi (w := 65794) (pc2 := 22) (by decide +kernel) (by decide +kernel) rfl hh ?_
  refine h_ldi (w := 131330) (pc2 := 23) (by decide +kernel) (by decide +kernel) rfl (by omega) ?_
  refine h_cv (w := 93094980403449608265597733) (c := 1) (n := 2) (by decide +kernel) (by decide +kernel) rfl (zA_A hS (by omega)) ⟨Nat.le_of_ble_eq_true rfl, Nat.le_of_ble_eq_true rfl⟩ (show ∀ c ∈ [t, h, (bR b (8 + p n))], c < 8589934592 from zl_c (zlo (by omega)) (zl_c (zlo hh) (zl_c (bR_ref hS.2.1.2.2 (by omega)).2 zl_n))) (st2 := []) rfl (l2 := [(bR b (8 + p n)), h, t]) (by show (List.take 3 _).reverse ++ List.replicate (zMaxL 1 - 3) _ = _; rw [show zMaxL 1 = 3 by decide +kernel]; rfl) ?_
  refine m1 hS (by omega) hh ht (fun m1 f hS1 z2 hf => gF_0 (by decide +kernel) ?_)
  refine h_ldr (w := 259) (pc2 := 27) (by decide +kernel) (by decide +kernel) rfl (bR_ref hS1.2.1.2.2 (by omega)) ?_
  refine h_dup (w := 270) (pc2 := 28) (by decide +kernel) (by decide +kernel) (bR_ref hS1.2.1.2.2 (by omega)).2 ?_
  refine s_getHx (w := 59237383608142378255516438) (pc2 := 31) (by decide +kernel) (c := 1) (x := 1) (by decide +kernel) hS1.1 hS1.2.1 (by decide) ?_
  rw [← en]
  refine h_con (w := 65793) (pc2 := 32) (by decide +kernel) (v := 1) (by decide +kernel) ?_
  refine h_add (w := 263) (pc2 := 33) (by decide +kernel) (by decide +kernel) (by omega) (by decide) (c := (inc1 n)) inc1_eq ?_
  obtain ⟨f3, z3, z4⟩ := hS1.1 0 (by decide)
  have ei : inc1 n = n + 1 := Nat.mod_eq_of_lt (by omega)
  have z5 : zAt m1 (bR b 0) = some (1, 11, f3) := by rw [zAt_b hS1.2.1.2.2 (by decide)]; exact z3
  refine h_put (w := 59237383608142378255516439) (pc2 := 36) (by decide +kernel) ⟨by decide +kernel, by decide +kernel, by decide +kernel⟩ (by rw [ei]; exact decide_eq_true (show n + 1 < 4294967296 by omega)) z5 rfl ?_
  refine h_ret0 (w := 302) (by decide +kernel) (by decide +kernel) (g _ ?_)
  rw [bR_sub, show zc 59237383608142378255516439 = 1 by decide +kernel]
  have e1 : mAd a h t 1 = n + 1 := by rw [mAd_d en, bU_s, ei]
  have hl := (List.getElem?_eq_some_iff.mp z3).1
  refine bS_re (p' := p) hS1 (bFr_set bFr_rf (by decide)) (fun o ho h0 h1 => List.getElem?_set_ne (by omega)) ⟨_, List.getElem?_set_self hl, fun j hj => ?_⟩ ?_ hS1.2.1.1 (fun y => ?_) (by rw [e1]; omega) (fun y hy hy2 => ?_) (fun i hi => ?_)
  · have z6 := z4 j hj
    unfold bV at z6 ⊢
    rw [if_pos rfl] at z6 ⊢
    by_cases q1 : j = 1
    · subst q1
      rw [if_neg (by decide), if_pos rfl, e1, ei]
      rfl
    · rw [show zUp f3 1 (inc1 n) j = f3 j from if_neg q1, z6]
      have ew : ∀ y, y ≠ 1 → y < 100 → mAd a h t y = a y := fun y hy hy2 => by
        rw [mAd_d en, bU_n hy]
        exact if_neg (by omega)
      rw [ew 0 (by decide) (by decide), if_neg q1, if_neg q1]
      by_cases q2 : j ≤ 7
      · rw [if_pos q2, if_pos q2]
      · rw [if_neg q2, if_neg q2, ew _ (by omega) (by omega)]
  · obtain ⟨f6, z6, z7⟩ := hS1.1 1 (by decide)
    refine ⟨f6, by rw [List.getElem?_set_ne (by omega)]; exact z6, fun j hj => ?_⟩
    have z8 := z7 j hj
    unfold bV at z8
    rw [if_neg (by decide), if_pos rfl] at z8
    exact z8
  · rw [mAd_d en]
    by_cases q1 : y = 1
    · rw [q1, bU_s]
      exact inc1_lt
    · rw [bU_n q1]
      unfold mBg
      split
      · split
        · exact hh
        · split
          · omega
          · decide
      · exact hS.2.1.2.1.1 _
  · rw [mAd_d en, bU_n hy]
    exact if_neg (by omega)
  · rw [e1] at hi
    by_cases q1 : i = n
    · rw [q1]
      refine ⟨f, z2, fun c hc => ?_⟩
      rw [hf c hc, mAd_d en, bU_n (by omega)]
    · obtain ⟨g2, g3, g4⟩ := bS_arm hS1 (k := i) (by omega)
      refine ⟨g2, g3, fun c hc => ?_⟩
      rw [g4 c hc, mAd_d en, bU_n (by omega)]
      exact (if_neg (by omega)).symm
/-- an arm is taken out -/
def mRm (a : Nat → Nat) (k : Nat) : Nat → Nat := fun y => if y = 1 then dec1 (a 1) else if 100 ≤ y ∧ y < 300 then a (if y < 100 + 8 * k then y else y + 8) else a y
def sRo (k n j : Nat) : Nat := if j = n then k else if k ≤ j ∧ j < n then j + 1 else j
theorem m10_loop {M : zM} {f0 F0 : Nat → Nat} {k n u v : Nat} (hb : b < 100000) (hz0 : M[b + 0]? = some (1, 11, f0)) (h01 : f0 1 = n) (h02 : f0 2 = bR b 1) (hz1 : M[b + 1]? = some (9, 17, F0)) (hn : n < 17) (hA : ∀ j, j < 17 → ∃ x f, zAt M (F0 j) = some (0, x, f)) (hF : ∀ j, j < 17 → F0 j ≠ bR b 1) (hR : ∀ j, j < 17 → 4294967296 < F0 j ∧ F0 j < 8589934592) (g : ∀ F : Nat → Nat, (∀ j, F j = if k ≤ j ∧ j < n then F0 (j + 1) else F0 j) → gFin sc Q frs 10 102 [bR b 0, k, u, v, n] [] (M.set (b + 1) (9, 17, F))) : ∀ (d i : Nat) (F : Nat → Nat), i + d = n → k ≤ i → (∀ j, F j = if k ≤ j ∧ j < i then F0 (j + 1) else F0 j) → gFin sc Q frs 10 71 [bR b 0, k, u, v, i] [] (M.set (b + 1) (9, 17, F)) := by
  have hl := (List.getElem?_eq_some_iff.mp hz1).1
  have y0 : ∀ F : Nat → Nat, zAt (M.set (b + 1) (9, 17, F)) (bR b 0) = some (1, 11, f0) := fun F => by
    rw [zAt_b hb (by decide), List.getElem?_set_ne (by omega)]
    exact hz0
  have y1 : ∀ F : Nat → Nat, zAt (M.set (b + 1) (9, 17, F)) (bR b 1) = some (9, 17, F) := fun F => by
    rw [zAt_b hb (by decide)]
    exact List.getElem?_set_self hl
  have r0 := bR_ref (o := 0) hb (by decide)
  have r1 := bR_ref (o := 1) hb (by decide)
  intro d
  induction d with
  | zero =>
    intro i F hi hk hE
    rw [show i = n by omega] at hE ⊢
    refine h_ldi (w := 281474976973314) (pc2 := 73) (by decide +kernel) (by decide +kernel) rfl (by omega) ?_
    refine h_ldr (w := 259) (pc2 := 74) (by decide +kernel) (by decide +kernel) rfl r0 ?_
    refine h_get (w := 59237383608142378255516438) (pc2 := 77) (by decide +kernel) (by decide +kernel) (y0 F) (v := n) h01 ?_
    refine h_icmp (w := 844424936817426) (pc2 := 102) (by decide +kernel) (b := true) (by decide +kernel) (by omega) (by omega) (zc_ge_t (by omega) (by omega) (by omega)) ?_
    exact g F hE
  | succ d IH =>
    intro i F hi hk hE
    have hl17 : (M.set (b + 1) (9, 17, F)).length = M.length := List.length_set
    refine h_ldi (w := 281474976973314) (pc2 := 73) (by decide +kernel) (by decide +kernel) rfl (by omega) ?_
    refine h_ldr (w := 259) (pc2 := 74) (by decide +kernel) (by decide +kernel) rfl r0 ?_
    refine h_get (w := 59237383608142378255516438) (pc2 := 77) (by decide +kernel) (by decide +kernel) (y0 F) (v := n) h01 ?_
    refine h_icmp (w := 844424936817426) (pc2 := 80) (by decide +kernel) (b := false) (by decide +kernel) (by omega) (by omega) (zc_ge_f (by omega) (by omega) (by omega)) ?_
    refine h_ldr (w := 259) (pc2 := 81) (by decide +kernel) (by decide +kernel) rfl r0 ?_
    refine h_get (w := 13298220909530543326364438) (pc2 := 84) (by decide +kernel) (by decide +kernel) (y0 F) (v := (bR b 1)) h02 ?_
    refine h_ldi (w := 281474976973314) (pc2 := 86) (by decide +kernel) (by decide +kernel) rfl (by omega) ?_
    refine h_ldr (w := 259) (pc2 := 87) (by decide +kernel) (by decide +kernel) rfl r0 ?_
    refine h_get (w := 13298220909530543326364438) (pc2 := 90) (by decide +kernel) (by decide +kernel) (y0 F) (v := (bR b 1)) h02 ?_
    refine h_ldi (w := 281474976973314) (pc2 := 92) (by decide +kernel) (by decide +kernel) rfl (by omega) ?_
    refine h_con (w := 65793) (pc2 := 93) (by decide +kernel) (v := 1) (by decide +kernel) ?_
    refine h_add (w := 263) (pc2 := 94) (by decide +kernel) (by decide +kernel) (by omega) (by decide) (c := (i + 1)) (Nat.mod_eq_of_lt (by omega)) ?_
    have ef : F (i + 1) = F0 (i + 1) := by rw [hE, if_neg (by omega)]
    refine h_aald (w := 286) (pc2 := 95) (by decide +kernel) (by decide +kernel) (y1 F) ⟨by decide, by decide⟩ (by omega) (by decide) ef ?_
    obtain ⟨x, f, zx⟩ := hA (i + 1) (by omega)
    have zy : zAt (M.set (b + 1) (9, 17, F)) (F0 (i + 1)) = some (0, x, f) := by
      have h3 := hF (i + 1) (by omega)
      have h4 := hR (i + 1) (by omega)
      unfold zAt at zx ⊢
      rw [if_pos h4] at zx ⊢
      unfold bR at h3
      rw [List.getElem?_set_ne (by omega)]
      exact zx
    refine h_aast (w := 287) (pc2 := 96) (by decide +kernel) (by decide +kernel) (y1 F) zy ⟨by decide, by decide⟩ (by omega) (by decide) rfl (m2 := M.set (b + 1) (9, 17, zUp F i (F0 (i + 1)))) (by rw [bR_sub, List.set_set]) ?_
    refine h_inc (w := 1125899906908934) (pc2 := 99) (by decide +kernel) (by decide +kernel) rfl (by omega) (c2 := (i + 1)) (by show (_ + 1) % 4294967296 = _; omega) (ls2 := [bR b 0, k, u, v, (i + 1)]) rfl ?_
    refine h_goto (w := 4653843) (pc2 := 71) (by decide +kernel) (by decide +kernel) ?_
    refine IH (i + 1) _ (by omega) (by omega) (fun j => ?_)
    unfold zUp
    by_cases q : j = i
    · rw [if_pos q, if_pos (by omega), q]
    · rw [if_neg q, hE]
      by_cases q2 : k ≤ j ∧ j < i
      · rw [if_pos q2, if_pos (by omega)]
      · rw [if_neg q2, if_neg (by omega)]
theorem m10_end {k v z : Nat} (hS : bS b p a m0 m) (hk : k < a 1) (g : ∀ p' m', bS b p' (mRm a k) m0 m' → gFin1 sc Q frs 10 0 m') : gFin sc Q frs 10 58 [bR b 0, k, bR b (8 + p k), v, z] [] m := by
  have h17 := hS.2.1.2.1.2
  have hb := hS.2.1.2.2
  have hp := hS.2.1.1.1 k (by omega)
  obtain ⟨n, en⟩ : ∃ n, n = dec1 (a 1) := ⟨_, rfl⟩
  have en1 : n + 1 = a 1 := by
    have : dec1 (a 1) = (a 1 + 4294967296 - 1) % 4294967296 := rfl
    omega
  obtain ⟨f0, z0, w0⟩ := hS.1 0 (by decide)
  obtain ⟨f1, z1, w1⟩ := hS.1 1 (by decide)
  have r0 := bR_ref (o := 0) hb (by decide)
  have r1 := bR_ref (o := 1) hb (by decide)
  have rk := bR_ref (o := 8 + p k) hb (by omega)
  have e1 : ∀ j, j < 17 → f1 j = bR b (8 + p j) := fun j hj => by
    have h := w1 j hj
    unfold bV at h
    rw [if_neg (by decide), if_pos rfl] at h
    exact h
  have l0 := (List.getElem?_eq_some_iff.mp z0).1
  have l1 := (List.getElem?_eq_some_iff.mp z1).1
  have z2 : zAt m (bR b 0) = some (1, 11, f0) := by rw [zAt_b hb (by decide)]; exact z0
  refine h_ldr (w := 259) (pc2 := 59) (by decide +kernel) (by decide +kernel) rfl (bR_ref hS.2.1.2.2 (by omega)) ?_
  refine h_dup (w := 270) (pc2 := 60) (by decide +kernel) (by decide +kernel) (bR_ref hS.2.1.2.2 (by omega)).2 ?_
  refine s_getHx (w := 59237383608142378255516438) (pc2 := 63) (by decide +kernel) (c := 1) (x := 1) (by decide +kernel) hS.1 hS.2.1 (by decide) ?_
  refine h_con (w := 65793) (pc2 := 64) (by decide +kernel) (v := 1) (by decide +kernel) ?_
  refine h_sub (w := 264) (pc2 := 65) (by decide +kernel) (by decide +kernel) (hS.2.1.2.1.1 _) (by decide) (c := n) (dec1_eq.trans en.symm) ?_
  refine h_put (w := 59237383608142378255516439) (pc2 := 68) (by decide +kernel) ⟨by decide +kernel, by decide +kernel, by decide +kernel⟩ (decide_eq_true (show n < 4294967296 by omega)) z2 rfl ?_
  rw [bR_sub]
  obtain ⟨M, eM⟩ : ∃ M, M = m.set (b + 0) (1, 11, zUp f0 1 n) := ⟨_, rfl⟩
  rw [show zc 59237383608142378255516439 = 1 by decide +kernel, ← eM]
  have zM0 : M[b + 0]? = some (1, 11, zUp f0 1 n) := by rw [eM]; exact List.getElem?_set_self l0
  have zMo : ∀ o, o ≠ 0 → M[b + o]? = m[b + o]? := fun o ho => by rw [eM]; exact List.getElem?_set_ne (by omega)
  have zM1 : M[b + 1]? = some (9, 17, f1) := (zMo 1 (by decide)).trans z1
  have e2 : zUp f0 1 n 2 = bR b 1 := by
    have h := w0 2 (by decide)
    unfold bV at h
    rw [if_pos rfl, if_neg (by decide), if_neg (by decide), if_pos (by decide)] at h
    exact h
  have hM : M.length = m.length := by rw [eM]; exact List.length_set
  have hA : ∀ j, j < 17 → ∃ x f, zAt M (f1 j) = some (0, x, f) := fun j hj => by
    have hpj := hS.2.1.1.1 j hj
    obtain ⟨f, z, -⟩ := hS.1 (8 + p j) (by omega)
    rw [(kA_o hpj).1] at z
    exact ⟨_, f, by rw [e1 j hj, zAt_b hb (by omega), zMo _ (by omega)]; exact z⟩
  refine h_ldi (w := 65794) (pc2 := 69) (by decide +kernel) (by decide +kernel) rfl (by omega) ?_
  refine h_sti (w := 281474976973316) (pc2 := 71) (by decide +kernel) (n := 5) (by decide +kernel) rfl (by omega) (ls2 := [bR b 0, k, (bR b (8 + p k)), v, k]) rfl ?_
  rw [← zset_id zM1]
  refine m10_loop (n := n) (k := k) (F0 := f1) hb zM0 rfl e2 zM1 (by omega) hA (fun j hj => by rw [e1 j hj]; unfold bR; omega) (fun j hj => by rw [e1 j hj]; exact bR_ref hb (by have := hS.2.1.1.1 j hj; omega)) (fun F hF => ?_) (n - k) k f1 (by omega) (Nat.le_refl _) (fun j => by rw [if_neg (by omega)])
  have y0 : zAt (M.set (b + 1) (9, 17, F)) (bR b 0) = some (1, 11, zUp f0 1 n) := by
    rw [zAt_b hb (by decide), List.getElem?_set_ne (by omega)]
    exact zM0
  have y1 : zAt (M.set (b + 1) (9, 17, F)) (bR b 1) = some (9, 17, F) := by
    rw [zAt_b hb (by decide)]
    exact List.getElem?_set_self (by rw [hM]; exact l1)
  have yk : ∃ x f, zAt (M.set (b + 1) (9, 17, F)) (bR b (8 + p k)) = some (0, x, f) := by
    obtain ⟨x, f, h⟩ := hA k (by omega)
    rw [e1 k (by omega), zAt_b hb (by omega)] at h
    exact ⟨x, f, by rw [zAt_b hb (by omega), List.getElem?_set_ne (by omega)]; exact h⟩
  obtain ⟨x, f, yk⟩ := yk
  refine h_ldr (w := 259) (pc2 := 103) (by decide +kernel) (by decide +kernel) rfl r0 ?_
  refine h_get (w := 13298220909530543326364438) (pc2 := 106) (by decide +kernel) (by decide +kernel) y0 (v := (bR b 1)) e2 ?_
  refine h_ldr (w := 259) (pc2 := 107) (by decide +kernel) (by decide +kernel) rfl r0 ?_
  refine h_get (w := 59237383608142378255516438) (pc2 := 110) (by decide +kernel) (by decide +kernel) y0 (v := n) rfl ?_
  refine h_ldr (w := 131331) (pc2 := 111) (by decide +kernel) (by decide +kernel) rfl rk ?_
  refine h_aast (w := 287) (pc2 := 112) (by decide +kernel) (by decide +kernel) y1 yk ⟨by decide, by decide⟩ (by omega) (by decide) rfl (m2 := M.set (b + 1) (9, 17, zUp F n (bR b (8 + p k)))) (by rw [bR_sub, List.set_set]) ?_
  have en' : mRm a k 1 = n := by rw [en]; exact if_pos rfl
  refine h_ret0 (w := 302) (by decide +kernel) (by decide +kernel) (g (fun j => p (sRo k n j)) _ (bS_re hS ⟨by rw [List.length_set, hM], fun c hc => ?_⟩ (fun o ho h0 h1 => ?_) ⟨zUp f0 1 n, ?_, fun j hj => ?_⟩ ⟨zUp F n (bR b (8 + p k)), List.getElem?_set_self (by rw [hM]; exact l1), fun j hj => ?_⟩ ⟨fun j hj => hS.2.1.1.1 _ ?_, fun i j hi hj h => ?_⟩ (fun y => ?_) (by omega) (fun y hy hy2 => ?_) (fun i hi => ?_)))
  · rw [List.getElem?_set_ne (by omega), eM, List.getElem?_set_ne (by omega)]
  · rw [List.getElem?_set_ne (by omega)]
    exact zMo o h0
  · rw [List.getElem?_set_ne (by omega)]
    exact zM0
  · have z6 := w0 j hj
    unfold bV at z6 ⊢
    rw [if_pos rfl] at z6 ⊢
    by_cases q1 : j = 1
    · subst q1
      rw [if_neg (by decide), if_pos rfl, en']
      rfl
    · have ew : ∀ y, y ≠ 1 → y < 100 → mRm a k y = a y := fun y hy hy2 => by
        unfold mRm
        rw [if_neg hy, if_neg (by omega)]
      rw [show zUp f0 1 n j = f0 j from if_neg q1, z6, ew 0 (by decide) (by decide), if_neg q1, if_neg q1]
      by_cases q2 : j ≤ 7
      · rw [if_pos q2, if_pos q2]
      · rw [if_neg q2, if_neg q2, ew _ (by omega) (by omega)]
  · unfold zUp sRo
    by_cases q1 : j = n
    · rw [if_pos q1, if_pos q1]
    · rw [if_neg q1, if_neg q1, hF]
      by_cases q2 : k ≤ j ∧ j < n
      · rw [if_pos q2, if_pos q2, e1 _ (by omega)]
      · rw [if_neg q2, if_neg q2, e1 _ hj]
  · unfold sRo
    split
    · omega
    · split <;> omega
  · have s17 : ∀ j, j < 17 → sRo k n j < 17 := fun j hj => by
      unfold sRo
      split
      · omega
      · split <;> omega
    have h2 := hS.2.1.1.2 _ _ (s17 i hi) (s17 j hj) h
    unfold sRo at h2
    revert h2
    split
    · split
      · omega
      · split <;> omega
    · split
      · split
        · omega
        · split <;> omega
      · split
        · omega
        · split <;> omega
  · unfold mRm
    split
    · exact dec1_lt
    · split
      · exact hS.2.1.2.1.1 _
      · exact hS.2.1.2.1.1 _
  · unfold mRm
    rw [if_neg hy, if_neg (by omega)]
  · rw [en'] at hi
    have es : sRo k n i < a 1 ∧ sRo k n i = if k ≤ i then i + 1 else i := by
      unfold sRo
      rw [if_neg (by omega)]
      by_cases q2 : k ≤ i
      · rw [if_pos ⟨q2, hi⟩, if_pos q2]
        omega
      · rw [if_neg (by omega), if_neg q2]
        omega
    obtain ⟨g2, g3, g4⟩ := bS_arm hS es.1
    refine ⟨g2, g3, fun c hc => ?_⟩
    have hr : mRm a k (100 + 8 * i + c) = a (if 100 + 8 * i + c < 100 + 8 * k then 100 + 8 * i + c else 100 + 8 * i + c + 8) := by
      unfold mRm
      rw [if_neg (by omega), if_pos (by omega)]
    rw [g4 c hc, hr]
    by_cases q2 : k ≤ i
    · rw [es.2, if_pos q2, if_neg (by omega)]
      exact congrArg a (by omega)
    · rw [es.2, if_neg q2, if_pos (by omega)]
def mTo1 (a : Nat → Nat) (k : Nat) : Nat → Nat := bif Nat.beq (a (100 + 8 * k + 2)) 1 then mPf a (a (100 + 8 * k + 1)) (a (100 + 8 * k + 3)) else bif Nat.beq (a (100 + 8 * k + 2)) 2 then mWay3 a (a (100 + 8 * k + 1)) else a
def mTo (a : Nat → Nat) (k : Nat) : Nat → Nat := mRm (mTo1 a k) k
theorem mWay3_d {q : Nat} : mWay3 a q = bU a (300 + 30 * q + 2) (dec1 (a (300 + 30 * q + 2))) := rfl
theorem m10 {k x y z : Nat} (hS : bS b p a m0 m) (hk : k < a 1) (hQ : a (100 + 8 * k + 1) < 12) (h9 : a (100 + 8 * k + 2) = 1 → a (300 + 30 * a (100 + 8 * k + 1) + 0) < 9) (g : ∀ p' m', bS b p' (mTo a k) m0 m' → gFin1 sc Q frs 10 0 m') : gFin sc Q frs 10 0 [bR b 0, k, x, y, z] [] m := by
  have h17 := hS.2.1.2.1.2
  have hp := hS.2.1.1.1 k (by omega)
  have t2 := hS.2.1.2.1.1 (100 + 8 * k + 2)
  obtain ⟨q, eq⟩ : ∃ q, q = a (100 + 8 * k + 1) := ⟨_, rfl⟩
  rw [← eq] at hQ h9
  refine h_ldr (w := 259) (pc2 := 1) (by decide +kernel) (by decide +kernel) rfl (bR_ref hS.2.1.2.2 (by omega)) ?_
  refine s_getHr (w := 13298220909530543326364438) (pc2 := 4) (by decide +kernel) (c := 2) (k := 1) (by decide +kernel) hS.1 hS.2.1 (by decide) ?_
  refine h_ldi (w := 65794) (pc2 := 5) (by decide +kernel) (by decide +kernel) rfl (by omega) ?_
  refine s_aldA (w := 286) (pc2 := 6) (by decide +kernel) (by decide +kernel) hS.1 hS.2.1 (by omega) ?_
  refine h_str (w := 131333) (pc2 := 7) (by decide +kernel) (n := 5) (by decide +kernel) rfl (bR_ref hS.2.1.2.2 (by omega)) (ls2 := [bR b 0, k, (bR b (8 + p k)), y, z]) rfl ?_
  refine h_ldr (w := 259) (pc2 := 8) (by decide +kernel) (by decide +kernel) rfl (bR_ref hS.2.1.2.2 (by omega)) ?_
  refine s_getHr (w := 22969645913191650433696534) (pc2 := 11) (by decide +kernel) (c := 3) (k := 2) (by decide +kernel) hS.1 hS.2.1 (by decide) ?_
  refine h_ldr (w := 131331) (pc2 := 12) (by decide +kernel) (by decide +kernel) rfl (bR_ref hS.2.1.2.2 (by omega)) ?_
  refine s_getA (w := 97923009835529036865143574) (pc2 := 15) (by decide +kernel) (c := 1) (by decide +kernel) hS.1 hS.2.1 hk ?_
  rw [← eq]
  refine s_aldL (w := 286) (pc2 := 16) (by decide +kernel) (by decide +kernel) hS.1 hS.2.1 hQ ?_
  refine h_str (w := 196869) (pc2 := 17) (by decide +kernel) (n := 5) (by decide +kernel) rfl (bR_ref hS.2.1.2.2 (by omega)) (ls2 := [bR b 0, k, (bR b (8 + p k)), (bR b (25 + 3 * q)), z]) rfl ?_
  refine h_ldr (w := 131331) (pc2 := 18) (by decide +kernel) (by decide +kernel) rfl (bR_ref hS.2.1.2.2 (by omega)) ?_
  refine s_getA (w := 101549805741116998099010326) (pc2 := 21) (by decide +kernel) (c := 2) (by decide +kernel) hS.1 hS.2.1 hk ?_
  refine h_con (w := 65793) (pc2 := 22) (by decide +kernel) (v := 1) (by decide +kernel) ?_
  by_cases q1 : a (100 + 8 * k + 2) = 1
  · have eg : mTo1 a k = mPf a q (a (100 + 8 * k + 3)) := by unfold mTo1; rw [nb_eq.mpr q1, ← eq]; rfl
    refine h_icmp (w := 281474979332882) (pc2 := 25) (by decide +kernel) (b := false) (by decide +kernel) (hS.2.1.2.1.1 _) (by decide) (zc_ne_f q1) ?_
    refine h_ldr (w := 196867) (pc2 := 26) (by decide +kernel) (by decide +kernel) rfl (bR_ref hS.2.1.2.2 (by omega)) ?_
    refine h_ldr (w := 131331) (pc2 := 27) (by decide +kernel) (by decide +kernel) rfl (bR_ref hS.2.1.2.2 (by omega)) ?_
    refine s_getA (w := 105176601646704959332811542) (pc2 := 30) (by decide +kernel) (c := 3) (by decide +kernel) hS.1 hS.2.1 hk ?_
    refine h_ldr (w := 259) (pc2 := 31) (by decide +kernel) (by decide +kernel) rfl (bR_ref hS.2.1.2.2 (by omega)) ?_
    refine s_getHx (w := 54401661882939787847009046) (pc2 := 34) (by decide +kernel) (c := 0) (x := 0) (by decide +kernel) hS.1 hS.2.1 (by decide) ?_
    refine h_cv (w := 108811237419368672053560101) (c := 34) (n := 2) (by decide +kernel) (by decide +kernel) rfl (zA_L hS (by omega)) ⟨Nat.le_of_ble_eq_true rfl, Nat.le_of_ble_eq_true rfl⟩ (show ∀ c ∈ [(a 0), (a (100 + 8 * k + 3)), (bR b (25 + 3 * q))], c < 8589934592 from zl_c (zlo (hS.2.1.2.1.1 _)) (zl_c (zlo (hS.2.1.2.1.1 _)) (zl_c (bR_ref hS.2.1.2.2 (by omega)).2 zl_n))) (st2 := []) rfl (l2 := [(bR b (25 + 3 * q)), (a (100 + 8 * k + 3)), (a 0)]) (by show (List.take 3 _).reverse ++ List.replicate (zMaxL 34 - 3) _ = _; rw [show zMaxL 34 = 3 by decide +kernel]; rfl) ?_
    refine m34 hS hQ (h9 q1) (hS.2.1.2.1.1 _) (hS.2.1.2.1.1 _) (fun m1 hS1 => (gF_0 (by decide +kernel) ?_))
    refine h_goto (w := 3801875) (pc2 := 58) (by decide +kernel) (by decide +kernel) ?_
    rw [← eg] at hS1
    have hk1 : k < mTo1 a k 1 := by rw [eg, mPf_d rfl, bU_n (by omega), mPf2_d, bU_n (by omega), mPf1_d rfl, bSu_n (by omega)]; exact hk
    exact m10_end hS1 hk1 (fun p2 m2 hS2 => g p2 m2 hS2)
  · skip
    refine h_icmp (w := 281474979332882) (pc2 := 40) (by decide +kernel) (b := true) (by decide +kernel) (hS.2.1.2.1.1 _) (by decide) (zc_ne_t q1) ?_
    refine h_ldr (w := 131331) (pc2 := 41) (by decide +kernel) (by decide +kernel) rfl (bR_ref hS.2.1.2.2 (by omega)) ?_
    refine s_getA (w := 101549805741116998099010326) (pc2 := 44) (by decide +kernel) (c := 2) (by decide +kernel) hS.1 hS.2.1 hk ?_
    refine h_con (w := 131329) (pc2 := 45) (by decide +kernel) (v := 2) (by decide +kernel) ?_
    by_cases q2 : a (100 + 8 * k + 2) = 2
    · have eg : mTo1 a k = mWay3 a q := by unfold mTo1; rw [nb_ne.mpr q1, cond_false, nb_eq.mpr q2, cond_true, ← eq]
      refine h_icmp (w := 281474980512530) (pc2 := 48) (by decide +kernel) (b := false) (by decide +kernel) (hS.2.1.2.1.1 _) (by decide) (zc_ne_f q2) ?_
      refine h_ldr (w := 196867) (pc2 := 49) (by decide +kernel) (by decide +kernel) rfl (bR_ref hS.2.1.2.2 (by omega)) ?_
      refine h_dup (w := 270) (pc2 := 50) (by decide +kernel) (by decide +kernel) (bR_ref hS.2.1.2.2 (by omega)).2 ?_
      refine s_getLx (w := 113639100831314387221545750) (pc2 := 53) (by decide +kernel) (c := 4) (by decide +kernel) hS.1 hS.2.1 (q := q) hQ (x := 300 + 30 * q + 2) (by omega) ?_
      refine h_con (w := 65793) (pc2 := 54) (by decide +kernel) (v := 1) (by decide +kernel) ?_
      refine h_sub (w := 264) (pc2 := 55) (by decide +kernel) (by decide +kernel) (hS.2.1.2.1.1 _) (by decide) (c := (dec1 (a (300 + 30 * q + 2)))) dec1_eq ?_
      refine s_putLx (w := 113639100831314387221545751) (pc2 := 58) (by decide +kernel) (c := 4) (by decide +kernel) hS (q := q) hQ (x := 300 + 30 * q + 2) (by omega) dec1_lt ?_
      intro m1 hS1
      rw [← mWay3_d] at hS1
      rw [← eg] at hS1
      have hk1 : k < mTo1 a k 1 := by rw [eg, mWay3_d, bU_n (by omega)]; exact hk
      exact m10_end hS1 hk1 (fun p2 m2 hS2 => g p2 m2 hS2)
    · have eg : mTo1 a k = a := by unfold mTo1; rw [nb_ne.mpr q1, cond_false, nb_ne.mpr q2, cond_false]
      refine h_icmp (w := 281474980512530) (pc2 := 58) (by decide +kernel) (b := true) (by decide +kernel) (hS.2.1.2.1.1 _) (by decide) (zc_ne_t q2) ?_
      have hS1 := hS
      rw [← eg] at hS1
      have hk1 : k < mTo1 a k 1 := by rw [eg]; exact hk
      exact m10_end hS1 hk1 (fun p2 m2 hS2 => g p2 m2 hS2)
end BG
