/-! ===== the world of the law: an object, its harbours; a state is remembered (printed by wip/gen/m895.py) ===== -/
def hP (x : Nat) : Prop := x = 190 ∨ x = 251 ∨ x = 312 ∨ x = 373
def wT (x : Nat) : Prop := x = 124 ∨ hP x
/-- cells that nothing here speaks of: small ones -/
def wX (m : zM) : Prop := m.length = 434 ∧ ∀ k, (63 ≤ k ∧ k ≤ 123) ∨ (185 ≤ k ∧ k ≤ 189) → ∀ x, m[k]? = some x → x.2.1 ≤ 80
def oW (a : Nat → Nat) (u : Nat) (m : zM) : Prop := (∃ p, bS 1 p a m m) ∧ (∃ f : Nat → Nat, m[0]? = some (5, 7, f) ∧ (f 0 = bR 1 0 ∧ f 1 = bR 62 0) ∧ f 2 = u ∧ f 5 = bR 124 0) ∧ ((∃ h : Nat → Nat, m[62]? = some (11, 4, h) ∧ ∀ j, j < 4 → ∃ x, hP x ∧ h j = bR x 0) ∧ wX m) ∧ ∀ x, wT x → ∃ p a, bS x p a m m
theorem r00 : 4294967296 < bR 0 0 ∧ bR 0 0 < 8589934592 := by decide
theorem r62 : 4294967296 < bR 62 0 ∧ bR 62 0 < 8589934592 := by decide
theorem wT_d {x : Nat} (h : wT x) : (63 ≤ x ∧ x ≤ 373) ∧ (x = 124 ∨ 190 ≤ x) := by
  unfold wT hP at h
  omega
section BK
variable {sc : List Nat} {Q : Nat → zM → Prop} {frs : gCf} {i pc w pc2 : Nat} {ls st : List Nat} {m m0 : zM} {b : Nat} {p a e : Nat → Nat} {u : Nat}
/-- another block is what it was -/
theorem bS_ot {x y : Nat} {p' e' : Nat → Nat} {m' : zM} (hd : y + 61 ≤ x ∨ x + 61 ≤ y) (hS : bS x p e m m') (hC : bS y p' e' m m) : bS y p' e' m' m' := cS_fr hd hC hS
theorem wX_fr {x : Nat} {m' : zM} (hx : x = 1 ∨ x = 124 ∨ 190 ≤ x) (hX : wX m) (hS : bS x p e m m') : wX m' :=
  ⟨hS.2.2.1.trans hX.1, fun k hk y hy => hX.2 k hk y ((hS.2.2.2 k (by omega)).symm.trans hy)⟩
theorem wX_set {k0 : Nat} {c : Nat × Nat × (Nat → Nat)} (hX : wX m) (hk : k0 ≤ 62) : wX (m.set k0 c) := by
  refine ⟨by rw [List.length_set]; exact hX.1, fun k hk2 y hy => ?_⟩
  rw [List.getElem?_set_ne (by omega)] at hy
  exact hX.2 k hk2 y hy
theorem oW_now {a' : Nat → Nat} {m' : zM} (hW : oW a u m) (hS : bS 1 p a' m m') : oW a' u m' := by
  obtain ⟨-, ⟨f, f1, f2⟩, ⟨⟨h, h1, h2⟩, hX⟩, hT⟩ := hW
  refine ⟨⟨p, hS.1, hS.2.1, bFr_rf⟩, ⟨f, (hS.2.2.2 0 (by omega)).trans f1, f2⟩, ⟨⟨h, (hS.2.2.2 62 (by omega)).trans h1, h2⟩, wX_fr (by omega) hX hS⟩, fun x hx => ?_⟩
  obtain ⟨q, e, hC⟩ := hT x hx
  have := wT_d hx
  exact ⟨q, e, bS_ot (by omega) hS hC⟩
theorem oW_tr {x : Nat} {m' : zM} (hW : oW a u m) (hx : wT x) (hS : bS x p e m m') : oW a u m' := by
  obtain ⟨⟨p1, hN⟩, ⟨f, f1, f2⟩, ⟨⟨h, h1, h2⟩, hX⟩, hT⟩ := hW
  have hd := wT_d hx
  refine ⟨⟨p1, bS_ot (by omega) hS hN⟩, ⟨f, (hS.2.2.2 0 (by omega)).trans f1, f2⟩, ⟨⟨h, (hS.2.2.2 62 (by omega)).trans h1, h2⟩, wX_fr (by omega) hX hS⟩, fun y hy => ?_⟩
  obtain ⟨q, e', hC⟩ := hT y hy
  by_cases z : y = x
  · rw [z]
    exact ⟨p, e, hS.1, hS.2.1, bFr_rf⟩
  · have hz : y + 61 ≤ x ∨ x + 61 ≤ y := by
      unfold wT hP at hx hy
      omega
    exact ⟨q, e', bS_ot hz hS hC⟩
theorem bS_out {k x : Nat} {c : Nat × Nat × (Nat → Nat)} (hS : bS x p a m m) (hk : k < x ∨ x + 61 ≤ k) : bS x p a (m.set k c) (m.set k c) := by
  refine ⟨fun o ho => ?_, hS.2.1, bFr_rf⟩
  obtain ⟨f, z1, z2⟩ := hS.1 o ho
  exact ⟨f, by rw [List.getElem?_set_ne (by omega)]; exact z1, z2⟩
theorem s_getO {c v : Nat} (hw : zI i pc = w) (ho : ((zop w = 22 ∧ pc + 3 = pc2) ∧ zb w = 5) ∧ zc w = c ∧ c < 7) (hW : oW a u m) (hv : (c = 0 ∧ v = bR 1 0) ∨ (c = 1 ∧ v = bR 62 0) ∨ (c = 2 ∧ v = u) ∨ (c = 5 ∧ v = bR 124 0)) (g : gFin sc Q frs i pc2 ls (v :: st) m) : gFin sc Q frs i pc ls (bR 0 0 :: st) m := by
  obtain ⟨-, ⟨f, f1, ⟨f2, f3⟩, f4, f5⟩, -⟩ := hW
  obtain ⟨⟨h3, h4⟩, rfl, h5⟩ := ho
  have hz : zAt m (bR 0 0) = some (5, 7, f) := by rw [zAt_b (by decide) (by decide)]; exact f1
  refine h_get hw ⟨h3, h4.symm, h5⟩ hz ?_ g
  rcases hv with ⟨h, rfl⟩ | ⟨h, rfl⟩ | ⟨h, rfl⟩ | ⟨h, rfl⟩ <;> rw [h] <;> assumption
theorem zA_O {c : Nat} (hW : oW a u m) (h : zMtf c 0 = 5 := by decide +kernel) : ∃ x f, zAt m (bR 0 0) = some (zMtf c 0, x, f) := by
  obtain ⟨-, ⟨f, f1, -⟩, -⟩ := hW
  exact ⟨7, f, by rw [h, zAt_b (by decide) (by decide)]; exact f1⟩
theorem s_putU {v : Nat} (hw : zI i pc = w) (ho : ((zop w = 23 ∧ pc + 3 = pc2) ∧ zb w = 5) ∧ zc w = 2) (hW : oW a u m) (hv : v < 4294967296) (g : ∀ m', oW a v m' → gFin sc Q frs i pc2 ls st m') : gFin sc Q frs i pc ls (v :: bR 0 0 :: st) m := by
  obtain ⟨⟨p1, hN⟩, ⟨f, f1, ⟨f2, f3⟩, f4, f5⟩, ⟨⟨h, h1, h2⟩, hX⟩, hT⟩ := hW
  obtain ⟨⟨h3, h4⟩, h5⟩ := ho
  have hz : zAt m (bR 0 0) = some (5, 7, f) := by rw [zAt_b (by decide) (by decide)]; exact f1
  have hk : zOkV (zTag (zTy (zb w) (zc w))) v = true := by
    rw [h4, h5]
    exact decide_eq_true hv
  refine h_put hw ⟨h3, h4.symm, by omega⟩ hk hz rfl (g _ ?_)
  rw [h5, show bR 0 0 - 4294967297 = 0 by decide]
  refine ⟨⟨p1, bS_out hN (by decide)⟩, ⟨zUp f 2 v, List.getElem?_set_self (List.getElem?_eq_some_iff.mp f1).1, ⟨f2, f3⟩, rfl, f5⟩, ⟨⟨h, by rw [List.getElem?_set_ne (by decide)]; exact h1, h2⟩, wX_set hX (by decide)⟩, fun x hx => ?_⟩
  obtain ⟨q, e', hC⟩ := hT x hx
  have := wT_d hx
  exact ⟨q, e', bS_out hC (by omega)⟩
theorem s_aaldP {j : Nat} (hw : zI i pc = w) (ho : zop w = 30 ∧ pc + 1 = pc2) (hW : oW a u m) (hj : j < 4) (g : ∀ x, hP x → gFin sc Q frs i pc2 ls (bR x 0 :: st) m) : gFin sc Q frs i pc ls (j :: bR 62 0 :: st) m := by
  obtain ⟨-, -, ⟨⟨h, h1, h2⟩, -⟩, -⟩ := hW
  obtain ⟨x, x1, x2⟩ := h2 j hj
  have hz : zAt m (bR 62 0) = some (11, 4, h) := by rw [zAt_b (by decide) (by decide)]; exact h1
  exact h_aald hw ho hz ⟨by decide, by decide⟩ hj (by decide) x2 (g x x1)
theorem s_aastP {j x : Nat} (hw : zI i pc = w) (ho : zop w = 31 ∧ pc + 1 = pc2) (hW : oW a u m) (hj : j < 4) (hx : hP x) (g : ∀ m', oW a u m' → gFin sc Q frs i pc2 ls st m') : gFin sc Q frs i pc ls (bR x 0 :: j :: bR 62 0 :: st) m := by
  obtain ⟨⟨p1, hN⟩, ⟨f, f1, f2⟩, ⟨⟨h, h1, h2⟩, hX⟩, hT⟩ := hW
  obtain ⟨q, e', hC⟩ := hT x (Or.inr hx)
  obtain ⟨fx, z⟩ := zA_o (o := 0) hC (by decide)
  have hz : zAt m (bR 62 0) = some (11, 4, h) := by rw [zAt_b (by decide) (by decide)]; exact h1
  refine h_aast hw ho hz z ⟨by decide, by decide⟩ hj (by decide) (by decide) rfl (g _ ?_)
  rw [show bR 62 0 - 4294967297 = 62 by decide]
  refine ⟨⟨p1, bS_out hN (by decide)⟩, ⟨f, by rw [List.getElem?_set_ne (by decide)]; exact f1, f2⟩, ⟨⟨zUp h j (bR x 0), List.getElem?_set_self (List.getElem?_eq_some_iff.mp h1).1, fun k hk => ?_⟩, wX_set hX (by decide)⟩, fun y hy => ?_⟩
  · by_cases z : k = j
    · exact ⟨x, hx, if_pos z⟩
    · obtain ⟨x2, g1, g2⟩ := h2 k hk
      exact ⟨x2, g1, (if_neg z).trans g2⟩
  · obtain ⟨q, e', hC⟩ := hT y hy
    have := wT_d hy
    exact ⟨q, e', bS_out hC (by omega)⟩
/-- a call of a static method of the same class -/
theorem h_c8 {c n : Nat} {st2 l2 : List Nat} (hw : zI i pc = w) (ho : (zop w = 38 ∧ zb w = n) ∧ za w = c ∧ n ≤ zMaxL c) (hl : n ≤ st.length ∧ st.length ≤ n + 8) (ha : ∀ c ∈ st.take n, c < 8589934592) (hd : st.drop n = st2) (he : zEn c n st = l2) (g : gFin sc Q ((i, pc, ls, st2) :: frs) c 0 l2 [] m) : gFin sc Q frs i pc ls st m := by
  obtain ⟨h1, rfl, h3⟩ := ho
  exact h_call hw ⟨by unfold zIsC; rw [h1.1]; rfl, rfl⟩ (zCOk_s h1 h3 hl ha) (by rw [h1.2]; exact hd) (by rw [h1.2]; exact he) g
theorem zIsC_f20 {w : Nat} (h : zop w = 20) : zIsC w = false := by
  unfold zIsC
  rw [h]
  rfl
theorem h_sw {x : Nat} (hw : zI i pc = w) (ho : zop w = 20 ∧ zSwt x (zSw.getD (za w) (0, [], 0)).2.1 (zSw.getD (za w) (0, [], 0)).2.2 = pc2) (hx : x < 4294967296) (g : gFin sc Q frs i pc2 ls st m) : gFin sc Q frs i pc ls (x :: st) m := by
  subst hw
  obtain ⟨h1, rfl⟩ := ho
  exact gFin_step (zIsC_f20 h1) (by simp only [zOne, h1, ↓reduceIte, Nat.reduceEqDiff, or_false, true_or, zNx, if_pos hx]) g
end BK
section BG
variable {sc : List Nat} {Q : Nat → zM → Prop} {frs : gCf} {m m0 : zM} {p a : Nat → Nat} {u : Nat}
theorem m56 {x : Nat} (hx : x < 12) (g : gFin1 sc Q frs 56 1 m) : gFin sc Q frs 56 0 [x] [] m := by
  refine h_ldi (w := 258) (pc2 := 1) (by decide +kernel) (by decide +kernel) rfl (by omega) ?_
  refine h_if (w := 562949954339601) (pc2 := 4) (by decide +kernel) (b := false) (by decide +kernel) (by omega)  (zc_lt_f (by omega) (by decide) (by omega)) ?_
  refine h_ldi (w := 258) (pc2 := 5) (by decide +kernel) (by decide +kernel) rfl (by omega) ?_
  refine h_con (w := 281474977497601) (pc2 := 7) (by decide +kernel) (v := 12) (by decide +kernel) ?_
  refine h_icmp (w := 844424931050258) (pc2 := 10) (by decide +kernel) (b := false) (by decide +kernel) (by omega) (by decide) (zc_ge_f (by omega) (by omega) (by omega)) ?_
  refine h_con (w := 65793) (pc2 := 11) (by decide +kernel) (v := 1) (by decide +kernel) ?_
  refine h_goto (w := 983827) (pc2 := 15) (by decide +kernel) (by decide +kernel) ?_
  exact h_ret (w := 301) (by decide +kernel) (by decide +kernel) (by decide) (fun _ => by decide) g
theorem m59 {x y : Nat} (hW : oW a u m) (g : ∀ m', oW a 3 m' → gFin1 sc Q frs 59 0 m') : gFin sc Q frs 59 0 [bR 0 0, x, y] [] m := by
  refine h_ldr (w := 259) (pc2 := 1) (by decide +kernel) (by decide +kernel) rfl r00 ?_
  refine s_getO (w := 19342831561985515401773846) (pc2 := 4) (by decide +kernel) (c := 1) (by decide +kernel) hW (v := (bR 62 0)) (Or.inr (Or.inl ⟨rfl, rfl⟩)) ?_
  refine h_con (w := 257) (pc2 := 5) (by decide +kernel) (v := 0) (by decide +kernel) ?_
  refine s_aaldP (w := 286) (pc2 := 6) (by decide +kernel) (by decide +kernel) hW (by decide) (fun x0 hx0 => ?_)
  have dx0 : x0 < 100000 := by have := wT_d (Or.inr hx0); omega
  refine h_str (w := 65797) (pc2 := 7) (by decide +kernel) (n := 3) (by decide +kernel) rfl (bR_ref (o := 0) dx0 (by decide)) (ls2 := [bR 0 0, bR x0 0, y]) rfl ?_
  refine h_con (w := 65793) (pc2 := 8) (by decide +kernel) (v := 1) (by decide +kernel) ?_
  refine h_sti (w := 131332) (pc2 := 9) (by decide +kernel) (n := 3) (by decide +kernel) rfl (by decide) (ls2 := [bR 0 0, bR x0 0, 1]) rfl ?_
  refine h_ldi (w := 131330) (pc2 := 10) (by decide +kernel) (by decide +kernel) rfl (by decide) ?_
  refine h_con (w := 262401) (pc2 := 11) (by decide +kernel) (v := 4) (by decide +kernel) ?_
  refine h_icmp (w := 844424932360978) (pc2 := 14) (by decide +kernel) (b := false) (by decide +kernel) (by decide) (by decide) (zc_ge_f (by decide) (by decide) (by decide)) ?_
  refine h_ldr (w := 259) (pc2 := 15) (by decide +kernel) (by decide +kernel) rfl r00 ?_
  refine s_getO (w := 19342831561985515401773846) (pc2 := 18) (by decide +kernel) (c := 1) (by decide +kernel) hW (v := (bR 62 0)) (Or.inr (Or.inl ⟨rfl, rfl⟩)) ?_
  refine h_ldi (w := 131330) (pc2 := 19) (by decide +kernel) (by decide +kernel) rfl (by decide) ?_
  refine h_con (w := 65793) (pc2 := 20) (by decide +kernel) (v := 1) (by decide +kernel) ?_
  refine h_sub (w := 264) (pc2 := 21) (by decide +kernel) (by decide +kernel) (by decide) (by decide) (c := 0) (by decide) ?_
  refine h_ldr (w := 259) (pc2 := 22) (by decide +kernel) (by decide +kernel) rfl r00 ?_
  refine s_getO (w := 19342831561985515401773846) (pc2 := 25) (by decide +kernel) (c := 1) (by decide +kernel) hW (v := (bR 62 0)) (Or.inr (Or.inl ⟨rfl, rfl⟩)) ?_
  refine h_ldi (w := 131330) (pc2 := 26) (by decide +kernel) (by decide +kernel) rfl (by decide) ?_
  refine s_aaldP (w := 286) (pc2 := 27) (by decide +kernel) (by decide +kernel) hW (by decide) (fun x1 hx1 => ?_)
  have dx1 : x1 < 100000 := by have := wT_d (Or.inr hx1); omega
  refine s_aastP (w := 287) (pc2 := 28) (by decide +kernel) (by decide +kernel) hW (by decide) hx1 (fun m1 hW1 => ?_)
  refine h_inc (w := 562949953487622) (pc2 := 31) (by decide +kernel) (by decide +kernel) rfl (by decide) (c2 := 2) (by show (_ + 1) % 4294967296 = _; omega) (ls2 := [bR 0 0, bR x0 0, 2]) rfl ?_
  refine h_goto (w := 590611) (pc2 := 9) (by decide +kernel) (by decide +kernel) ?_
  refine h_ldi (w := 131330) (pc2 := 10) (by decide +kernel) (by decide +kernel) rfl (by decide) ?_
  refine h_con (w := 262401) (pc2 := 11) (by decide +kernel) (v := 4) (by decide +kernel) ?_
  refine h_icmp (w := 844424932360978) (pc2 := 14) (by decide +kernel) (b := false) (by decide +kernel) (by decide) (by decide) (zc_ge_f (by decide) (by decide) (by decide)) ?_
  refine h_ldr (w := 259) (pc2 := 15) (by decide +kernel) (by decide +kernel) rfl r00 ?_
  refine s_getO (w := 19342831561985515401773846) (pc2 := 18) (by decide +kernel) (c := 1) (by decide +kernel) hW1 (v := (bR 62 0)) (Or.inr (Or.inl ⟨rfl, rfl⟩)) ?_
  refine h_ldi (w := 131330) (pc2 := 19) (by decide +kernel) (by decide +kernel) rfl (by decide) ?_
  refine h_con (w := 65793) (pc2 := 20) (by decide +kernel) (v := 1) (by decide +kernel) ?_
  refine h_sub (w := 264) (pc2 := 21) (by decide +kernel) (by decide +kernel) (by decide) (by decide) (c := 1) (by decide) ?_
  refine h_ldr (w := 259) (pc2 := 22) (by decide +kernel) (by decide +kernel) rfl r00 ?_
  refine s_getO (w := 19342831561985515401773846) (pc2 := 25) (by decide +kernel) (c := 1) (by decide +kernel) hW1 (v := (bR 62 0)) (Or.inr (Or.inl ⟨rfl, rfl⟩)) ?_
  refine h_ldi (w := 131330) (pc2 := 26) (by decide +kernel) (by decide +kernel) rfl (by decide) ?_
  refine s_aaldP (w := 286) (pc2 := 27) (by decide +kernel) (by decide +kernel) hW1 (by decide) (fun x2 hx2 => ?_)
  have dx2 : x2 < 100000 := by have := wT_d (Or.inr hx2); omega
  refine s_aastP (w := 287) (pc2 := 28) (by decide +kernel) (by decide +kernel) hW1 (by decide) hx2 (fun m2 hW2 => ?_)
  refine h_inc (w := 562949953487622) (pc2 := 31) (by decide +kernel) (by decide +kernel) rfl (by decide) (c2 := 3) (by show (_ + 1) % 4294967296 = _; omega) (ls2 := [bR 0 0, bR x0 0, 3]) rfl ?_
  refine h_goto (w := 590611) (pc2 := 9) (by decide +kernel) (by decide +kernel) ?_
  refine h_ldi (w := 131330) (pc2 := 10) (by decide +kernel) (by decide +kernel) rfl (by decide) ?_
  refine h_con (w := 262401) (pc2 := 11) (by decide +kernel) (v := 4) (by decide +kernel) ?_
  refine h_icmp (w := 844424932360978) (pc2 := 14) (by decide +kernel) (b := false) (by decide +kernel) (by decide) (by decide) (zc_ge_f (by decide) (by decide) (by decide)) ?_
  refine h_ldr (w := 259) (pc2 := 15) (by decide +kernel) (by decide +kernel) rfl r00 ?_
  refine s_getO (w := 19342831561985515401773846) (pc2 := 18) (by decide +kernel) (c := 1) (by decide +kernel) hW2 (v := (bR 62 0)) (Or.inr (Or.inl ⟨rfl, rfl⟩)) ?_
  refine h_ldi (w := 131330) (pc2 := 19) (by decide +kernel) (by decide +kernel) rfl (by decide) ?_
  refine h_con (w := 65793) (pc2 := 20) (by decide +kernel) (v := 1) (by decide +kernel) ?_
  refine h_sub (w := 264) (pc2 := 21) (by decide +kernel) (by decide +kernel) (by decide) (by decide) (c := 2) (by decide) ?_
  refine h_ldr (w := 259) (pc2 := 22) (by decide +kernel) (by decide +kernel) rfl r00 ?_
  refine s_getO (w := 19342831561985515401773846) (pc2 := 25) (by decide +kernel) (c := 1) (by decide +kernel) hW2 (v := (bR 62 0)) (Or.inr (Or.inl ⟨rfl, rfl⟩)) ?_
  refine h_ldi (w := 131330) (pc2 := 26) (by decide +kernel) (by decide +kernel) rfl (by decide) ?_
  refine s_aaldP (w := 286) (pc2 := 27) (by decide +kernel) (by decide +kernel) hW2 (by decide) (fun x3 hx3 => ?_)
  have dx3 : x3 < 100000 := by have := wT_d (Or.inr hx3); omega
  refine s_aastP (w := 287) (pc2 := 28) (by decide +kernel) (by decide +kernel) hW2 (by decide) hx3 (fun m3 hW3 => ?_)
  refine h_inc (w := 562949953487622) (pc2 := 31) (by decide +kernel) (by decide +kernel) rfl (by decide) (c2 := 4) (by show (_ + 1) % 4294967296 = _; omega) (ls2 := [bR 0 0, bR x0 0, 4]) rfl ?_
  refine h_goto (w := 590611) (pc2 := 9) (by decide +kernel) (by decide +kernel) ?_
  refine h_ldi (w := 131330) (pc2 := 10) (by decide +kernel) (by decide +kernel) rfl (by decide) ?_
  refine h_con (w := 262401) (pc2 := 11) (by decide +kernel) (v := 4) (by decide +kernel) ?_
  refine h_icmp (w := 844424932360978) (pc2 := 34) (by decide +kernel) (b := true) (by decide +kernel) (by decide) (by decide) (zc_ge_t (by decide) (by decide) (by decide)) ?_
  refine h_ldr (w := 259) (pc2 := 35) (by decide +kernel) (by decide +kernel) rfl r00 ?_
  refine s_getO (w := 19342831561985515401773846) (pc2 := 38) (by decide +kernel) (c := 1) (by decide +kernel) hW3 (v := (bR 62 0)) (Or.inr (Or.inl ⟨rfl, rfl⟩)) ?_
  refine h_con (w := 196865) (pc2 := 39) (by decide +kernel) (v := 3) (by decide +kernel) ?_
  refine h_ldr (w := 65795) (pc2 := 40) (by decide +kernel) (by decide +kernel) rfl (bR_ref (o := 0) dx0 (by decide)) ?_
  refine s_aastP (w := 287) (pc2 := 41) (by decide +kernel) (by decide +kernel) hW3 (by decide) hx0 (fun m4 hW4 => ?_)
  refine h_ldr (w := 259) (pc2 := 42) (by decide +kernel) (by decide +kernel) rfl r00 ?_
  refine h_con (w := 196865) (pc2 := 43) (by decide +kernel) (v := 3) (by decide +kernel) ?_
  refine s_putU (w := 24178553287188105810215703) (pc2 := 46) (by decide +kernel) (by decide +kernel) hW4 (by decide) (fun m5 hW5 => ?_)
  exact h_ret0 (w := 302) (by decide +kernel) (by decide +kernel) (g _ hW5)
def mU (u : Nat) : Nat := if u < 4 then u + 1 else 4
theorem m58_end (hW : oW a u m) (hT : aT a) (hu : u < 4) (g : ∀ m', oW a (u + 1) m' → gFin1 sc Q frs 58 0 m') : gFin sc Q frs 58 12 [bR 0 0] [] m := by
  obtain ⟨p, hS⟩ := hW.1
  refine h_ldr (w := 259) (pc2 := 13) (by decide +kernel) (by decide +kernel) rfl r00 ?_
  refine s_getO (w := 19342831561985515401773846) (pc2 := 16) (by decide +kernel) (c := 1) (by decide +kernel) hW (v := (bR 62 0)) (Or.inr (Or.inl ⟨rfl, rfl⟩)) ?_
  refine h_ldr (w := 259) (pc2 := 17) (by decide +kernel) (by decide +kernel) rfl r00 ?_
  refine s_getO (w := 24178553287188105810215702) (pc2 := 20) (by decide +kernel) (c := 2) (by decide +kernel) hW (v := u) (Or.inr (Or.inr (Or.inl ⟨rfl, rfl⟩))) ?_
  refine s_aaldP (w := 286) (pc2 := 21) (by decide +kernel) (by decide +kernel) hW hu (fun x hx => ?_)
  have dx := wT_d (Or.inr hx)
  obtain ⟨r, e, hX⟩ := hW.2.2.2 x (Or.inr hx)
  refine h_ldr (w := 259) (pc2 := 22) (by decide +kernel) (by decide +kernel) rfl r00 ?_
  refine s_getO (w := 12089258197553666643919638) (pc2 := 25) (by decide +kernel) (c := 0) (by decide +kernel) hW (v := bR 1 0) (Or.inl ⟨rfl, rfl⟩) ?_
  refine h_cv (w := 183760948886379463996539685) (c := 7) (n := 1) (by decide +kernel) (by decide +kernel) rfl (zA_H hX) ⟨Nat.le_of_ble_eq_true rfl, Nat.le_of_ble_eq_true rfl⟩ (show ∀ cx ∈ [bR 1 0, bR x 0], cx < 8589934592 from zl_c (bR_ref (o := 0) hS.2.1.2.2 (by omega)).2 (zl_c (bR_ref (o := 0) hX.2.1.2.2 (by omega)).2 zl_n)) (st2 := []) rfl (l2 := [bR x 0, bR 1 0, 1099511627776]) (by show (List.take 2 _).reverse ++ List.replicate (zMaxL 7 - 2) _ = _; rw [show zMaxL 7 = 3 by decide +kernel]; rfl) ?_
  refine m7 (by omega) hS hT hX (fun m1 hX1 => gF_0 (by decide +kernel) ?_)
  have hW1 := oW_tr hW (Or.inr hx) hX1
  refine h_ldr (w := 259) (pc2 := 29) (by decide +kernel) (by decide +kernel) rfl r00 ?_
  refine h_dup (w := 270) (pc2 := 30) (by decide +kernel) (by decide +kernel) r00.2 ?_
  refine s_getO (w := 24178553287188105810215702) (pc2 := 33) (by decide +kernel) (c := 2) (by decide +kernel) hW1 (v := u) (Or.inr (Or.inr (Or.inl ⟨rfl, rfl⟩))) ?_
  refine h_con (w := 65793) (pc2 := 34) (by decide +kernel) (v := 1) (by decide +kernel) ?_
  refine h_add (w := 263) (pc2 := 35) (by decide +kernel) (by decide +kernel) (by omega) (by decide) (c := (u + 1)) (Nat.mod_eq_of_lt (by omega)) ?_
  refine s_putU (w := 24178553287188105810215703) (pc2 := 38) (by decide +kernel) (by decide +kernel) hW1 (by omega) (fun m2 hW2 => ?_)
  exact h_ret0 (w := 302) (by decide +kernel) (by decide +kernel) (g _ hW2)
theorem m58 (hW : oW a u m) (hT : aT a) (hu : u ≤ 4) (g : ∀ m', oW a (mU u) m' → gFin1 sc Q frs 58 0 m') : gFin sc Q frs 58 0 [bR 0 0] [] m := by
  refine h_ldr (w := 259) (pc2 := 1) (by decide +kernel) (by decide +kernel) rfl r00 ?_
  refine s_getO (w := 24178553287188105810215702) (pc2 := 4) (by decide +kernel) (c := 2) (by decide +kernel) hW (v := u) (Or.inr (Or.inr (Or.inl ⟨rfl, rfl⟩))) ?_
  refine h_con (w := 262401) (pc2 := 5) (by decide +kernel) (v := 4) (by decide +kernel) ?_
  by_cases q0 : u < 4
  · rw [show mU u = u + 1 from if_pos q0] at g
    refine h_icmp (w := 562949954208530) (pc2 := 12) (by decide +kernel) (b := true) (by decide +kernel) (by omega) (by decide) (zc_lt_t (by omega) (by decide) q0) ?_
    exact m58_end hW hT q0 g
  · rw [show mU u = 4 from if_neg q0] at g
    refine h_icmp (w := 562949954208530) (pc2 := 8) (by decide +kernel) (b := false) (by decide +kernel) (by omega) (by decide) (zc_lt_f (by omega) (by decide) (by omega)) ?_
    refine h_ldr (w := 259) (pc2 := 9) (by decide +kernel) (by decide +kernel) rfl r00 ?_
    refine h_cv (w := 269598002492669928146666277) (c := 59) (n := 0) (by decide +kernel) (by decide +kernel) rfl (zA_O hW) ⟨Nat.le_of_ble_eq_true rfl, Nat.le_of_ble_eq_true rfl⟩ (show ∀ cx ∈ [bR 0 0], cx < 8589934592 from zl_c r00.2 zl_n) (st2 := []) rfl (l2 := [bR 0 0, 1099511627776, 1099511627776]) (by show (List.take 1 _).reverse ++ List.replicate (zMaxL 59 - 1) _ = _; rw [show zMaxL 59 = 3 by decide +kernel]; rfl) ?_
    refine m59 hW (fun m1 hW1 => gF_0 (by decide +kernel) ?_)
    exact m58_end hW1 hT (by decide) g
end BG
