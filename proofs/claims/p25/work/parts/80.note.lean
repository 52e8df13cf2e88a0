/-! ===== within one basin; a way is noted (printed by wip/gen/m80.py) ===== -/
section BG
variable {sc : List Nat} {Q : Nat → zM → Prop} {frs : gCf} {m m0 : zM} {b : Nat} {p a : Nat → Nat}
theorem h_div {i pc w pc2 x y c : Nat} {ls st : List Nat} (hw : zI i pc = w) (ho : zop w = 10 ∧ pc + 1 = pc2) (ha : x < 2147483648 ∧ 0 < y ∧ y < 2147483648) (hv : x / y = c) (g : gFin sc Q frs i pc2 ls (c :: st) m) : gFin sc Q frs i pc ls (y :: x :: st) m := by
  subst hw
  subst hv
  obtain ⟨h1, rfl⟩ := ho
  exact gFin_step (zIsC_f (Or.inl (by omega))) (by simp only [zOne, h1, ↓reduceIte, Nat.reduceEqDiff, zNx, if_pos ha]) g
theorem h_rem {i pc w pc2 x y c : Nat} {ls st : List Nat} (hw : zI i pc = w) (ho : zop w = 11 ∧ pc + 1 = pc2) (ha : x < 2147483648 ∧ 0 < y ∧ y < 2147483648) (hv : x % y = c) (g : gFin sc Q frs i pc2 ls (c :: st) m) : gFin sc Q frs i pc ls (y :: x :: st) m := by
  subst hw
  subst hv
  obtain ⟨h1, rfl⟩ := ho
  exact gFin_step (zIsC_f (Or.inl (by omega))) (by simp only [zOne, h1, ↓reduceIte, Nat.reduceEqDiff, zNx, if_pos ha]) g
def mIn (x y : Nat) : Nat := bif Nat.beq (x / 4) (y / 4) then 1 else 0
theorem m57 {x y : Nat} (hx : x < 12) (hy : y < 12) (g : gFin1 sc Q frs 57 (mIn x y) m) : gFin sc Q frs 57 0 [x, y] [] m := by
  refine h_ldi (w := 258) (pc2 := 1) (by decide +kernel) (by decide +kernel) rfl (by omega) ?_
  refine h_con (w := 262401) (pc2 := 2) (by decide +kernel) (v := 4) (by decide +kernel) ?_
  refine h_div (w := 266) (pc2 := 3) (by decide +kernel) (by decide +kernel) ⟨by omega, by decide, by decide⟩ (c := x / 4) rfl ?_
  refine h_ldi (w := 65794) (pc2 := 4) (by decide +kernel) (by decide +kernel) rfl (by omega) ?_
  refine h_con (w := 262401) (pc2 := 5) (by decide +kernel) (v := 4) (by decide +kernel) ?_
  refine h_div (w := 266) (pc2 := 6) (by decide +kernel) (by decide +kernel) ⟨by omega, by decide, by decide⟩ (c := y / 4) rfl ?_
  by_cases q0 : x / 4 = y / 4
  · have e0 : mIn x y = 1 := by
      unfold mIn
      rw [nb_eq.mpr q0, cond_true]
    rw [e0] at g
    refine h_icmp (w := 281474977563410) (pc2 := 9) (by decide +kernel) (b := false) (by decide +kernel) (by omega) (by omega) (zc_ne_f q0) ?_
    refine h_con (w := 65793) (pc2 := 10) (by decide +kernel) (v := 1) (by decide +kernel) ?_
    refine h_goto (w := 918291) (pc2 := 14) (by decide +kernel) (by decide +kernel) ?_
    exact h_ret (w := 301) (by decide +kernel) (by decide +kernel) (by decide) (fun _ => by decide) g
  · have e0 : mIn x y = 0 := by
      unfold mIn
      rw [nb_ne.mpr q0, cond_false]
    rw [e0] at g
    refine h_icmp (w := 281474977563410) (pc2 := 13) (by decide +kernel) (b := true) (by decide +kernel) (by omega) (by omega) (zc_ne_t q0) ?_
    refine h_con (w := 257) (pc2 := 14) (by decide +kernel) (v := 0) (by decide +kernel) ?_
    exact h_ret (w := 301) (by decide +kernel) (by decide +kernel) (by decide) (fun _ => by decide) g
def mNo (a : Nat → Nat) : Nat → Nat := bU a 14 (inc1 (a 14))
theorem mNo_d : mNo a = bU a 14 (inc1 (a 14)) := rfl
theorem m42 {v1 v2 v3 v4 v5 x : Nat} (hS : bS b p a m0 m) (h14 : a 14 < 2147483648) (t1 : v1 < 4294967296) (t2 : v2 < 4294967296) (t3 : v3 < 4294967296) (t4 : v4 < 4294967296) (t5 : v5 < 4294967296) (g : ∀ m', bS b p (mNo a) m0 m' → gFin1 sc Q frs 42 0 m') : gFin sc Q frs 42 0 [bR b 6, v1, v2, v3, v4, v5, x] [] m := by
  obtain ⟨t, et⟩ : ∃ t, t = a 14 % 16 * 5 := ⟨_, rfl⟩
  have ht : t < 76 := by omega
  refine h_ldr (w := 259) (pc2 := 1) (by decide +kernel) (by decide +kernel) rfl (bR_ref hS.2.1.2.2 (by omega)) ?_
  refine s_getG (w := 22969609020547927938958102) (pc2 := 4) (by decide +kernel) (c := 1) (by decide +kernel) hS.1 hS.2.1 (v := a 14) rfl ?_
  refine h_con (w := 281474977759745) (pc2 := 6) (by decide +kernel) (v := 16) (by decide +kernel) ?_
  refine h_rem (w := 267) (pc2 := 7) (by decide +kernel) (by decide +kernel) ⟨by omega, by decide, by decide⟩ (c := a 14 % 16) rfl ?_
  refine h_con (w := 327937) (pc2 := 8) (by decide +kernel) (v := 5) (by decide +kernel) ?_
  refine h_mul (w := 265) (pc2 := 9) (by decide +kernel) (by decide +kernel) (by omega) (by decide) (c := t) (by omega) ?_
  refine h_sti (w := 281474977104388) (pc2 := 11) (by decide +kernel) (n := 7) (by decide +kernel) rfl (by omega) (ls2 := [bR b 6, v1, v2, v3, v4, v5, t]) rfl ?_
  refine h_ldr (w := 259) (pc2 := 12) (by decide +kernel) (by decide +kernel) rfl (bR_ref hS.2.1.2.2 (by omega)) ?_
  refine s_getG (w := 10880332377657562482279190) (pc2 := 15) (by decide +kernel) (c := 0) (by decide +kernel) hS.1 hS.2.1 (v := bR b 7) rfl ?_
  refine h_ldi (w := 281474977104386) (pc2 := 17) (by decide +kernel) (by decide +kernel) rfl (by omega) ?_
  refine h_ldi (w := 65794) (pc2 := 18) (by decide +kernel) (by decide +kernel) rfl t1 ?_
  refine s_astF (w := 283) (pc2 := 19) (by decide +kernel) (by decide +kernel) hS (by omega) t1 (fun m1 hS1 => ?_)
  refine h_ldr (w := 259) (pc2 := 20) (by decide +kernel) (by decide +kernel) rfl (bR_ref hS1.2.1.2.2 (by omega)) ?_
  refine s_getG (w := 10880332377657562482279190) (pc2 := 23) (by decide +kernel) (c := 0) (by decide +kernel) hS1.1 hS1.2.1 (v := bR b 7) rfl ?_
  refine h_ldi (w := 281474977104386) (pc2 := 25) (by decide +kernel) (by decide +kernel) rfl (by omega) ?_
  refine h_con (w := 65793) (pc2 := 26) (by decide +kernel) (v := 1) (by decide +kernel) ?_
  refine h_add (w := 263) (pc2 := 27) (by decide +kernel) (by decide +kernel) (by omega) (by decide) (c := (t + 1)) (by omega) ?_
  refine h_ldi (w := 131330) (pc2 := 28) (by decide +kernel) (by decide +kernel) rfl t2 ?_
  refine s_astF (w := 283) (pc2 := 29) (by decide +kernel) (by decide +kernel) hS1 (by omega) t2 (fun m2 hS2 => ?_)
  refine h_ldr (w := 259) (pc2 := 30) (by decide +kernel) (by decide +kernel) rfl (bR_ref hS2.2.1.2.2 (by omega)) ?_
  refine s_getG (w := 10880332377657562482279190) (pc2 := 33) (by decide +kernel) (c := 0) (by decide +kernel) hS2.1 hS2.2.1 (v := bR b 7) rfl ?_
  refine h_ldi (w := 281474977104386) (pc2 := 35) (by decide +kernel) (by decide +kernel) rfl (by omega) ?_
  refine h_con (w := 131329) (pc2 := 36) (by decide +kernel) (v := 2) (by decide +kernel) ?_
  refine h_add (w := 263) (pc2 := 37) (by decide +kernel) (by decide +kernel) (by omega) (by decide) (c := (t + 2)) (by omega) ?_
  refine h_ldi (w := 196866) (pc2 := 38) (by decide +kernel) (by decide +kernel) rfl t3 ?_
  refine s_astF (w := 283) (pc2 := 39) (by decide +kernel) (by decide +kernel) hS2 (by omega) t3 (fun m3 hS3 => ?_)
  refine h_ldr (w := 259) (pc2 := 40) (by decide +kernel) (by decide +kernel) rfl (bR_ref hS3.2.1.2.2 (by omega)) ?_
  refine s_getG (w := 10880332377657562482279190) (pc2 := 43) (by decide +kernel) (c := 0) (by decide +kernel) hS3.1 hS3.2.1 (v := bR b 7) rfl ?_
  refine h_ldi (w := 281474977104386) (pc2 := 45) (by decide +kernel) (by decide +kernel) rfl (by omega) ?_
  refine h_con (w := 196865) (pc2 := 46) (by decide +kernel) (v := 3) (by decide +kernel) ?_
  refine h_add (w := 263) (pc2 := 47) (by decide +kernel) (by decide +kernel) (by omega) (by decide) (c := (t + 3)) (by omega) ?_
  refine h_ldi (w := 281474976973314) (pc2 := 49) (by decide +kernel) (by decide +kernel) rfl t4 ?_
  refine s_astF (w := 283) (pc2 := 50) (by decide +kernel) (by decide +kernel) hS3 (by omega) t4 (fun m4 hS4 => ?_)
  refine h_ldr (w := 259) (pc2 := 51) (by decide +kernel) (by decide +kernel) rfl (bR_ref hS4.2.1.2.2 (by omega)) ?_
  refine s_getG (w := 10880332377657562482279190) (pc2 := 54) (by decide +kernel) (c := 0) (by decide +kernel) hS4.1 hS4.2.1 (v := bR b 7) rfl ?_
  refine h_ldi (w := 281474977104386) (pc2 := 56) (by decide +kernel) (by decide +kernel) rfl (by omega) ?_
  refine h_con (w := 262401) (pc2 := 57) (by decide +kernel) (v := 4) (by decide +kernel) ?_
  refine h_add (w := 263) (pc2 := 58) (by decide +kernel) (by decide +kernel) (by omega) (by decide) (c := (t + 4)) (by omega) ?_
  refine h_ldi (w := 281474977038850) (pc2 := 60) (by decide +kernel) (by decide +kernel) rfl t5 ?_
  refine s_astF (w := 283) (pc2 := 61) (by decide +kernel) (by decide +kernel) hS4 (by omega) t5 (fun m5 hS5 => ?_)
  refine h_ldr (w := 259) (pc2 := 62) (by decide +kernel) (by decide +kernel) rfl (bR_ref hS5.2.1.2.2 (by omega)) ?_
  refine h_dup (w := 270) (pc2 := 63) (by decide +kernel) (by decide +kernel) (bR_ref hS5.2.1.2.2 (by omega)).2 ?_
  refine s_getG (w := 22969609020547927938958102) (pc2 := 66) (by decide +kernel) (c := 1) (by decide +kernel) hS5.1 hS5.2.1 (v := a 14) rfl ?_
  refine h_con (w := 65793) (pc2 := 67) (by decide +kernel) (v := 1) (by decide +kernel) ?_
  refine h_add (w := 263) (pc2 := 68) (by decide +kernel) (by decide +kernel) (hS.2.1.2.1.1 _) (by decide) (c := inc1 (a 14)) inc1_eq ?_
  refine s_putG (w := 22969609020547927938958103) (pc2 := 71) (by decide +kernel) (by decide +kernel) hS5 inc1_lt (fun m9 hS9 => ?_)
  rw [← mNo_d] at hS9
  exact h_ret0 (w := 302) (by decide +kernel) (by decide +kernel) (g _ hS9)
end BG
