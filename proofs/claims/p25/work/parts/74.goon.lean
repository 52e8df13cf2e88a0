/-! ===== an arm goes on: on its way, at its work (printed by wip/gen/m16.py) ===== -/
def dec1 (x : Nat) : Nat := (x + 4294967296 - 1) % 4294967296
def inc1 (x : Nat) : Nat := (x + 1) % 4294967296
theorem dec1_lt {x : Nat} : dec1 x < 4294967296 := Nat.mod_lt _ (by decide)
theorem inc1_lt {x : Nat} : inc1 x < 4294967296 := Nat.mod_lt _ (by decide)
section BE
variable {sc : List Nat} {Q : Nat → zM → Prop} {frs : gCf} {i pc w pc2 : Nat} {ls st : List Nat} {m : zM}
theorem h_dup {x : Nat} (hw : zI i pc = w) (ho : zop w = 14 ∧ pc + 1 = pc2) (hx : x < 8589934592) (g : gFin sc Q frs i pc2 ls (x :: x :: st) m) : gFin sc Q frs i pc ls (x :: st) m := by
  subst hw
  obtain ⟨h1, rfl⟩ := ho
  have h2 : x < 1099511627776 := by omega
  exact gFin_step (zIsC_f (Or.inl (by omega))) (by simp only [zOne, h1, ↓reduceIte, Nat.reduceEqDiff, zNx, if_pos h2]) g
theorem h_sub {x y c : Nat} (hw : zI i pc = w) (ho : zop w = 8 ∧ pc + 1 = pc2) (ha : x < 4294967296) (hb : y < 4294967296) (hv : (x + 4294967296 - y) % 4294967296 = c) (g : gFin sc Q frs i pc2 ls (c :: st) m) : gFin sc Q frs i pc ls (y :: x :: st) m := by
  subst hw
  subst hv
  obtain ⟨h1, rfl⟩ := ho
  exact gFin_step (zIsC_f (Or.inl (by omega))) (by simp only [zOne, h1, ↓reduceIte, Nat.reduceEqDiff, zNx, if_pos (And.intro ha hb)]) g
theorem h_str {c n : Nat} {ls2 : List Nat} (hw : zI i pc = w) (ho : (zop w = 5 ∧ pc + zln w = pc2) ∧ za w < n) (hn : ls.length = n) (hc : 4294967296 < c ∧ c < 8589934592) (hs : ls.set (za w) c = ls2) (g : gFin sc Q frs i pc2 ls2 st m) : gFin sc Q frs i pc ls (c :: st) m := by
  subst hw
  subst hs
  subst hn
  obtain ⟨⟨h1, rfl⟩, hl⟩ := ho
  have hc2 : 4294967296 < c ∧ c < 1099511627776 := by omega
  exact gFin_step (zIsC_f (Or.inl (by omega))) (by simp only [zOne, h1, ↓reduceIte, Nat.reduceEqDiff, zNx, if_pos (And.intro hc2 hl)]) g
end BE
/-- on its way: one tick less; there, it idles, and no more comes -/
def mWay1 (a : Nat → Nat) (i : Nat) : Nat → Nat := bU a (100 + 8 * i + 3) (dec1 (a (100 + 8 * i + 3)))
def mWay2 (a : Nat → Nat) (i : Nat) : Nat → Nat := bU a (100 + 8 * i + 2) 0
def mWay3 (a : Nat → Nat) (q : Nat) : Nat → Nat := bU a (300 + 30 * q + 2) (dec1 (a (300 + 30 * q + 2)))
def mWay (a : Nat → Nat) (i : Nat) : Nat → Nat := bif Nat.beq (mWay1 a i (100 + 8 * i + 3)) 0 then mWay3 (mWay2 (mWay1 a i) i) (mWay2 (mWay1 a i) i (100 + 8 * i + 1)) else mWay1 a i
/-- at work: one unit done; done, it idles, and the load counts -/
def mWk1 (a : Nat → Nat) (i : Nat) : Nat → Nat := bU (mWay1 a i) 3 (inc1 (mWay1 a i 3))
def mWk2 (a : Nat → Nat) (i : Nat) : Nat → Nat := bU (mWay2 a i) (100 + 8 * i + 5) (inc1 (mWay2 a i (100 + 8 * i + 5)))
def mWk3 (a : Nat → Nat) (q : Nat) : Nat → Nat := bU a (300 + 30 * q + 1) (inc1 (a (300 + 30 * q + 1)))
def mWk4 (a : Nat → Nat) : Nat → Nat := bU a 2 (inc1 (a 2))
def mWk (a : Nat → Nat) (i : Nat) : Nat → Nat := bif Nat.beq (mWk1 a i (100 + 8 * i + 3)) 0 then mWk4 (mWk3 (mWk2 (mWk1 a i) i) (mWk2 (mWk1 a i) i (100 + 8 * i + 1))) else mWk1 a i
section BF
variable {sc : List Nat} {Q : Nat → zM → Prop} {frs : gCf} {m m0 : zM} {b : Nat} {p a : Nat → Nat}
theorem mWay1_n {i x : Nat} (h : x ≠ 100 + 8 * i + 3) : mWay1 a i x = a x := bU_n h
theorem mWay2_n {i x : Nat} (h : x ≠ 100 + 8 * i + 2) : mWay2 a i x = a x := bU_n h
theorem m16 {i : Nat} (hS : bS b p a m0 m) (hi : i < a 1) (hq : a (100 + 8 * i + 1) < 12) (g : ∀ m', bS b p (mWay a i) m0 m' → gFin1 sc Q frs 16 0 m') : gFin sc Q frs 16 0 [bR b 0, bR b (8 + p i)] [] m := by
  have h17 := hS.2.1.2.1.2
  have hp := hS.2.1.1.1 i (by omega)
  refine h_ldr (w := 65795) (pc2 := 1) (by decide +kernel) (by decide +kernel) rfl (bR_ref hS.2.1.2.2 (by omega)) ?_
  refine h_dup (w := 270) (pc2 := 2) (by decide +kernel) (by decide +kernel) (bR_ref hS.2.1.2.2 (by omega)).2 ?_
  refine s_getA (w := 105176601646704959332811542) (pc2 := 5) (by decide +kernel) (c := 3) (by decide +kernel) hS.1 hS.2.1 hi ?_
  refine h_con (w := 65793) (pc2 := 6) (by decide +kernel) (v := 1) (by decide +kernel) ?_
  refine h_sub (w := 264) (pc2 := 7) (by decide +kernel) (by decide +kernel) (hS.2.1.2.1.1 _) (by decide) (c := dec1 (a (100 + 8 * i + 3))) rfl ?_
  refine s_putA (w := 105176601646704959332811543) (pc2 := 10) (by decide +kernel) (c := 3) (by decide +kernel) hS hi dec1_lt (fun h => absurd h (by decide)) ?_
  intro m1 hS1
  have hS1 : bS b p (mWay1 a i) m0 m1 := hS1
  have hi1 : i < mWay1 a i 1 := by rw [mWay1_n (by omega)]; exact hi
  refine h_ldr (w := 65795) (pc2 := 11) (by decide +kernel) (by decide +kernel) rfl (bR_ref hS1.2.1.2.2 (by omega)) ?_
  refine s_getA (w := 105176601646704959332811542) (pc2 := 14) (by decide +kernel) (c := 3) (by decide +kernel) hS1.1 hS1.2.1 hi1 ?_
  by_cases q0 : mWay1 a i (100 + 8 * i + 3) = 0
  · have e0 : mWay a i = mWay3 (mWay2 (mWay1 a i) i) (mWay2 (mWay1 a i) i (100 + 8 * i + 1)) := by
      unfold mWay
      rw [nb_eq.mpr q0, cond_true]
    rw [e0] at g
    have hlt := hS1.2.1.2.1.1 (100 + 8 * i + 3)
    refine h_if (w := 281474979332881) (pc2 := 17) (by decide +kernel) (b := false) (by decide +kernel) (by omega) (zc_ne_f q0) ?_
    refine h_ldr (w := 65795) (pc2 := 18) (by decide +kernel) (by decide +kernel) rfl (bR_ref hS1.2.1.2.2 (by omega)) ?_
    refine h_con (w := 257) (pc2 := 19) (by decide +kernel) (v := 0) (by decide +kernel) ?_
    refine s_putA (w := 101549805741116998099010327) (pc2 := 22) (by decide +kernel) (c := 2) (by decide +kernel) hS1 hi1 (by decide) (fun h => absurd h (by decide)) ?_
    intro m2 hS2
    have hS2 : bS b p (mWay2 (mWay1 a i) i) m0 m2 := hS2
    have hi2 : i < mWay2 (mWay1 a i) i 1 := by rw [mWay2_n (by omega)]; exact hi1
    have hq2 : mWay2 (mWay1 a i) i (100 + 8 * i + 1) < 12 := by rw [mWay2_n (by omega), mWay1_n (by omega)]; exact hq
    refine h_ldr (w := 259) (pc2 := 23) (by decide +kernel) (by decide +kernel) rfl (bR_ref hS2.2.1.2.2 (by omega)) ?_
    refine s_getH (w := 22969645913191650433696534) (pc2 := 26) (by decide +kernel) (c := 3) (by decide +kernel) hS2.1 hS2.2.1 (v := bR b 2) rfl ?_
    refine h_ldr (w := 65795) (pc2 := 27) (by decide +kernel) (by decide +kernel) rfl (bR_ref hS2.2.1.2.2 (by omega)) ?_
    refine s_getA (w := 97923009835529036865143574) (pc2 := 30) (by decide +kernel) (c := 1) (by decide +kernel) hS2.1 hS2.2.1 hi2 ?_
    refine s_aldL (w := 286) (pc2 := 31) (by decide +kernel) (by decide +kernel) hS2.1 hS2.2.1 hq2 ?_
    refine h_dup (w := 270) (pc2 := 32) (by decide +kernel) (by decide +kernel) (bR_ref hS2.2.1.2.2 (by omega)).2 ?_
    refine s_getL (w := 113639100831314387221545750) (pc2 := 35) (by decide +kernel) (c := 4) (by decide +kernel) hS2.1 hS2.2.1 (q := (mWay2 (mWay1 a i) i (100 + 8 * i + 1))) hq2 (v := (mWay2 (mWay1 a i) i) (300 + 30 * (mWay2 (mWay1 a i) i (100 + 8 * i + 1)) + 2)) rfl ?_
    refine h_con (w := 65793) (pc2 := 36) (by decide +kernel) (v := 1) (by decide +kernel) ?_
    refine h_sub (w := 264) (pc2 := 37) (by decide +kernel) (by decide +kernel) (hS2.2.1.2.1.1 _) (by decide) (c := dec1 (mWay2 (mWay1 a i) i (300 + 30 * (mWay2 (mWay1 a i) i (100 + 8 * i + 1)) + 2))) rfl ?_
    refine s_putL (w := 113639100831314387221545751) (pc2 := 40) (by decide +kernel) (c := 4) (by decide +kernel) hS2 (q := (mWay2 (mWay1 a i) i (100 + 8 * i + 1))) hq2 dec1_lt ?_
    intro m3 hS3
    exact h_ret0 (w := 302) (by decide +kernel) (by decide +kernel) (g _ hS3)
  · have e0 : mWay a i = mWay1 a i := by
      unfold mWay
      rw [nb_ne.mpr q0, cond_false]
    rw [e0] at g
    have hlt := hS1.2.1.2.1.1 (100 + 8 * i + 3)
    refine h_if (w := 281474979332881) (pc2 := 40) (by decide +kernel) (b := true) (by decide +kernel) (by omega) (zc_ne_t q0) ?_
    exact h_ret0 (w := 302) (by decide +kernel) (by decide +kernel) (g _ hS1)
end BF
