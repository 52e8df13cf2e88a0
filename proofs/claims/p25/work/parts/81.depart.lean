/-! ===== an arm departs (printed by wip/gen/m81.py) ===== -/
section BG
variable {sc : List Nat} {Q : Nat → zM → Prop} {frs : gCf} {m m0 : zM} {b : Nat} {p a : Nat → Nat}
theorem zCOk_t {w n : Nat} {st : List Nat} (h38 : zop w = 40 ∧ zb w = n) (hk : n ≤ zMaxL (za w)) (hl : n ≤ st.length ∧ st.length ≤ n + 8) (ha : ∀ c ∈ st.take n, c < 8589934592) : zCOk w st m = true := by
  unfold zCOk zRcv
  rw [if_neg (by omega), if_neg (by omega), h38.2]
  simp only [Bool.and_eq_true, decide_eq_true_eq]
  refine ⟨⟨hl.1, by omega⟩, trivial, List.all_eq_true.mpr fun c hc => ?_, hk⟩
  have := ha c hc
  simp only [decide_eq_true_eq]
  omega
theorem mIn_lt {x y : Nat} : mIn x y < 2 := by
  unfold mIn
  cases Nat.beq (x / 4) (y / 4) <;> decide
def mDp1 (a : Nat → Nat) (k to : Nat) : Nat → Nat := mSo (mNo a) k to (bif Nat.beq (mIn (a (100 + 8 * k + 1)) to) 0 then mNo a (5 + 1) else mNo a (5 + 0))
def mDp (a : Nat → Nat) (k to : Nat) : Nat → Nat := bU (mDp1 a k to) (300 + 30 * to + 2) (inc1 (mDp1 a k to (300 + 30 * to + 2)))
theorem mDp_d {k to : Nat} : mDp a k to = bU (mDp1 a k to) (300 + 30 * to + 2) (inc1 (mDp1 a k to (300 + 30 * to + 2))) := rfl
theorem mSo_n {i q l x : Nat} (h1 : x ≠ 100 + 8 * i + 1) (h2 : x ≠ 100 + 8 * i + 2) (h3 : x ≠ 100 + 8 * i + 3) (h4 : x ≠ 100 + 8 * i + 6) (h5 : x ≠ 100 + 8 * i + 7) : mSo a i q l x = a x := by
  rw [mSo_d, mSo5_d, bU_n h5, mSo4_d, bU_n h4, mSo3_d, bU_n h3, mSo2_d, bU_n h2, mSo1_d, bU_n h1]
theorem m11_end {k to wy u0 u1 u2 : Nat} (hS : bS b p a m0 m) (hi : k < a 1) (hto : to < 12) (hwy : wy < 4294967296) (g : ∀ m', bS b p (bU (mSo a k to wy) (300 + 30 * to + 2) (inc1 (mSo a k to wy (300 + 30 * to + 2)))) m0 m' → gFin1 sc Q frs 11 0 m') : gFin sc Q frs 11 53 [bR b 0, u0, to, u1, bR b (8 + p k), u2] [wy, to, bR b (8 + p k)] m := by
  have h17 := hS.2.1.2.1.2
  have hp := hS.2.1.1.1 k (by omega)
  obtain ⟨f0, z0, -⟩ := bM_at (o := 8 + p k) hS.1 hS.2.1.2.2 (by omega)
  rw [(kA_o hp).1, (kA_o hp).2] at z0
  have r1 := bR_ref (o := 8 + p k) hS.2.1.2.2 (by omega)
  refine h_call (w := 126942911104299264525927205) (a := 3) (by decide +kernel) (by decide +kernel) (zCOk_v (n := 2) (by decide +kernel) rfl z0 (by decide +kernel) ⟨Nat.le_of_ble_eq_true rfl, Nat.le_of_ble_eq_true rfl⟩ (fun c hc => by
      have hc : c ∈ [wy, to, bR b (8 + p k)] := hc
      simp only [List.mem_cons, List.not_mem_nil, or_false] at hc
      rcases hc with hc | hc | hc
      · rw [hc]; omega
      · rw [hc]; omega
      · rw [hc]; exact r1.2)) (st2 := []) rfl (l2 := [bR b (8 + p k), to, wy]) (by show (List.take 3 _).reverse ++ List.replicate (zMaxL 3 - 3) _ = _; rw [show zMaxL 3 = 3 by decide +kernel]; rfl) ?_
  refine m3 hS hi (by omega) hwy (fun m1 hS1 => ?_)
  show gFin sc Q frs 11 56 [bR b 0, u0, to, u1, bR b (8 + p k), u2] (if zRet 3 = 0 then [] else [0]) m1
  rw [if_pos (show zRet 3 = 0 by decide +kernel)]
  refine h_ldr (w := 259) (pc2 := 57) (by decide +kernel) (by decide +kernel) rfl (bR_ref hS1.2.1.2.2 (by omega)) ?_
  refine s_getHr (w := 22969645913191650433696534) (pc2 := 60) (by decide +kernel) (c := 3) (k := 2) (by decide +kernel) hS1.1 hS1.2.1 (by decide) ?_
  refine h_ldi (w := 131330) (pc2 := 61) (by decide +kernel) (by decide +kernel) rfl (by omega) ?_
  refine s_aldL (w := 286) (pc2 := 62) (by decide +kernel) (by decide +kernel) hS1.1 hS1.2.1 hto ?_
  refine h_dup (w := 270) (pc2 := 63) (by decide +kernel) (by decide +kernel) (bR_ref hS1.2.1.2.2 (by omega)).2 ?_
  refine s_getLx (w := 113639100831314387221545750) (pc2 := 66) (by decide +kernel) (c := 4) (by decide +kernel) hS1.1 hS1.2.1 (q := to) hto (x := 300 + 30 * to + 2) (by omega) ?_
  refine h_con (w := 65793) (pc2 := 67) (by decide +kernel) (v := 1) (by decide +kernel) ?_
  refine h_add (w := 263) (pc2 := 68) (by decide +kernel) (by decide +kernel) (hS1.2.1.2.1.1 _) (by decide) (c := inc1 (mSo a k to wy (300 + 30 * to + 2))) inc1_eq ?_
  refine s_putLx (w := 113639100831314387221545751) (pc2 := 71) (by decide +kernel) (c := 4) (by decide +kernel) hS1 (q := to) hto (x := 300 + 30 * to + 2) (by omega) inc1_lt ?_
  intro m2 hS2
  exact h_ret0 (w := 302) (by decide +kernel) (by decide +kernel) (g _ hS2)
end BG
