/-! ===== an arm departs (printed by wip/gen/m81.py) ===== -/
section BG
variable {sc : List Nat} {Q : Nat → zM → Prop} {frs : gCf} {m m0 : zM} {b : Nat} {p a : Nat → Nat}
theorem zCOk_t {w n : Nat} {st : List Nat} (h38 : zop w = 40 ∧ zb w = n) (hk : n ≤ zMaxL (za w)) (hl : n ≤ st.length ∧ st.length ≤ n + 8) (ha : ∀ c ∈ st.take n, c < 8589934592) : zCOk w st m = true := by
  unfold zCOk zRcv
  rw [if_neg (by omega), if_neg (by omega), h38.2]
  simp only [Bool.and_eq_true, decide_eq_true_eq]
  refine ⟨⟨hl.1, by omega⟩, trivial, List.all_eq_true.mpr fun c hc => ?_, hk⟩
  have := ha c hc
  simp only [decide_eq_true_eq]
  omega
theorem mIn_lt {x y : Nat} : mIn x y < 2 := by
  unfold mIn
  cases Nat.beq (x / 4) (y / 4) <;> decide
def mDp1 (a : Nat → Nat) (k to : Nat) : Nat → Nat := mSo (mNo a) k to (bif Nat.beq (mIn (a (100 + 8 * k + 1)) to) 0 then mNo a (5 + 1) else mNo a (5 + 0))
def mDp (a : Nat → Nat) (k to : Nat) : Nat → Nat := bU (mDp1 a k to) (300 + 30 * to + 2) (inc1 (mDp1 a k to (300 + 30 * to + 2)))
theorem mDp_d {k to : Nat} : mDp a k to = bU (mDp1 a k to) (300 + 30 * to + 2) (inc1 (mDp1 a k to (300 + 30 * to + 2))) := rfl
theorem mSo_n {i q l x : Nat} (h1 : x ≠ 100 + 8 * i + 1) (h2 : x ≠ 100 + 8 * i + 2) (h3 : x ≠ 100 + 8 * i + 3) (h4 : x ≠ 100 + 8 * i + 6) (h5 : x ≠ 100 + 8 * i + 7) : mSo a i q l x = a x := by
  rw [mSo_d, mSo5_d, bU_n h5, mSo4_d, bU_n h4, mSo3_d, bU_n h3, mSo2_d, bU_n h2, mSo1_d, bU_n h1]
theorem m11_end {k to wy u0 u1 u2 : Nat} (hS : bS b p a m0 m) (hi : k < a 1) (hto : to < 12) (hwy : wy < 4294967296) (g : ∀ m', bS b p (bU (mSo a k to wy) (300 + 30 * to + 2) (inc1 (mSo a k to wy (300 + 30 * to + 2)))) m0 m' → gFin1 sc Q frs 11 0 m') : gFin sc Q frs 11 53 [bR b 0, u0, to, u1, bR b (8 + p k), u2] [wy, to, bR b (8 + p k)] m := by
  have h17 := hS.2.1.2.1.2
  have hp := hS.2.1.1.1 k (by omega)
  obtain ⟨f0, z0, -⟩ := bM_at (o := 8 + p k) hS.1 hS.2.1.2.2 (by omega)
  rw [(kA_o hp).1, (kA_o hp).2] at z0
  have r1 := bR_ref (o := 8 + p k) hS.2.1.2.2 (by omega)
  refine h_call (w := 126942911104299264525927205) (a := 3) (by decide +kernel) (by decide +kernel) (zCOk_v (n := 2) (by decide +kernel) rfl z0 (by decide +kernel) ⟨Nat.le_of_ble_eq_true rfl, Nat.le_of_ble_eq_true rfl⟩ (fun c hc => by
      have hc : c ∈ [wy, to, bR b (8 + p k)] := hc
      simp only [List.mem_cons, List.not_mem_nil, or_false] at hc
      rcases hc with hc | hc | hc
      · rw [hc]; omega
      · rw [hc]; omega
      · rw [hc]; exact r1.2)) (st2 := []) rfl (l2 := [bR b (8 + p k), to, wy]) (by show (List.take 3 _).reverse ++ List.replicate (zMaxL 3 - 3) _ = _; rw [show zMaxL 3 = 3 by decide +kernel]; rfl) ?_
  refine m3 hS hi (by omega) hwy (fun m1 hS1 => ?_)
  show gFin sc Q frs 11 56 [bR b 0, u0, to, u1, bR b (8 + p k), u2] (if zRet 3 = 0 then [] else [0]) m1
  rw [if_pos (show zRet 3 = 0 by decide +kernel)]
  refine h_ldr (w := 259) (pc2 := 57) (by decide +kernel) (by decide +kernel) rfl (bR_ref hS1.2.1.2.2 (by omega)) ?_
  refine s_getHr (w := 22969645913191650433696534) (pc2 := 60) (by decide +kernel) (c := 3) (k := 2) (by decide +kernel) hS1.1 hS1.2.1 (by decide) ?_
  refine h_ldi (w := 131330) (pc2 := 61) (by decide +kernel) (by decide +kernel) rfl (by omega) ?_
  refine s_aldL (w := 286) (pc2 := 62) (by decide +kernel) (by decide +kernel) hS1.1 hS1.2.1 hto ?_
  refine h_dup (w := 270) (pc2 := 63) (by decide +kernel) (by decide +kernel) (bR_ref hS1.2.1.2.2 (by omega)).2 ?_
  refine s_getLx (w := 113639100831314387221545750) (pc2 := 66) (by decide +kernel) (c := 4) (by decide +kernel) hS1.1 hS1.2.1 (q := to) hto (x := 300 + 30 * to + 2) (by omega) ?_
  refine h_con (w := 65793) (pc2 := 67) (by decide +kernel) (v := 1) (by decide +kernel) ?_
  refine h_add (w := 263) (pc2 := 68) (by decide +kernel) (by decide +kernel) (hS1.2.1.2.1.1 _) (by decide) (c := inc1 (mSo a k to wy (300 + 30 * to + 2))) inc1_eq ?_
  refine s_putLx (w := 113639100831314387221545751) (pc2 := 71) (by decide +kernel) (c := 4) (by decide +kernel) hS1 (q := to) hto (x := 300 + 30 * to + 2) (by omega) inc1_lt ?_
  intro m2 hS2
  exact h_ret0 (w := 302) (by decide +kernel) (by decide +kernel) (g _ hS2)
theorem m11 {k to why u4 u5 : Nat} (hS : bS b p a m0 m) (hi : k < a 1) (hQ : a (100 + 8 * k + 1) < 12) (hto : to < 12) (h14 : a 14 < 2147483648) (hwy : why < 4294967296) (g : ∀ m', bS b p (mDp a k to) m0 m' → gFin1 sc Q frs 11 0 m') : gFin sc Q frs 11 0 [bR b 0, k, to, why, u4, u5] [] m := by
  have h17 := hS.2.1.2.1.2
  have hp := hS.2.1.1.1 k (by omega)
  have t0 := hS.2.1.2.1.1 0
  obtain ⟨fr, ef⟩ : ∃ fr, fr = a (100 + 8 * k + 1) := ⟨_, rfl⟩
  have hfr : fr < 12 := ef ▸ hQ
  have hin := mIn_lt (x := fr) (y := to)
  obtain ⟨f6, z6, -⟩ := bM_at (o := 6) hS.1 hS.2.1.2.2 (by decide)
  have r6 := bR_ref (o := 6) hS.2.1.2.2 (by decide)
  refine h_ldr (w := 259) (pc2 := 1) (by decide +kernel) (by decide +kernel) rfl (bR_ref hS.2.1.2.2 (by omega)) ?_
  refine s_getHr (w := 13298220909530543326364438) (pc2 := 4) (by decide +kernel) (c := 2) (k := 1) (by decide +kernel) hS.1 hS.2.1 (by decide) ?_
  refine h_ldi (w := 65794) (pc2 := 5) (by decide +kernel) (by decide +kernel) rfl (by omega) ?_
  refine s_aldA (w := 286) (pc2 := 6) (by decide +kernel) (by decide +kernel) hS.1 hS.2.1 (by omega) ?_
  refine h_str (w := 281474976973317) (pc2 := 8) (by decide +kernel) (n := 6) (by decide +kernel) rfl (bR_ref hS.2.1.2.2 (by omega)) (ls2 := [bR b 0, k, to, why, (bR b (8 + p k)), u5]) rfl ?_
  refine h_ldr (w := 281474976973315) (pc2 := 10) (by decide +kernel) (by decide +kernel) rfl (bR_ref hS.2.1.2.2 (by omega)) ?_
  refine s_getA (w := 97923009835529036865143574) (pc2 := 13) (by decide +kernel) (c := 1) (by decide +kernel) hS.1 hS.2.1 hi ?_
  rw [← ef]
  refine h_sti (w := 281474977038852) (pc2 := 15) (by decide +kernel) (n := 6) (by decide +kernel) rfl (by omega) (ls2 := [bR b 0, k, to, why, (bR b (8 + p k)), fr]) rfl ?_
  refine h_ldr (w := 259) (pc2 := 16) (by decide +kernel) (by decide +kernel) rfl (bR_ref hS.2.1.2.2 (by omega)) ?_
  refine s_getHr (w := 43521458633616641242432278) (pc2 := 19) (by decide +kernel) (c := 7) (k := 6) (by decide +kernel) hS.1 hS.2.1 (by decide) ?_
  refine h_ldi (w := 65794) (pc2 := 20) (by decide +kernel) (by decide +kernel) rfl (by omega) ?_
  refine h_ldi (w := 281474977038850) (pc2 := 22) (by decide +kernel) (by decide +kernel) rfl (by omega) ?_
  refine h_ldi (w := 131330) (pc2 := 23) (by decide +kernel) (by decide +kernel) rfl (by omega) ?_
  refine h_ldr (w := 259) (pc2 := 24) (by decide +kernel) (by decide +kernel) rfl (bR_ref hS.2.1.2.2 (by omega)) ?_
  refine s_getHx (w := 54401661882939787847009046) (pc2 := 27) (by decide +kernel) (c := 0) (x := 0) (by decide +kernel) hS.1 hS.2.1 (by decide) ?_
  refine h_ldi (w := 196866) (pc2 := 28) (by decide +kernel) (by decide +kernel) rfl hwy ?_
  refine h_call (w := 117271430761250361222759205) (a := 42) (by decide +kernel) (by decide +kernel) (zCOk_v (n := 5) (by decide +kernel) rfl z6 (by decide +kernel) ⟨Nat.le_of_ble_eq_true rfl, Nat.le_of_ble_eq_true rfl⟩ (fun c hc => by
      have hc : c ∈ [why, a 0, to, fr, k, bR b 6] := hc
      simp only [List.mem_cons, List.not_mem_nil, or_false] at hc
      rcases hc with hc | hc | hc | hc | hc | hc
      · rw [hc]; omega
      · rw [hc]; omega
      · rw [hc]; omega
      · rw [hc]; omega
      · rw [hc]; omega
      · rw [hc]; exact r6.2)) (st2 := []) rfl (l2 := [bR b 6, k, fr, to, a 0, why, 1099511627776]) (by show (List.take 6 _).reverse ++ List.replicate (zMaxL 42 - 6) _ = _; rw [show zMaxL 42 = 7 by decide +kernel]; rfl) ?_
  refine m42 hS h14 (by omega) (by omega) (by omega) t0 hwy (fun m1 hS1 => ?_)
  show gFin sc Q frs 11 31 [bR b 0, k, to, why, (bR b (8 + p k)), fr] (if zRet 42 = 0 then [] else [0]) m1
  rw [if_pos (show zRet 42 = 0 by decide +kernel)]
  have hi1 : k < mNo a 1 := by rw [mNo_d, bU_n (by decide)]; exact hi
  refine h_ldr (w := 281474976973315) (pc2 := 33) (by decide +kernel) (by decide +kernel) rfl (bR_ref hS1.2.1.2.2 (by omega)) ?_
  refine h_ldi (w := 131330) (pc2 := 34) (by decide +kernel) (by decide +kernel) rfl (by omega) ?_
  refine h_ldr (w := 259) (pc2 := 35) (by decide +kernel) (by decide +kernel) rfl (bR_ref hS1.2.1.2.2 (by omega)) ?_
  refine s_getHr (w := 27805367638394240842203926) (pc2 := 38) (by decide +kernel) (c := 4) (k := 3) (by decide +kernel) hS1.1 hS1.2.1 (by decide) ?_
  refine h_ldi (w := 281474977038850) (pc2 := 40) (by decide +kernel) (by decide +kernel) rfl (by omega) ?_
  refine h_ldi (w := 131330) (pc2 := 41) (by decide +kernel) (by decide +kernel) rfl (by omega) ?_
  refine h_call (w := 122107004911374462048863016) (a := 57) (by decide +kernel) (by decide +kernel) (zCOk_t (n := 2) (by decide +kernel) (by decide +kernel) ⟨Nat.le_of_ble_eq_true rfl, Nat.le_of_ble_eq_true rfl⟩ (fun c hc => by
      have hc : c ∈ [to, fr] := hc
      simp only [List.mem_cons, List.not_mem_nil, or_false] at hc
      rcases hc with hc | hc
      · rw [hc]; omega
      · rw [hc]; omega)) (st2 := [bR b 3, to, bR b (8 + p k)]) rfl (l2 := [fr, to]) (by show (List.take 2 _).reverse ++ List.replicate (zMaxL 57 - 2) _ = _; rw [show zMaxL 57 = 2 by decide +kernel]; rfl) ?_
  refine m57 hfr hto ?_
  show gFin sc Q frs 11 44 [bR b 0, k, to, why, (bR b (8 + p k)), fr] (if zRet 57 = 0 then [bR b 3, to, bR b (8 + p k)] else [mIn fr to, bR b 3, to, bR b (8 + p k)]) m1
  rw [if_neg (show ¬ zRet 57 = 0 by decide +kernel)]
  by_cases q0 : mIn fr to = 0
  · have e0 : mDp1 a k to = mSo (mNo a) k to (mNo a (5 + 1)) := by
      unfold mDp1
      rw [← ef, nb_eq.mpr q0, cond_true]
    refine h_if (w := 3343121) (pc2 := 51) (by decide +kernel) (b := true) (by decide +kernel) (by omega) (zc_eq_t q0) ?_
    refine h_con (w := 65793) (pc2 := 52) (by decide +kernel) (v := 1) (by decide +kernel) ?_
    refine s_aldS (w := 282) (pc2 := 53) (by decide +kernel) (by decide +kernel) hS1.1 hS1.2.1 (j := 1) (by decide) ?_
    exact m11_end hS1 hi1 hto (hS1.2.1.2.1.1 _) (fun m2 hS2 => g m2 (by rw [mDp_d, e0]; exact hS2))
  · have e0 : mDp1 a k to = mSo (mNo a) k to (mNo a (5 + 0)) := by
      unfold mDp1
      rw [← ef, nb_ne.mpr q0, cond_false]
    refine h_if (w := 3343121) (pc2 := 47) (by decide +kernel) (b := false) (by decide +kernel) (by omega) (zc_eq_f q0) ?_
    refine h_con (w := 257) (pc2 := 48) (by decide +kernel) (v := 0) (by decide +kernel) ?_
    refine h_goto (w := 3408659) (pc2 := 52) (by decide +kernel) (by decide +kernel) ?_
    refine s_aldS (w := 282) (pc2 := 53) (by decide +kernel) (by decide +kernel) hS1.1 hS1.2.1 (j := 0) (by decide) ?_
    exact m11_end hS1 hi1 hto (hS1.2.1.2.1.1 _) (fun m2 hS2 => g m2 (by rw [mDp_d, e0]; exact hS2))
end BG
