/-! ===== idle arms take the loads that wait (printed by wip/gen/m79.py) ===== -/
section BG
variable {sc : List Nat} {Q : Nat → zM → Prop} {frs : gCf} {m m0 : zM} {b : Nat} {p a : Nat → Nat}
def aL (a : Nat → Nat) : Prop := ∀ q, q < 12 → a (300 + 30 * q + 0) ≤ 9
def mTl1 (a : Nat → Nat) (k : Nat) : Nat → Nat := bU a (100 + 8 * k + 2) 1
def mTl (a : Nat → Nat) (k q : Nat) : Nat → Nat := bU (mTk (mTl1 a k) q) (100 + 8 * k + 3) (mTl1 a k (303 + 30 * q + 0))
theorem mTl1_d {k : Nat} : mTl1 a k = bU a (100 + 8 * k + 2) 1 := rfl
theorem mTl_d {k q : Nat} : mTl a k q = bU (mTk (mTl1 a k) q) (100 + 8 * k + 3) (mTl1 a k (303 + 30 * q + 0)) := rfl
def mT1 (a : Nat → Nat) (k : Nat) : Nat → Nat := bif Nat.beq (a (100 + 8 * k + 2)) 0 then (bif Nat.beq (a (300 + 30 * (a (100 + 8 * k + 1)) + 0)) 0 then a else mTl a k (a (100 + 8 * k + 1))) else a
def mTLo : Nat → Nat → (Nat → Nat) → (Nat → Nat)
  | 0, _, a => a
  | d + 1, k, a => mTLo d (k + 1) (mT1 a k)
theorem mTl_n {k q x : Nat} (hk : k < 17) (h0 : a (300 + 30 * q + 0) ≠ 0) (h9 : a (300 + 30 * q + 0) ≤ 9) (h1 : x ≠ 100 + 8 * k + 3) (h2 : x ≠ 100 + 8 * k + 2) (h3 : x ≠ 300 + 30 * q + 0) (h4 : ¬ (303 + 30 * q ≤ x ∧ x < 303 + 30 * q + 9)) : mTl a k q x = a x := by
  have e : mTl1 a k (300 + 30 * q + 0) = a (300 + 30 * q + 0) := by rw [mTl1_d, bU_n (by omega)]
  have v := mTk1_v (a := mTl1 a k) (q := q) (by rw [e]; exact h0) (by rw [e]; exact h9)
  rw [e] at v
  rw [mTl_d, bU_n h1, mTk_d, v, bSh_n (by omega), mTk1_d, bU_n h3, mTl1_d, bU_n h2]
theorem mTl_l {k q : Nat} (hk : k < 17) (h0 : a (300 + 30 * q + 0) ≠ 0) (h9 : a (300 + 30 * q + 0) ≤ 9) : mTl a k q (300 + 30 * q + 0) = a (300 + 30 * q + 0) - 1 := by
  have e : mTl1 a k (300 + 30 * q + 0) = a (300 + 30 * q + 0) := by rw [mTl1_d, bU_n (by omega)]
  have v := mTk1_v (a := mTl1 a k) (q := q) (by rw [e]; exact h0) (by rw [e]; exact h9)
  rw [e] at v
  rw [mTl_d, bU_n (by omega), mTk_v, v]
theorem m18_loop : ∀ (d k x : Nat) (a : Nat → Nat) (m : zM), k + d = a 1 → aQ a → aL a → bS b p a m0 m → (∀ m', bS b p (mTLo d k a) m0 m' → gFin1 sc Q frs 18 0 m') → gFin sc Q frs 18 2 [bR b 0, k, x] [] m := by
  intro d
  induction d with
  | zero =>
    intro k x a m hk hQ hL hS g
    have h17 := hS.2.1.2.1.2
    refine h_ldi (w := 65794) (pc2 := 3) (by decide +kernel) (by decide +kernel) rfl (by omega) ?_
    refine h_ldr (w := 259) (pc2 := 4) (by decide +kernel) (by decide +kernel) rfl (bR_ref hS.2.1.2.2 (by omega)) ?_
    refine s_getHx (w := 59237383608142378255516438) (pc2 := 7) (by decide +kernel) (c := 1) (x := 1) (by decide +kernel) hS.1 hS.2.1 (by decide) ?_
    refine h_icmp (w := 844424934458130) (pc2 := 66) (by decide +kernel) (b := true) (by decide +kernel) (by omega) (by omega) (zc_ge_t (by omega) (by omega) (by omega)) ?_
    exact h_ret0 (w := 302) (by decide +kernel) (by decide +kernel) (g _ hS)
  | succ d IH =>
    intro k x a m hk hQ hL hS g
    have h17 := hS.2.1.2.1.2
    have hi : k < a 1 := by omega
    have hp := hS.2.1.1.1 k (by omega)
    have hlt := hS.2.1.2.1.1 (100 + 8 * k + 2)
    obtain ⟨q, eq⟩ : ∃ q, q = a (100 + 8 * k + 1) := ⟨_, rfl⟩
    have hq : q < 12 := eq ▸ hQ k hi
    have h9 := hL q hq
    refine h_ldi (w := 65794) (pc2 := 3) (by decide +kernel) (by decide +kernel) rfl (by omega) ?_
    refine h_ldr (w := 259) (pc2 := 4) (by decide +kernel) (by decide +kernel) rfl (bR_ref hS.2.1.2.2 (by omega)) ?_
    refine s_getHx (w := 59237383608142378255516438) (pc2 := 7) (by decide +kernel) (c := 1) (x := 1) (by decide +kernel) hS.1 hS.2.1 (by decide) ?_
    refine h_icmp (w := 844424934458130) (pc2 := 10) (by decide +kernel) (b := false) (by decide +kernel) (by omega) (by omega) (zc_ge_f (by omega) (by omega) (by omega)) ?_
    refine h_ldr (w := 259) (pc2 := 11) (by decide +kernel) (by decide +kernel) rfl (bR_ref hS.2.1.2.2 (by omega)) ?_
    refine s_getHr (w := 13298220909530543326364438) (pc2 := 14) (by decide +kernel) (c := 2) (k := 1) (by decide +kernel) hS.1 hS.2.1 (by decide) ?_
    refine h_ldi (w := 65794) (pc2 := 15) (by decide +kernel) (by decide +kernel) rfl (by omega) ?_
    refine s_aldA (w := 286) (pc2 := 16) (by decide +kernel) (by decide +kernel) hS.1 hS.2.1 (by omega) ?_
    refine h_str (w := 131333) (pc2 := 17) (by decide +kernel) (n := 3) (by decide +kernel) rfl (bR_ref hS.2.1.2.2 (by omega)) (ls2 := [bR b 0, k, (bR b (8 + p k))]) rfl ?_
    refine h_ldr (w := 131331) (pc2 := 18) (by decide +kernel) (by decide +kernel) rfl (bR_ref hS.2.1.2.2 (by omega)) ?_
    refine s_getA (w := 101549805741116998099010326) (pc2 := 21) (by decide +kernel) (c := 2) (by decide +kernel) hS.1 hS.2.1 hi ?_
    by_cases q0 : a (100 + 8 * k + 2) = 0
    · skip
      refine h_if (w := 281474980643601) (pc2 := 24) (by decide +kernel) (b := false) (by decide +kernel) (by omega) (zc_ne_f q0) ?_
      refine h_ldr (w := 259) (pc2 := 25) (by decide +kernel) (by decide +kernel) rfl (bR_ref hS.2.1.2.2 (by omega)) ?_
      refine s_getHr (w := 22969645913191650433696534) (pc2 := 28) (by decide +kernel) (c := 3) (k := 2) (by decide +kernel) hS.1 hS.2.1 (by decide) ?_
      refine h_ldr (w := 131331) (pc2 := 29) (by decide +kernel) (by decide +kernel) rfl (bR_ref hS.2.1.2.2 (by omega)) ?_
      refine s_getA (w := 97923009835529036865143574) (pc2 := 32) (by decide +kernel) (c := 1) (by decide +kernel) hS.1 hS.2.1 hi ?_
      rw [← eq]
      refine s_aldL (w := 286) (pc2 := 33) (by decide +kernel) (by decide +kernel) hS.1 hS.2.1 hq ?_
      refine s_getLx (w := 166831800000869923489186582) (pc2 := 36) (by decide +kernel) (c := 2) (by decide +kernel) hS.1 hS.2.1 (q := q) hq (x := 300 + 30 * q + 0) (by omega) ?_
      by_cases q1 : a (300 + 30 * q + 0) = 0
      · have e0 : mT1 a k = a := by
          unfold mT1
          rw [← eq, nb_eq.mpr q0, cond_true, nb_eq.mpr q1, cond_true]
        refine h_if (w := 1407374887486225) (pc2 := 60) (by decide +kernel) (b := true) (by decide +kernel) (by omega) (zc_le_t (by omega) (by decide) (by omega)) ?_
        refine h_inc (w := 281474976776966) (pc2 := 63) (by decide +kernel) (by decide +kernel) rfl (by omega) (c2 := (k + 1)) (by show (_ + 1) % 4294967296 = _; omega) (ls2 := [bR b 0, (k + 1), (bR b (8 + p k))]) rfl ?_
        refine h_goto (w := 131859) (pc2 := 2) (by decide +kernel) (by decide +kernel) ?_
        exact IH (k + 1) _ a m (by omega) hQ hL hS (fun m1 h1 => g m1 (by show bS b p (mTLo d (k + 1) (mT1 a k)) m0 m1; rw [e0]; exact h1))
      · have e0 : mT1 a k = mTl a k q := by
          unfold mT1
          rw [← eq, nb_eq.mpr q0, cond_true, nb_ne.mpr q1, cond_false]
        refine h_if (w := 1407374887486225) (pc2 := 39) (by decide +kernel) (b := false) (by decide +kernel) (by omega) (zc_le_f (by omega) (by decide) (by omega)) ?_
        refine h_ldr (w := 131331) (pc2 := 40) (by decide +kernel) (by decide +kernel) rfl (bR_ref hS.2.1.2.2 (by omega)) ?_
        refine h_con (w := 65793) (pc2 := 41) (by decide +kernel) (v := 1) (by decide +kernel) ?_
        refine s_putA (w := 101549805741116998099010327) (pc2 := 44) (by decide +kernel) (c := 2) (by decide +kernel) hS hi (by decide) (fun h => absurd h (by decide)) ?_
        intro m1 hS1
        rw [← mTl1_d] at hS1
        have hi1 : k < mTl1 a k 1 := by rw [mTl1_d, bU_n (by omega)]; exact hi
        have ev : mTl1 a k (100 + 8 * k + 1) = q := by rw [mTl1_d, bU_n (by omega), eq]
        have el : mTl1 a k (300 + 30 * q + 0) = a (300 + 30 * q + 0) := by rw [mTl1_d, bU_n (by omega)]
        refine h_ldr (w := 131331) (pc2 := 45) (by decide +kernel) (by decide +kernel) rfl (bR_ref hS1.2.1.2.2 (by omega)) ?_
        refine h_ldr (w := 259) (pc2 := 46) (by decide +kernel) (by decide +kernel) rfl (bR_ref hS1.2.1.2.2 (by omega)) ?_
        refine s_getHr (w := 22969645913191650433696534) (pc2 := 49) (by decide +kernel) (c := 3) (k := 2) (by decide +kernel) hS1.1 hS1.2.1 (by decide) ?_
        refine h_ldr (w := 131331) (pc2 := 50) (by decide +kernel) (by decide +kernel) rfl (bR_ref hS1.2.1.2.2 (by omega)) ?_
        refine s_getA (w := 97923009835529036865143574) (pc2 := 53) (by decide +kernel) (c := 1) (by decide +kernel) hS1.1 hS1.2.1 hi1 ?_
        rw [ev]
        refine s_aldL (w := 286) (pc2 := 54) (by decide +kernel) (by decide +kernel) hS1.1 hS1.2.1 hq ?_
        obtain ⟨f0, z0, -⟩ := bM_at (o := 25 + 3 * q) hS1.1 hS1.2.1.2.2 (by omega)
        rw [(kL_o (q := q)).1.1, (kL_o (q := q)).1.2] at z0
        have r1 := bR_ref (o := 25 + 3 * q) hS1.2.1.2.2 (by omega)
        refine h_call (w := 170463594973820385029718821) (a := 35) (by decide +kernel) (by decide +kernel) (zCOk_v (n := 0) (by decide +kernel) rfl z0 (by decide +kernel) ⟨Nat.le_of_ble_eq_true rfl, Nat.le_of_ble_eq_true rfl⟩ (fun c hc => by
            have hc : c ∈ [bR b (25 + 3 * q)] := hc
            simp only [List.mem_cons, List.not_mem_nil, or_false] at hc
            subst hc
            exact r1.2)) (st2 := [bR b (8 + p k)]) rfl (l2 := [bR b (25 + 3 * q), 1099511627776]) (by show (List.take 1 _).reverse ++ List.replicate (zMaxL 35 - 1) _ = _; rw [show zMaxL 35 = 2 by decide +kernel]; rfl) ?_
        refine m35 hS1 hq (by rw [el]; exact h9) (fun z => absurd (el ▸ z) q1) (fun _ m2 hS2 => ?_)
        show gFin sc Q frs 18 57 [bR b 0, k, bR b (8 + p k)] (if zRet 35 = 0 then [bR b (8 + p k)] else [mTl1 a k (303 + 30 * q + 0), bR b (8 + p k)]) m2
        rw [if_neg (show ¬ zRet 35 = 0 by decide +kernel)]
        have v := mTk1_v (a := mTl1 a k) (q := q) (by rw [el]; exact q1) (by rw [el]; exact h9)
        rw [el] at v
        have hi2 : k < mTk (mTl1 a k) q 1 := by rw [mTk_d, v, bSh_n (by omega), mTk1_d, bU_n (by omega)]; exact hi1
        refine s_putA (w := 105176601646704959332811543) (pc2 := 60) (by decide +kernel) (c := 3) (by decide +kernel) hS2 hi2 (hS1.2.1.2.1.1 _) (fun h => absurd h (by decide)) ?_
        intro m3 hS3
        rw [← mTl_d] at hS3
        refine h_inc (w := 281474976776966) (pc2 := 63) (by decide +kernel) (by decide +kernel) rfl (by omega) (c2 := (k + 1)) (by show (_ + 1) % 4294967296 = _; omega) (ls2 := [bR b 0, (k + 1), (bR b (8 + p k))]) rfl ?_
        refine h_goto (w := 131859) (pc2 := 2) (by decide +kernel) (by decide +kernel) ?_
        have en : mTl a k q 1 = a 1 := mTl_n (by omega) q1 h9 (by omega) (by omega) (by omega) (by omega)
        refine IH (k + 1) _ (mTl a k q) m3 (by rw [en]; omega) (fun i hi3 => ?_) (fun r hr => ?_) hS3 (fun m1 h1 => g m1 (by show bS b p (mTLo d (k + 1) (mT1 a k)) m0 m1; rw [e0]; exact h1))
        · rw [en] at hi3
          rw [mTl_n (by omega) q1 h9 (by omega) (by omega) (by omega) (by omega)]
          exact hQ i hi3
        · by_cases er : r = q
          · subst er
            rw [mTl_l (by omega) q1 h9]
            omega
          · rw [mTl_n (by omega) q1 h9 (by omega) (by omega) (by omega) (by omega)]
            exact hL r hr
    · have e0 : mT1 a k = a := by
        unfold mT1
        rw [nb_ne.mpr q0, cond_false]
      refine h_if (w := 281474980643601) (pc2 := 60) (by decide +kernel) (b := true) (by decide +kernel) (by omega) (zc_ne_t q0) ?_
      refine h_inc (w := 281474976776966) (pc2 := 63) (by decide +kernel) (by decide +kernel) rfl (by omega) (c2 := (k + 1)) (by show (_ + 1) % 4294967296 = _; omega) (ls2 := [bR b 0, (k + 1), (bR b (8 + p k))]) rfl ?_
      refine h_goto (w := 131859) (pc2 := 2) (by decide +kernel) (by decide +kernel) ?_
      exact IH (k + 1) _ a m (by omega) hQ hL hS (fun m1 h1 => g m1 (by show bS b p (mTLo d (k + 1) (mT1 a k)) m0 m1; rw [e0]; exact h1))
theorem m18 {x y : Nat} (hS : bS b p a m0 m) (hQ : aQ a) (hL : aL a) (g : ∀ m', bS b p (mTLo (a 1) 0 a) m0 m' → gFin1 sc Q frs 18 0 m') : gFin sc Q frs 18 0 [bR b 0, x, y] [] m := by
  refine h_con (w := 257) (pc2 := 1) (by decide +kernel) (v := 0) (by decide +kernel) ?_
  refine h_sti (w := 65796) (pc2 := 2) (by decide +kernel) (n := 3) (by decide +kernel) rfl (by decide) (ls2 := [bR b 0, 0, y]) rfl ?_
  exact m18_loop (a 1) 0 y a m (Nat.zero_add _) hQ hL hS g
end BG
