/-! ===== the lowest arm that may be lent (printed by wip/gen/m82.py) ===== -/
section BG
variable {sc : List Nat} {Q : Nat → zM → Prop} {frs : gCf} {m m0 : zM} {b : Nat} {p a : Nat → Nat}
def mHf (a : Nat → Nat) (q f : Nat) : Nat → Nat → Nat
  | 0, _ => 4294967295
  | d + 1, k => bif (Nat.beq (a (100 + 8 * k + 2)) 0 && (Nat.beq (a (100 + 8 * k + 4)) 0 && (!Nat.beq (a (100 + 8 * k + 1)) q && Nat.beq (mIn (a (100 + 8 * k + 1)) q) f))) then k else mHf a q f d (k + 1)
theorem m25_loop {q f : Nat} (hS : bS b p a m0 m) (hQ : aQ a) (hq : q < 12) (hf : f < 2) : ∀ (d k x : Nat), k + d = a 1 → gFin1 sc Q frs 25 (mHf a q f d k) m → gFin sc Q frs 25 2 [bR b 0, q, f, k, x] [] m := by
  have h17 := hS.2.1.2.1.2
  intro d
  induction d with
  | zero =>
    intro k x hk g
    refine h_ldi (w := 196866) (pc2 := 3) (by decide +kernel) (by decide +kernel) rfl (by omega) ?_
    refine h_ldr (w := 259) (pc2 := 4) (by decide +kernel) (by decide +kernel) rfl (bR_ref hS.2.1.2.2 (by omega)) ?_
    refine s_getHx (w := 59237383608142378255516438) (pc2 := 7) (by decide +kernel) (c := 1) (x := 1) (by decide +kernel) hS.1 hS.2.1 (by decide) ?_
    refine h_icmp (w := 844424934327058) (pc2 := 64) (by decide +kernel) (b := true) (by decide +kernel) (by omega) (by omega) (zc_ge_t (by omega) (by omega) (by omega)) ?_
    refine h_con (w := 281474976645377) (pc2 := 65) (by decide +kernel) (v := 4294967295) (by decide +kernel) ?_
    exact h_ret (w := 301) (by decide +kernel) (by decide +kernel) (by decide) (fun h => absurd h (by decide +kernel)) g
  | succ d IH =>
    intro k x hk g
    have hi : k < a 1 := by omega
    have hp := hS.2.1.1.1 k (by omega)
    have t2 := hS.2.1.2.1.1 (100 + 8 * k + 2)
    have t4 := hS.2.1.2.1.1 (100 + 8 * k + 4)
    obtain ⟨y, ey⟩ : ∃ y, y = a (100 + 8 * k + 1) := ⟨_, rfl⟩
    have hy : y < 12 := ey ▸ hQ k hi
    have hin := mIn_lt (x := y) (y := q)
    unfold mHf at g
    rw [← ey] at g
    refine h_ldi (w := 196866) (pc2 := 3) (by decide +kernel) (by decide +kernel) rfl (by omega) ?_
    refine h_ldr (w := 259) (pc2 := 4) (by decide +kernel) (by decide +kernel) rfl (bR_ref hS.2.1.2.2 (by omega)) ?_
    refine s_getHx (w := 59237383608142378255516438) (pc2 := 7) (by decide +kernel) (c := 1) (x := 1) (by decide +kernel) hS.1 hS.2.1 (by decide) ?_
    refine h_icmp (w := 844424934327058) (pc2 := 10) (by decide +kernel) (b := false) (by decide +kernel) (by omega) (by omega) (zc_ge_f (by omega) (by omega) (by omega)) ?_
    refine h_ldr (w := 259) (pc2 := 11) (by decide +kernel) (by decide +kernel) rfl (bR_ref hS.2.1.2.2 (by omega)) ?_
    refine s_getHr (w := 13298220909530543326364438) (pc2 := 14) (by decide +kernel) (c := 2) (k := 1) (by decide +kernel) hS.1 hS.2.1 (by decide) ?_
    refine h_ldi (w := 196866) (pc2 := 15) (by decide +kernel) (by decide +kernel) rfl (by omega) ?_
    refine s_aldA (w := 286) (pc2 := 16) (by decide +kernel) (by decide +kernel) hS.1 hS.2.1 (by omega) ?_
    refine h_str (w := 281474976973317) (pc2 := 18) (by decide +kernel) (n := 5) (by decide +kernel) rfl (bR_ref hS.2.1.2.2 (by omega)) (ls2 := [bR b 0, q, f, k, (bR b (8 + p k))]) rfl ?_
    refine h_ldr (w := 281474976973315) (pc2 := 20) (by decide +kernel) (by decide +kernel) rfl (bR_ref hS.2.1.2.2 (by omega)) ?_
    refine s_getA (w := 101549805741116998099010326) (pc2 := 23) (by decide +kernel) (c := 2) (by decide +kernel) hS.1 hS.2.1 hi ?_
    by_cases q0 : ¬ a (100 + 8 * k + 2) = 0
    · rw [show (Nat.beq (a (100 + 8 * k + 2)) 0 && (Nat.beq (a (100 + 8 * k + 4)) 0 && (!Nat.beq y q && Nat.beq (mIn y q) f))) = false from by rw [nb_ne.mpr q0]; rfl, cond_false] at g
      refine h_if (w := 281474980512529) (pc2 := 58) (by decide +kernel) (b := true) (by decide +kernel) (by omega) (zc_ne_t q0) ?_
      refine h_inc (w := 844424930198278) (pc2 := 61) (by decide +kernel) (by decide +kernel) rfl (by omega) (c2 := (k + 1)) (by show (_ + 1) % 4294967296 = _; omega) (ls2 := [bR b 0, q, f, (k + 1), (bR b (8 + p k))]) rfl ?_
      refine h_goto (w := 131859) (pc2 := 2) (by decide +kernel) (by decide +kernel) ?_
      exact IH (k + 1) _ (by omega) g
    rw [Decidable.not_not] at q0
    refine h_if (w := 281474980512529) (pc2 := 26) (by decide +kernel) (b := false) (by decide +kernel) (by omega) (zc_ne_f q0) ?_
    refine h_ldr (w := 281474976973315) (pc2 := 28) (by decide +kernel) (by decide +kernel) rfl (bR_ref hS.2.1.2.2 (by omega)) ?_
    refine s_getA (w := 221233498776453433814418198) (pc2 := 31) (by decide +kernel) (c := 4) (by decide +kernel) hS.1 hS.2.1 hi ?_
    by_cases q1 : ¬ a (100 + 8 * k + 4) = 0
    · rw [show (Nat.beq (a (100 + 8 * k + 2)) 0 && (Nat.beq (a (100 + 8 * k + 4)) 0 && (!Nat.beq y q && Nat.beq (mIn y q) f))) = false from by rw [nb_eq.mpr q0, nb_ne.mpr q1]; rfl, cond_false] at g
      refine h_if (w := 281474980512529) (pc2 := 58) (by decide +kernel) (b := true) (by decide +kernel) (by omega) (zc_ne_t q1) ?_
      refine h_inc (w := 844424930198278) (pc2 := 61) (by decide +kernel) (by decide +kernel) rfl (by omega) (c2 := (k + 1)) (by show (_ + 1) % 4294967296 = _; omega) (ls2 := [bR b 0, q, f, (k + 1), (bR b (8 + p k))]) rfl ?_
      refine h_goto (w := 131859) (pc2 := 2) (by decide +kernel) (by decide +kernel) ?_
      exact IH (k + 1) _ (by omega) g
    rw [Decidable.not_not] at q1
    refine h_if (w := 281474980512529) (pc2 := 34) (by decide +kernel) (b := false) (by decide +kernel) (by omega) (zc_ne_f q1) ?_
    refine h_ldr (w := 281474976973315) (pc2 := 36) (by decide +kernel) (by decide +kernel) rfl (bR_ref hS.2.1.2.2 (by omega)) ?_
    refine s_getA (w := 97923009835529036865143574) (pc2 := 39) (by decide +kernel) (c := 1) (by decide +kernel) hS.1 hS.2.1 hi ?_
    rw [← ey]
    refine h_ldi (w := 65794) (pc2 := 40) (by decide +kernel) (by decide +kernel) rfl (by omega) ?_
    by_cases q2 : y = q
    · rw [show (Nat.beq (a (100 + 8 * k + 2)) 0 && (Nat.beq (a (100 + 8 * k + 4)) 0 && (!Nat.beq y q && Nat.beq (mIn y q) f))) = false from by rw [nb_eq.mpr q0, nb_eq.mpr q1, nb_eq.mpr q2]; rfl, cond_false] at g
      refine h_icmp (w := 3801874) (pc2 := 58) (by decide +kernel) (b := true) (by decide +kernel) (by omega) (by omega) (zc_eq_t q2) ?_
      refine h_inc (w := 844424930198278) (pc2 := 61) (by decide +kernel) (by decide +kernel) rfl (by omega) (c2 := (k + 1)) (by show (_ + 1) % 4294967296 = _; omega) (ls2 := [bR b 0, q, f, (k + 1), (bR b (8 + p k))]) rfl ?_
      refine h_goto (w := 131859) (pc2 := 2) (by decide +kernel) (by decide +kernel) ?_
      exact IH (k + 1) _ (by omega) g
    refine h_icmp (w := 3801874) (pc2 := 43) (by decide +kernel) (b := false) (by decide +kernel) (by omega) (by omega) (zc_eq_f q2) ?_
    refine h_ldr (w := 281474976973315) (pc2 := 45) (by decide +kernel) (by decide +kernel) rfl (bR_ref hS.2.1.2.2 (by omega)) ?_
    refine s_getA (w := 97923009835529036865143574) (pc2 := 48) (by decide +kernel) (c := 1) (by decide +kernel) hS.1 hS.2.1 hi ?_
    rw [← ey]
    refine h_ldi (w := 65794) (pc2 := 49) (by decide +kernel) (by decide +kernel) rfl (by omega) ?_
    refine h_call (w := 122107004911374462048863016) (a := 57) (by decide +kernel) (by decide +kernel) (zCOk_t (n := 2) (by decide +kernel) (by decide +kernel) ⟨Nat.le_of_ble_eq_true rfl, Nat.le_of_ble_eq_true rfl⟩ (fun c hc => by
        have hc : c ∈ [q, y] := hc
        simp only [List.mem_cons, List.not_mem_nil, or_false] at hc
        omega)) (st2 := []) rfl (l2 := [y, q]) (by show (List.take 2 _).reverse ++ List.replicate (zMaxL 57 - 2) _ = _; rw [show zMaxL 57 = 2 by decide +kernel]; rfl) ?_
    refine m57 hy hq ?_
    show gFin sc Q frs 25 52 [bR b 0, q, f, k, (bR b (8 + p k))] (if zRet 57 = 0 then [] else [mIn y q]) m
    rw [if_neg (show ¬ zRet 57 = 0 by decide +kernel)]
    refine h_ldi (w := 131330) (pc2 := 53) (by decide +kernel) (by decide +kernel) rfl (by omega) ?_
    by_cases q3 : ¬ mIn y q = f
    · rw [show (Nat.beq (a (100 + 8 * k + 2)) 0 && (Nat.beq (a (100 + 8 * k + 4)) 0 && (!Nat.beq y q && Nat.beq (mIn y q) f))) = false from by rw [nb_eq.mpr q0, nb_eq.mpr q1, nb_ne.mpr q2, nb_ne.mpr q3]; rfl, cond_false] at g
      refine h_icmp (w := 281474980512530) (pc2 := 58) (by decide +kernel) (b := true) (by decide +kernel) (by omega) (by omega) (zc_ne_t q3) ?_
      refine h_inc (w := 844424930198278) (pc2 := 61) (by decide +kernel) (by decide +kernel) rfl (by omega) (c2 := (k + 1)) (by show (_ + 1) % 4294967296 = _; omega) (ls2 := [bR b 0, q, f, (k + 1), (bR b (8 + p k))]) rfl ?_
      refine h_goto (w := 131859) (pc2 := 2) (by decide +kernel) (by decide +kernel) ?_
      exact IH (k + 1) _ (by omega) g
    rw [Decidable.not_not] at q3
    rw [show (Nat.beq (a (100 + 8 * k + 2)) 0 && (Nat.beq (a (100 + 8 * k + 4)) 0 && (!Nat.beq y q && Nat.beq (mIn y q) f))) = true from by rw [nb_eq.mpr q0, nb_eq.mpr q1, nb_ne.mpr q2, nb_eq.mpr q3]; rfl, cond_true] at g
    refine h_icmp (w := 281474980512530) (pc2 := 56) (by decide +kernel) (b := false) (by decide +kernel) (by omega) (by omega) (zc_ne_f q3) ?_
    refine h_ldi (w := 196866) (pc2 := 57) (by decide +kernel) (by decide +kernel) rfl (by omega) ?_
    exact h_ret (w := 301) (by decide +kernel) (by decide +kernel) (by omega) (fun h => absurd h (by decide +kernel)) g
theorem m25 {q f x y : Nat} (hS : bS b p a m0 m) (hQ : aQ a) (hq : q < 12) (hf : f < 2) (g : gFin1 sc Q frs 25 (mHf a q f (a 1) 0) m) : gFin sc Q frs 25 0 [bR b 0, q, f, x, y] [] m := by
  refine h_con (w := 257) (pc2 := 1) (by decide +kernel) (v := 0) (by decide +kernel) ?_
  refine h_sti (w := 196868) (pc2 := 2) (by decide +kernel) (n := 5) (by decide +kernel) rfl (by decide) (ls2 := [bR b 0, q, f, 0, y]) rfl ?_
  exact m25_loop hS hQ hq hf (a 1) 0 y (Nat.zero_add _) g
end BG
