/-! ===== loadAll: no line takes more than there is room for (printed by wip/gen/hand.py) ===== -/
/-- what the told rows from k on, d of them, bring to a quay -/
def tS (ft : Nat → Nat) (q : Nat) : Nat → Nat → Nat
  | 0, _ => 0
  | d + 1, k => (if ft (3 * k) = q then ft (3 * k + 2) else 0) + tS ft q d (k + 1)
def tV (a : Nat) : Nat := bif Nat.blt 9 a then 1 else 0
theorem tV_t {a : Nat} (h : 9 < a) : tV a = 1 := by
  unfold tV
  rw [nl_lt.mpr h]
  rfl
theorem tV_f {a : Nat} (h : ¬ 9 < a) : tV a = 0 := by
  unfold tV
  rw [nl_nlt.mpr (by omega)]
  rfl
section TA
variable {sc : List Nat} {Q : Nat → zM → Prop} {frs : gCf} {m : zM} {rM rN rT T : Nat} {fM fn ft : Nat → Nat}
theorem tf_loop {q : Nat} (hM : zAt m rM = some (6, 12, fM)) (hT : zAt m rT = some (7, 60, ft)) (e10 : fM 10 = rT) (e11 : fM 11 = T) (hT20 : T ≤ 20) (hq : q < 12) (t0 : ∀ j, j < 20 → ft (3 * j) ≤ 11) (t2 : ∀ j, j < 20 → ft (3 * j + 2) ≤ 9) : ∀ (d k acc : Nat), k + d = T → acc ≤ 9 + 9 * k → gFin1 sc Q frs 114 (tV (acc + tS ft q d k)) m → gFin sc Q frs 114 11 [rM, q, acc, k] [] m := by
  have bM := zAt_lt hM
  have bT := zAt_lt hT
  intro d
  induction d with
  | zero =>
    intro k acc hk ha g
    have g : gFin1 sc Q frs 114 (tV acc) m := g
    refine h_ldi (w := 196866) (pc2 := 12) (by decide +kernel) (by decide +kernel) rfl (by omega) ?_
    refine h_ldr (w := 259) (pc2 := 13) (by decide +kernel) (by decide +kernel) rfl bM ?_
    refine h_get (w := 136608820532326757445534486) (pc2 := 16) (by decide +kernel) (by decide +kernel) hM (v := T) e11 ?_
    refine h_icmp (w := 844424933671698) (pc2 := 54) (by decide +kernel) (b := true) (by decide +kernel) (by omega) (by omega) (zc_ge_t (by omega) (by omega) (by omega)) ?_
    refine h_ldi (w := 131330) (pc2 := 55) (by decide +kernel) (by decide +kernel) rfl (by omega) ?_
    refine h_con (w := 281474977300993) (pc2 := 57) (by decide +kernel) (v := 9) (by decide +kernel) ?_
    by_cases q9 : 9 < acc
    · rw [tV_t q9] at g
      refine h_icmp (w := 1407374887748370) (pc2 := 60) (by decide +kernel) (b := false) (by decide +kernel) (by omega) (by omega) (zc_le_f (by omega) (by omega) (by omega)) ?_
      refine h_con (w := 65793) (pc2 := 61) (by decide +kernel) (v := 1) (by decide +kernel) ?_
      refine h_goto (w := 4260627) (pc2 := 65) (by decide +kernel) (by decide +kernel) ?_
      exact h_ret (w := 301) (by decide +kernel) (by decide +kernel) (by decide) (fun _ => by decide) g
    · rw [tV_f q9] at g
      refine h_icmp (w := 1407374887748370) (pc2 := 64) (by decide +kernel) (b := true) (by decide +kernel) (by omega) (by omega) (zc_le_t (by omega) (by omega) (by omega)) ?_
      refine h_con (w := 257) (pc2 := 65) (by decide +kernel) (v := 0) (by decide +kernel) ?_
      exact h_ret (w := 301) (by decide +kernel) (by decide +kernel) (by decide) (fun _ => by decide) g
  | succ d IH =>
    intro k acc hk ha g
    have b0 := t0 k (by omega)
    have b2 := t2 k (by omega)
    refine h_ldi (w := 196866) (pc2 := 12) (by decide +kernel) (by decide +kernel) rfl (by omega) ?_
    refine h_ldr (w := 259) (pc2 := 13) (by decide +kernel) (by decide +kernel) rfl bM ?_
    refine h_get (w := 136608820532326757445534486) (pc2 := 16) (by decide +kernel) (by decide +kernel) hM (v := T) e11 ?_
    refine h_icmp (w := 844424933671698) (pc2 := 19) (by decide +kernel) (b := false) (by decide +kernel) (by omega) (by omega) (zc_ge_f (by omega) (by omega) (by omega)) ?_
    refine h_ldi (w := 131330) (pc2 := 20) (by decide +kernel) (by decide +kernel) rfl (by omega) ?_
    refine h_ldr (w := 259) (pc2 := 21) (by decide +kernel) (by decide +kernel) rfl bM ?_
    refine h_get (w := 30223329959495316361773846) (pc2 := 24) (by decide +kernel) (by decide +kernel) hM (v := rT) e10 ?_
    refine h_con (w := 196865) (pc2 := 25) (by decide +kernel) (v := 3) (by decide +kernel) ?_
    refine h_ldi (w := 196866) (pc2 := 26) (by decide +kernel) (by decide +kernel) rfl (by omega) ?_
    refine h_mul (w := 265) (pc2 := 27) (by decide +kernel) (by decide +kernel) (by omega) (by omega) (c := (3 * k)) (by omega) ?_
    refine h_ald (w := 282) (pc2 := 28) (by decide +kernel) (by decide +kernel) hT (j := (3 * k)) (by omega) (by decide) (v := (ft (3 * k))) rfl (by omega) ?_
    refine h_ldi (w := 65794) (pc2 := 29) (by decide +kernel) (by decide +kernel) rfl (by omega) ?_
    by_cases qe : ft (3 * k) = q
    · have e : acc + tS ft q (d + 1) k = acc + ft (3 * k + 2) + tS ft q d (k + 1) := by
        simp only [tS, if_pos qe]
        omega
      rw [e] at g
      refine h_icmp (w := 281474979660562) (pc2 := 32) (by decide +kernel) (b := false) (by decide +kernel) (by omega) (by omega) (zc_ne_f qe) ?_
      refine h_ldr (w := 259) (pc2 := 33) (by decide +kernel) (by decide +kernel) rfl bM ?_
      refine h_get (w := 30223329959495316361773846) (pc2 := 36) (by decide +kernel) (by decide +kernel) hM (v := rT) e10 ?_
      refine h_con (w := 196865) (pc2 := 37) (by decide +kernel) (v := 3) (by decide +kernel) ?_
      refine h_ldi (w := 196866) (pc2 := 38) (by decide +kernel) (by decide +kernel) rfl (by omega) ?_
      refine h_mul (w := 265) (pc2 := 39) (by decide +kernel) (by decide +kernel) (by omega) (by omega) (c := (3 * k)) (by omega) ?_
      refine h_con (w := 131329) (pc2 := 40) (by decide +kernel) (v := 2) (by decide +kernel) ?_
      refine h_add (w := 263) (pc2 := 41) (by decide +kernel) (by decide +kernel) (by omega) (by omega) (c := ((3 * k) + 2)) (by omega) ?_
      refine h_ald (w := 282) (pc2 := 42) (by decide +kernel) (by decide +kernel) hT (j := ((3 * k) + 2)) (by omega) (by decide) (v := (ft (3 * k + 2))) rfl (by omega) ?_
      refine h_goto (w := 3015443) (pc2 := 46) (by decide +kernel) (by decide +kernel) ?_
      refine h_add (w := 263) (pc2 := 47) (by decide +kernel) (by decide +kernel) (by omega) (by omega) (c := (acc + ft (3 * k + 2))) (by omega) ?_
      refine h_sti (w := 131332) (pc2 := 48) (by decide +kernel) (n := 4) (by decide +kernel) rfl (by omega) (ls2 := [rM, q, (acc + ft (3 * k + 2)), k]) rfl ?_
      refine h_inc (w := 844424930198278) (pc2 := 51) (by decide +kernel) (by decide +kernel) rfl (by omega) (c2 := (k + 1)) (by show (_ + 1) % 4294967296 = _; omega) (ls2 := [rM, q, (acc + ft (3 * k + 2)), (k + 1)]) rfl ?_
      refine h_goto (w := 721683) (pc2 := 11) (by decide +kernel) (by decide +kernel) ?_
      refine IH (k + 1) (acc + ft (3 * k + 2)) (by omega) (by omega) ?_
      exact g
    have e : acc + tS ft q (d + 1) k = acc + tS ft q d (k + 1) := by
      simp only [tS, if_neg qe]
      omega
    rw [e] at g
    refine h_icmp (w := 281474979660562) (pc2 := 45) (by decide +kernel) (b := true) (by decide +kernel) (by omega) (by omega) (zc_ne_t qe) ?_
    refine h_con (w := 257) (pc2 := 46) (by decide +kernel) (v := 0) (by decide +kernel) ?_
    refine h_add (w := 263) (pc2 := 47) (by decide +kernel) (by decide +kernel) (by omega) (by omega) (c := acc) (by omega) ?_
    refine h_sti (w := 131332) (pc2 := 48) (by decide +kernel) (n := 4) (by decide +kernel) rfl (by omega) (ls2 := [rM, q, acc, k]) rfl ?_
    refine h_inc (w := 844424930198278) (pc2 := 51) (by decide +kernel) (by decide +kernel) rfl (by omega) (c2 := (k + 1)) (by show (_ + 1) % 4294967296 = _; omega) (ls2 := [rM, q, acc, (k + 1)]) rfl ?_
    refine h_goto (w := 721683) (pc2 := 11) (by decide +kernel) (by decide +kernel) ?_
    exact IH (k + 1) acc (by omega) (by omega) g
theorem wa_run {q : Nat} (hN : zAt m rN = some (7, 471, fn)) (hq : q < 12) (hv : fn (231 + 20 * q) ≤ 9) (g : gFin1 sc Q frs 85 (fn (231 + 20 * q)) m) : gFin sc Q frs 85 0 [rN, q] [] m := by
  have bN := zAt_lt hN
  refine h_ldr (w := 259) (pc2 := 1) (by decide +kernel) (by decide +kernel) rfl bN ?_
  refine h_con (w := 562949968560897) (pc2 := 4) (by decide +kernel) (v := 231) (by decide +kernel) ?_
  refine h_con (w := 281474978021889) (pc2 := 6) (by decide +kernel) (v := 20) (by decide +kernel) ?_
  refine h_ldi (w := 65794) (pc2 := 7) (by decide +kernel) (by decide +kernel) rfl (by omega) ?_
  refine h_mul (w := 265) (pc2 := 8) (by decide +kernel) (by decide +kernel) (by omega) (by omega) (c := (20 * q)) (by omega) ?_
  refine h_add (w := 263) (pc2 := 9) (by decide +kernel) (by decide +kernel) (by omega) (by omega) (c := (231 + 20 * q)) (by omega) ?_
  refine h_ald (w := 282) (pc2 := 10) (by decide +kernel) (by decide +kernel) hN (j := (231 + 20 * q)) (by omega) (by decide) (v := (fn (231 + 20 * q))) rfl (by omega) ?_
  exact h_ret (w := 301) (by decide +kernel) (by decide +kernel) (by omega) (fun h => absurd h (by decide +kernel)) g
theorem tf_run {q : Nat} (hM : zAt m rM = some (6, 12, fM)) (hN : zAt m rN = some (7, 471, fn)) (hT : zAt m rT = some (7, 60, ft)) (e0 : fM 0 = rN) (e10 : fM 10 = rT) (e11 : fM 11 = T) (hT20 : T ≤ 20) (hq : q < 12) (hv : fn (231 + 20 * q) ≤ 9) (t0 : ∀ j, j < 20 → ft (3 * j) ≤ 11) (t2 : ∀ j, j < 20 → ft (3 * j + 2) ≤ 9) (g : gFin1 sc Q frs 114 (tV (fn (231 + 20 * q) + tS ft q T 0)) m) : gFin sc Q frs 114 0 [rM, q, 1099511627776, 1099511627776] [] m := by
  have bM := zAt_lt hM
  have bN := zAt_lt hN
  refine h_ldr (w := 259) (pc2 := 1) (by decide +kernel) (by decide +kernel) rfl bM ?_
  refine h_get (w := 8462480738991254120891158) (pc2 := 4) (by decide +kernel) (by decide +kernel) hM (v := rN) e0 ?_
  refine h_ldi (w := 65794) (pc2 := 5) (by decide +kernel) (by decide +kernel) rfl (by omega) ?_
  refine h_call (w := 61667299418277317625316134) (a := 85) (by decide +kernel) (by decide +kernel) (zCOk_s (n := 2) (by decide +kernel) (by decide +kernel) ⟨Nat.le_of_ble_eq_true rfl, Nat.le_of_ble_eq_true rfl⟩ (fun c hc => by
      have hc : c ∈ [q, rN] := hc
      simp only [List.mem_cons, List.not_mem_nil, or_false] at hc
      rcases hc with rfl | rfl <;> omega)) (st2 := []) rfl (l2 := [rN, q]) (by show (List.take 2 _).reverse ++ List.replicate (zMaxL 85 - 2) _ = _; rw [show zMaxL 85 = 2 by decide +kernel]; rfl) ?_
  refine wa_run hN hq hv ?_
  show gFin sc Q frs 114 8 [rM, q, 1099511627776, 1099511627776] (if zRet 85 = 0 then [] else [fn (231 + 20 * q)]) m
  rw [if_neg (by decide +kernel)]
  refine h_sti (w := 131332) (pc2 := 9) (by decide +kernel) (n := 4) (by decide +kernel) rfl (by omega) (ls2 := [rM, q, (fn (231 + 20 * q)), 1099511627776]) rfl ?_
  refine h_con (w := 257) (pc2 := 10) (by decide +kernel) (v := 0) (by decide +kernel) ?_
  refine h_sti (w := 196868) (pc2 := 11) (by decide +kernel) (n := 4) (by decide +kernel) rfl (by omega) (ls2 := [rM, q, (fn (231 + 20 * q)), 0]) rfl ?_
  exact tf_loop hM hT e10 e11 hT20 hq t0 t2 T 0 _ (by omega) (by omega) g
theorem ql_loop {x : Nat} (hM : zAt m rM = some (6, 12, fM)) (hN : zAt m rN = some (7, 471, fn)) (hT : zAt m rT = some (7, 60, ft)) (e0 : fM 0 = rN) (e10 : fM 10 = rT) (e11 : fM 11 = T) (hT20 : T ≤ 20) (hv : ∀ q, q < 12 → fn (231 + 20 * q) ≤ 9) (t0 : ∀ j, j < 20 → ft (3 * j) ≤ 11) (t2 : ∀ j, j < 20 → ft (3 * j + 2) ≤ 9)
    (hEnd : gFin1 sc Q frs 115 4294967293 m) (hGo : (∀ p, p < 12 → fn (231 + 20 * p) + tS ft p T 0 ≤ 9) → gFin sc Q frs 115 40 [rM, 12, x] [] m) : ∀ (d q : Nat), q + d = 12 → (∀ p, p < q → fn (231 + 20 * p) + tS ft p T 0 ≤ 9) → gFin sc Q frs 115 17 [rM, q, x] [] m := by
  have bM := zAt_lt hM
  intro d
  induction d with
  | zero =>
    intro q hq hp
    have e : q = 12 := by omega
    subst e
    refine h_ldi (w := 65794) (pc2 := 18) (by decide +kernel) (by decide +kernel) rfl (by omega) ?_
    refine h_con (w := 281474977497601) (pc2 := 20) (by decide +kernel) (v := 12) (by decide +kernel) ?_
    refine h_icmp (w := 844424932754194) (pc2 := 40) (by decide +kernel) (b := true) (by decide +kernel) (by omega) (by omega) (zc_ge_t (by decide) (by decide) (by decide)) ?_
    exact hGo hp
  | succ d IH =>
    intro q hq hp
    refine h_ldi (w := 65794) (pc2 := 18) (by decide +kernel) (by decide +kernel) rfl (by omega) ?_
    refine h_con (w := 281474977497601) (pc2 := 20) (by decide +kernel) (v := 12) (by decide +kernel) ?_
    refine h_icmp (w := 844424932754194) (pc2 := 23) (by decide +kernel) (b := false) (by decide +kernel) (by omega) (by omega) (zc_ge_f (by omega) (by omega) (by omega)) ?_
    refine h_ldr (w := 259) (pc2 := 24) (by decide +kernel) (by decide +kernel) rfl bM ?_
    refine h_ldi (w := 65794) (pc2 := 25) (by decide +kernel) (by decide +kernel) rfl (by omega) ?_
    refine h_call (w := 148710954554710598521848613) (a := 114) (by decide +kernel) (by decide +kernel) (zCOk_v (n := 1) (by decide +kernel) rfl hM (by decide +kernel) ⟨Nat.le_of_ble_eq_true rfl, Nat.le_of_ble_eq_true rfl⟩ (fun c hc => by
        have hc : c ∈ [q, rM] := hc
        simp only [List.mem_cons, List.not_mem_nil, or_false] at hc
        rcases hc with rfl | rfl <;> omega)) (st2 := []) rfl (l2 := [rM, q, 1099511627776, 1099511627776]) (by show (List.take 2 _).reverse ++ List.replicate (zMaxL 114 - 2) _ = _; rw [show zMaxL 114 = 4 by decide +kernel]; rfl) ?_
    refine tf_run hM hN hT e0 e10 e11 hT20 (by omega) (hv q (by omega)) t0 t2 ?_
    show gFin sc Q frs 115 28 [rM, q, x] (if zRet 114 = 0 then [] else [tV (fn (231 + 20 * q) + tS ft q T 0)]) m
    rw [if_neg (show ¬ zRet 114 = 0 by decide +kernel)]
    by_cases q9 : 9 < fn (231 + 20 * q) + tS ft q T 0
    · rw [tV_t q9]
      refine h_if (w := 2229009) (pc2 := 31) (by decide +kernel) (b := false) (by decide +kernel) (by omega) (zc_eq_f (by decide)) ?_
      refine h_con (w := 562949953225217) (pc2 := 33) (by decide +kernel) (v := 4294967293) (by decide +kernel) ?_
      exact h_ret (w := 301) (by decide +kernel) (by decide +kernel) (by decide) (fun h => absurd h (by decide +kernel)) hEnd
    · rw [tV_f q9]
      refine h_if (w := 2229009) (pc2 := 34) (by decide +kernel) (b := true) (by decide +kernel) (by omega) (zc_eq_t rfl) ?_
      refine h_inc (w := 281474976776966) (pc2 := 37) (by decide +kernel) (by decide +kernel) rfl (by omega) (c2 := (q + 1)) (by show (_ + 1) % 4294967296 = _; omega) (ls2 := [rM, (q + 1), x]) rfl ?_
      refine h_goto (w := 1114899) (pc2 := 17) (by decide +kernel) (by decide +kernel) ?_
      refine IH (q + 1) (by omega) (fun p hp2 => ?_)
      by_cases e : p = q
      · subst e
        omega
      · exact hp p (by omega)
end TA
section TB
variable {sc : List Nat} {Q : Nat → zM → Prop} {frs : gCf} {rM rN rT T : Nat} {fM ft : Nat → Nat} {MN : (Nat → Nat) → zM}
theorem zUp_s {f : Nat → Nat} {k v : Nat} : zUp f k v k = v := if_pos rfl
theorem zUp_n {f : Nat → Nat} {k v j : Nat} (h : j ≠ k) : zUp f k v j = f j := if_neg h
def tL (g : Nat → Nat) (q l v : Nat) : Nat → Nat := zUp (zUp (zUp g (231 + 20 * q + 2 + 2 * l) v) (231 + 20 * q + 3 + 2 * l) 0) (231 + 20 * q) (l + 1)
theorem ld_run {q l v : Nat} {g : Nat → Nat} (hM : ∀ g, zAt (MN g) rM = some (6, 12, fM)) (hN : ∀ g, zAt (MN g) rN = some (7, 471, g)) (hS : ∀ g g2, (MN g).set (rN - 4294967297) (7, 471, g2) = MN g2) (e0 : fM 0 = rN) (hq : q < 12) (hl : g (231 + 20 * q) = l) (hl8 : l ≤ 8) (hv : v < 4294967296) (k : gFin1 sc Q frs 111 0 (MN (tL g q l v))) : gFin sc Q frs 111 0 [rM, q, v, 1099511627776] [] (MN g) := by
  have bM := zAt_lt (hM g)
  have bN := zAt_lt (hN g)
  have e1 : zUp g (231 + 20 * q + 2 + 2 * l) v (231 + 20 * q) = l := (zUp_n (by omega)).trans hl
  have e2 : zUp (zUp g (231 + 20 * q + 2 + 2 * l) v) (231 + 20 * q + 3 + 2 * l) 0 (231 + 20 * q) = l := (zUp_n (by omega)).trans e1
  refine h_con (w := 562949968560897) (pc2 := 3) (by decide +kernel) (v := 231) (by decide +kernel) ?_
  refine h_con (w := 281474978021889) (pc2 := 5) (by decide +kernel) (v := 20) (by decide +kernel) ?_
  refine h_ldi (w := 65794) (pc2 := 6) (by decide +kernel) (by decide +kernel) rfl (by omega) ?_
  refine h_mul (w := 265) (pc2 := 7) (by decide +kernel) (by decide +kernel) (by omega) (by omega) (c := (20 * q)) (by omega) ?_
  refine h_add (w := 263) (pc2 := 8) (by decide +kernel) (by decide +kernel) (by omega) (by omega) (c := (231 + 20 * q)) (by omega) ?_
  refine h_sti (w := 196868) (pc2 := 9) (by decide +kernel) (n := 4) (by decide +kernel) rfl (by omega) (ls2 := [rM, q, v, (231 + 20 * q)]) rfl ?_
  refine h_ldr (w := 259) (pc2 := 10) (by decide +kernel) (by decide +kernel) rfl bM ?_
  refine h_get (w := 8462480738991254120891158) (pc2 := 13) (by decide +kernel) (by decide +kernel) (hM _) (v := rN) e0 ?_
  refine h_ldi (w := 196866) (pc2 := 14) (by decide +kernel) (by decide +kernel) rfl (by omega) ?_
  refine h_con (w := 131329) (pc2 := 15) (by decide +kernel) (v := 2) (by decide +kernel) ?_
  refine h_add (w := 263) (pc2 := 16) (by decide +kernel) (by decide +kernel) (by omega) (by omega) (c := (231 + 20 * q + 2)) (by omega) ?_
  refine h_con (w := 131329) (pc2 := 17) (by decide +kernel) (v := 2) (by decide +kernel) ?_
  refine h_ldr (w := 259) (pc2 := 18) (by decide +kernel) (by decide +kernel) rfl bM ?_
  refine h_get (w := 8462480738991254120891158) (pc2 := 21) (by decide +kernel) (by decide +kernel) (hM _) (v := rN) e0 ?_
  refine h_ldi (w := 196866) (pc2 := 22) (by decide +kernel) (by decide +kernel) rfl (by omega) ?_
  refine h_ald (w := 282) (pc2 := 23) (by decide +kernel) (by decide +kernel) (hN _) (j := (231 + 20 * q)) (by omega) (by decide) (v := l) hl (by omega) ?_
  refine h_mul (w := 265) (pc2 := 24) (by decide +kernel) (by decide +kernel) (by omega) (by omega) (c := (2 * l)) (by omega) ?_
  refine h_add (w := 263) (pc2 := 25) (by decide +kernel) (by decide +kernel) (by omega) (by omega) (c := (231 + 20 * q + 2 + 2 * l)) (by omega) ?_
  refine h_ldi (w := 131330) (pc2 := 26) (by decide +kernel) (by decide +kernel) rfl (by omega) ?_
  refine h_ast (w := 283) (pc2 := 27) (by decide +kernel) (by decide +kernel) (hN _) (j := (231 + 20 * q + 2 + 2 * l)) (by omega) (by decide) (by omega) (m2 := (MN (zUp g (231 + 20 * q + 2 + 2 * l) v))) (hS _ _) ?_
  refine h_ldr (w := 259) (pc2 := 28) (by decide +kernel) (by decide +kernel) rfl bM ?_
  refine h_get (w := 8462480738991254120891158) (pc2 := 31) (by decide +kernel) (by decide +kernel) (hM _) (v := rN) e0 ?_
  refine h_ldi (w := 196866) (pc2 := 32) (by decide +kernel) (by decide +kernel) rfl (by omega) ?_
  refine h_con (w := 196865) (pc2 := 33) (by decide +kernel) (v := 3) (by decide +kernel) ?_
  refine h_add (w := 263) (pc2 := 34) (by decide +kernel) (by decide +kernel) (by omega) (by omega) (c := (231 + 20 * q + 3)) (by omega) ?_
  refine h_con (w := 131329) (pc2 := 35) (by decide +kernel) (v := 2) (by decide +kernel) ?_
  refine h_ldr (w := 259) (pc2 := 36) (by decide +kernel) (by decide +kernel) rfl bM ?_
  refine h_get (w := 8462480738991254120891158) (pc2 := 39) (by decide +kernel) (by decide +kernel) (hM _) (v := rN) e0 ?_
  refine h_ldi (w := 196866) (pc2 := 40) (by decide +kernel) (by decide +kernel) rfl (by omega) ?_
  refine h_ald (w := 282) (pc2 := 41) (by decide +kernel) (by decide +kernel) (hN _) (j := (231 + 20 * q)) (by omega) (by decide) (v := l) e1 (by omega) ?_
  refine h_mul (w := 265) (pc2 := 42) (by decide +kernel) (by decide +kernel) (by omega) (by omega) (c := (2 * l)) (by omega) ?_
  refine h_add (w := 263) (pc2 := 43) (by decide +kernel) (by decide +kernel) (by omega) (by omega) (c := (231 + 20 * q + 3 + 2 * l)) (by omega) ?_
  refine h_con (w := 257) (pc2 := 44) (by decide +kernel) (v := 0) (by decide +kernel) ?_
  refine h_ast (w := 283) (pc2 := 45) (by decide +kernel) (by decide +kernel) (hN _) (j := (231 + 20 * q + 3 + 2 * l)) (by omega) (by decide) (by omega) (m2 := (MN (zUp (zUp g (231 + 20 * q + 2 + 2 * l) v) (231 + 20 * q + 3 + 2 * l) 0))) (hS _ _) ?_
  refine h_ldr (w := 259) (pc2 := 46) (by decide +kernel) (by decide +kernel) rfl bM ?_
  refine h_get (w := 8462480738991254120891158) (pc2 := 49) (by decide +kernel) (by decide +kernel) (hM _) (v := rN) e0 ?_
  refine h_ldi (w := 196866) (pc2 := 50) (by decide +kernel) (by decide +kernel) rfl (by omega) ?_
  refine h_dup2 (w := 272) (pc2 := 51) (by decide +kernel) (by decide +kernel) bN.2 (by omega) ?_
  refine h_ald (w := 282) (pc2 := 52) (by decide +kernel) (by decide +kernel) (hN _) (j := (231 + 20 * q)) (by omega) (by decide) (v := l) e2 (by omega) ?_
  refine h_con (w := 65793) (pc2 := 53) (by decide +kernel) (v := 1) (by decide +kernel) ?_
  refine h_add (w := 263) (pc2 := 54) (by decide +kernel) (by decide +kernel) (by omega) (by omega) (c := (l + 1)) (by omega) ?_
  refine h_ast (w := 283) (pc2 := 55) (by decide +kernel) (by decide +kernel) (hN _) (j := (231 + 20 * q)) (by omega) (by decide) (by omega) (m2 := (MN (tL g q l v))) (hS _ _) ?_
  exact h_ret0 (w := 302) (by decide +kernel) (by decide +kernel) k
/-- the array now: its kinds hold, and only lines have changed -/
def tG (Bc : Nat) (fn g : Nat → Nat) : Prop := (∀ j, j < 471 → gA Bc (eTy 50 j) (g j)) ∧ ∀ j, (j < 231 ∨ 471 ≤ j) → g j = fn j
set_option maxRecDepth 100000 in
theorem ty_now0 : (List.range 471).all (fun j => Nat.blt j 231 || decide (eTy 50 j = if (j - 231) % 20 = 0 then (0, 2147483648, 2147483657, 1, 0, 0) else (0, 0, 4294967295, 1, 0, 0))) = true := by decide +kernel
theorem ty_now {j : Nat} (h1 : 231 ≤ j) (h2 : j < 471) : eTy 50 j = if (j - 231) % 20 = 0 then (0, 2147483648, 2147483657, 1, 0, 0) else (0, 0, 4294967295, 1, 0, 0) := by
  have h := List.all_eq_true.mp ty_now0 j (List.mem_range.mpr h2)
  simp only [Bool.or_eq_true, nl_lt, decide_eq_true_eq] at h
  exact h.resolve_left (by omega)
theorem gA_top {Bc v : Nat} (h : v < 4294967296) : gA Bc (0, 0, 4294967295, 1, 0, 0) v := Or.inl ⟨rfl, h, ⟨Nat.zero_le _, by have := zs_lt h; show zs v ≤ 4294967295; omega⟩, Nat.one_dvd _⟩
theorem tL_q {g : Nat → Nat} {q l v p : Nat} (hl8 : l ≤ 8) : tL g q l v (231 + 20 * p) = if p = q then l + 1 else g (231 + 20 * p) := by
  unfold tL
  by_cases e : p = q
  · rw [if_pos e, e, zUp_s]
  · rw [if_neg e, zUp_n (by omega), zUp_n (by omega), zUp_n (by omega)]
theorem tL_G {Bc q l v : Nat} {fn g : Nat → Nat} (hq : q < 12) (hl8 : l ≤ 8) (hv : v < 4294967296) (h : tG Bc fn g) : tG Bc fn (tL g q l v) := by
  refine ⟨fun j hj => ?_, fun j hj => ?_⟩
  · unfold tL
    by_cases e1 : j = 231 + 20 * q
    · rw [e1, zUp_s, ty_now (by omega) (by omega), if_pos (by omega)]
      have e := zs_lo (c := l + 1) (by omega)
      refine Or.inl ⟨rfl, by omega, ⟨?_, ?_⟩, Nat.one_dvd _⟩
      · show 2147483648 ≤ zs (l + 1)
        omega
      · show zs (l + 1) ≤ 2147483657
        omega
    rw [zUp_n e1]
    by_cases e2 : j = 231 + 20 * q + 3 + 2 * l
    · rw [e2, zUp_s, ty_now (by omega) (by omega), if_neg (by omega)]
      exact gA_top (by decide)
    rw [zUp_n e2]
    by_cases e3 : j = 231 + 20 * q + 2 + 2 * l
    · rw [e3, zUp_s, ty_now (by omega) (by omega), if_neg (by omega)]
      exact gA_top hv
    rw [zUp_n e3]
    exact h.1 j hj
  · unfold tL
    rw [zUp_n (by omega), zUp_n (by omega), zUp_n (by omega)]
    exact h.2 j hj
theorem in_loop {k c Bc : Nat} {fn R : Nat → Nat} (hM : ∀ g, zAt (MN g) rM = some (6, 12, fM)) (hN : ∀ g, zAt (MN g) rN = some (7, 471, g)) (hT : ∀ g, zAt (MN g) rT = some (7, 60, ft)) (hS : ∀ g g2, (MN g).set (rN - 4294967297) (7, 471, g2) = MN g2) (e0 : fM 0 = rN) (e10 : fM 10 = rT) (hk : k < 20) (hc : ft (3 * k + 2) = c) (c9 : c ≤ 9) (t0 : ft (3 * k) ≤ 11) (t1 : ft (3 * k + 1) ≤ 99)
    (hGo : ∀ g, tG Bc fn g → (∀ p, p < 12 → g (231 + 20 * p) + R p ≤ 9) → gFin sc Q frs 115 98 [rM, k, c] [] (MN g)) : ∀ (d n : Nat) (g : Nat → Nat), n + d = c → tG Bc fn g → (∀ p, p < 12 → g (231 + 20 * p) + (if ft (3 * k) = p then d else 0) + R p ≤ 9) → gFin sc Q frs 115 56 [rM, k, n] [] (MN g) := by
  intro d
  induction d with
  | zero =>
    intro n g hn hG hp
    have bM := zAt_lt (hM g)
    have e : n = c := by omega
    subst e
    refine h_ldi (w := 131330) (pc2 := 57) (by decide +kernel) (by decide +kernel) rfl (by omega) ?_
    refine h_ldr (w := 259) (pc2 := 58) (by decide +kernel) (by decide +kernel) rfl bM ?_
    refine h_get (w := 30223329959495316361773846) (pc2 := 61) (by decide +kernel) (by decide +kernel) (hM _) (v := rT) e10 ?_
    refine h_con (w := 196865) (pc2 := 62) (by decide +kernel) (v := 3) (by decide +kernel) ?_
    refine h_ldi (w := 65794) (pc2 := 63) (by decide +kernel) (by decide +kernel) rfl (by omega) ?_
    refine h_mul (w := 265) (pc2 := 64) (by decide +kernel) (by decide +kernel) (by omega) (by omega) (c := (3 * k)) (by omega) ?_
    refine h_con (w := 131329) (pc2 := 65) (by decide +kernel) (v := 2) (by decide +kernel) ?_
    refine h_add (w := 263) (pc2 := 66) (by decide +kernel) (by decide +kernel) (by omega) (by omega) (c := (3 * k + 2)) (by omega) ?_
    refine h_ald (w := 282) (pc2 := 67) (by decide +kernel) (by decide +kernel) (hT _) (j := (3 * k + 2)) (by omega) (by decide) (v := n) hc (by omega) ?_
    refine h_icmp (w := 844424936555282) (pc2 := 98) (by decide +kernel) (b := true) (by decide +kernel) (by omega) (by omega) (zc_ge_t (by omega) (by omega) (by omega)) ?_
    refine hGo g hG (fun p hp2 => ?_)
    have h := hp p hp2
    split at h <;> omega
  | succ d IH =>
    intro n g hn hG hp
    have bM := zAt_lt (hM g)
    have bT := zAt_lt (hT g)
    refine h_ldi (w := 131330) (pc2 := 57) (by decide +kernel) (by decide +kernel) rfl (by omega) ?_
    refine h_ldr (w := 259) (pc2 := 58) (by decide +kernel) (by decide +kernel) rfl bM ?_
    refine h_get (w := 30223329959495316361773846) (pc2 := 61) (by decide +kernel) (by decide +kernel) (hM _) (v := rT) e10 ?_
    refine h_con (w := 196865) (pc2 := 62) (by decide +kernel) (v := 3) (by decide +kernel) ?_
    refine h_ldi (w := 65794) (pc2 := 63) (by decide +kernel) (by decide +kernel) rfl (by omega) ?_
    refine h_mul (w := 265) (pc2 := 64) (by decide +kernel) (by decide +kernel) (by omega) (by omega) (c := (3 * k)) (by omega) ?_
    refine h_con (w := 131329) (pc2 := 65) (by decide +kernel) (v := 2) (by decide +kernel) ?_
    refine h_add (w := 263) (pc2 := 66) (by decide +kernel) (by decide +kernel) (by omega) (by omega) (c := (3 * k + 2)) (by omega) ?_
    refine h_ald (w := 282) (pc2 := 67) (by decide +kernel) (by decide +kernel) (hT _) (j := (3 * k + 2)) (by omega) (by decide) (v := c) hc (by omega) ?_
    refine h_icmp (w := 844424936555282) (pc2 := 70) (by decide +kernel) (b := false) (by decide +kernel) (by omega) (by omega) (zc_ge_f (by omega) (by omega) (by omega)) ?_
    refine h_ldr (w := 259) (pc2 := 71) (by decide +kernel) (by decide +kernel) rfl bM ?_
    refine h_ldr (w := 259) (pc2 := 72) (by decide +kernel) (by decide +kernel) rfl bM ?_
    refine h_get (w := 30223329959495316361773846) (pc2 := 75) (by decide +kernel) (by decide +kernel) (hM _) (v := rT) e10 ?_
    refine h_con (w := 196865) (pc2 := 76) (by decide +kernel) (v := 3) (by decide +kernel) ?_
    refine h_ldi (w := 65794) (pc2 := 77) (by decide +kernel) (by decide +kernel) rfl (by omega) ?_
    refine h_mul (w := 265) (pc2 := 78) (by decide +kernel) (by decide +kernel) (by omega) (by omega) (c := (3 * k)) (by omega) ?_
    refine h_ald (w := 282) (pc2 := 79) (by decide +kernel) (by decide +kernel) (hT _) (j := (3 * k)) (by omega) (by decide) (v := (ft (3 * k))) rfl (by omega) ?_
    refine h_ldr (w := 259) (pc2 := 80) (by decide +kernel) (by decide +kernel) rfl bM ?_
    refine h_get (w := 30223329959495316361773846) (pc2 := 83) (by decide +kernel) (by decide +kernel) (hM _) (v := rT) e10 ?_
    refine h_con (w := 196865) (pc2 := 84) (by decide +kernel) (v := 3) (by decide +kernel) ?_
    refine h_ldi (w := 65794) (pc2 := 85) (by decide +kernel) (by decide +kernel) rfl (by omega) ?_
    refine h_mul (w := 265) (pc2 := 86) (by decide +kernel) (by decide +kernel) (by omega) (by omega) (c := (3 * k)) (by omega) ?_
    refine h_con (w := 65793) (pc2 := 87) (by decide +kernel) (v := 1) (by decide +kernel) ?_
    refine h_add (w := 263) (pc2 := 88) (by decide +kernel) (by decide +kernel) (by omega) (by omega) (c := (3 * k + 1)) (by omega) ?_
    refine h_ald (w := 282) (pc2 := 89) (by decide +kernel) (by decide +kernel) (hT _) (j := (3 * k + 1)) (by omega) (by decide) (v := (ft (3 * k + 1))) rfl (by omega) ?_
    refine h_call (w := 132994476178144125197943589) (a := 111) (by decide +kernel) (by decide +kernel) (zCOk_v (n := 2) (by decide +kernel) rfl (hM _) (by decide +kernel) ⟨Nat.le_of_ble_eq_true rfl, Nat.le_of_ble_eq_true rfl⟩ (fun c hc => by
        have hc : c ∈ [(ft (3 * k + 1)), (ft (3 * k)), rM] := hc
        simp only [List.mem_cons, List.not_mem_nil, or_false] at hc
        rcases hc with rfl | rfl | rfl <;> omega)) (st2 := []) rfl (l2 := [rM, ft (3 * k), ft (3 * k + 1), 1099511627776]) (by show (List.take 3 _).reverse ++ List.replicate (zMaxL 111 - 3) _ = _; rw [show zMaxL 111 = 4 by decide +kernel]; rfl) ?_
    have hq := hp (ft (3 * k)) (by omega)
    rw [if_pos rfl] at hq
    refine ld_run hM hN hS e0 (by omega) rfl (by omega) (by omega) ?_
    show gFin sc Q frs 115 92 [rM, k, n] (if zRet 111 = 0 then [] else [0]) (MN _)
    rw [if_pos (show zRet 111 = 0 by decide +kernel)]
    refine h_inc (w := 562949953487622) (pc2 := 95) (by decide +kernel) (by decide +kernel) rfl (by omega) (c2 := (n + 1)) (by show (_ + 1) % 4294967296 = _; omega) (ls2 := [rM, k, (n + 1)]) rfl ?_
    refine h_goto (w := 3670803) (pc2 := 56) (by decide +kernel) (by decide +kernel) ?_
    refine IH (n + 1) _ (by omega) (tL_G (by omega) (by omega) (by omega) hG) (fun p hp2 => ?_)
    have h := hp p hp2
    rw [tL_q (by omega)]
    by_cases e : ft (3 * k) = p
    · subst e
      rw [if_pos rfl, if_pos rfl]
      omega
    · rw [if_neg (show ¬ p = ft (3 * k) from fun z => e z.symm), if_neg e]
      rw [if_neg e] at h
      omega
theorem out_loop {Bc : Nat} {fn : Nat → Nat} (hM : ∀ g, zAt (MN g) rM = some (6, 12, fM)) (hN : ∀ g, zAt (MN g) rN = some (7, 471, g)) (hT : ∀ g, zAt (MN g) rT = some (7, 60, ft)) (hS : ∀ g g2, (MN g).set (rN - 4294967297) (7, 471, g2) = MN g2) (e0 : fM 0 = rN) (e10 : fM 10 = rT) (e11 : fM 11 = T) (hT20 : T ≤ 20) (t0 : ∀ j, j < 20 → ft (3 * j) ≤ 11) (t1 : ∀ j, j < 20 → ft (3 * j + 1) ≤ 99) (t2 : ∀ j, j < 20 → ft (3 * j + 2) ≤ 9)
    (hGo : ∀ g y, tG Bc fn g → gFin sc Q frs 115 104 [rM, T, y] [] (MN g)) : ∀ (d k y : Nat) (g : Nat → Nat), k + d = T → tG Bc fn g → (∀ p, p < 12 → g (231 + 20 * p) + tS ft p d k ≤ 9) → gFin sc Q frs 115 46 [rM, k, y] [] (MN g) := by
  intro d
  induction d with
  | zero =>
    intro k y g hk hG hp
    have bM := zAt_lt (hM g)
    have e : k = T := by omega
    subst e
    refine h_ldi (w := 65794) (pc2 := 47) (by decide +kernel) (by decide +kernel) rfl (by omega) ?_
    refine h_ldr (w := 259) (pc2 := 48) (by decide +kernel) (by decide +kernel) rfl bM ?_
    refine h_get (w := 136608820532326757445534486) (pc2 := 51) (by decide +kernel) (by decide +kernel) (hM _) (v := k) e11 ?_
    refine h_icmp (w := 844424936948498) (pc2 := 104) (by decide +kernel) (b := true) (by decide +kernel) (by omega) (by omega) (zc_ge_t (by omega) (by omega) (by omega)) ?_
    exact hGo g y hG
  | succ d IH =>
    intro k y g hk hG hp
    have bM := zAt_lt (hM g)
    refine h_ldi (w := 65794) (pc2 := 47) (by decide +kernel) (by decide +kernel) rfl (by omega) ?_
    refine h_ldr (w := 259) (pc2 := 48) (by decide +kernel) (by decide +kernel) rfl bM ?_
    refine h_get (w := 136608820532326757445534486) (pc2 := 51) (by decide +kernel) (by decide +kernel) (hM _) (v := T) e11 ?_
    refine h_icmp (w := 844424936948498) (pc2 := 54) (by decide +kernel) (b := false) (by decide +kernel) (by omega) (by omega) (zc_ge_f (by omega) (by omega) (by omega)) ?_
    refine h_con (w := 257) (pc2 := 55) (by decide +kernel) (v := 0) (by decide +kernel) ?_
    refine h_sti (w := 131332) (pc2 := 56) (by decide +kernel) (n := 3) (by decide +kernel) rfl (by omega) (ls2 := [rM, k, 0]) rfl ?_
    refine in_loop (fn := fn) (R := fun p => tS ft p d (k + 1)) hM hN hT hS e0 e10 (by omega) rfl (t2 k (by omega)) (t0 k (by omega)) (t1 k (by omega)) (fun g2 hG2 hp2 => ?_) (ft (3 * k + 2)) 0 g (by omega) hG (fun p hp3 => ?_)
    · have c9 := t2 k (by omega)
      have bM2 := zAt_lt (hM g2)
      refine h_inc (w := 281474976776966) (pc2 := 101) (by decide +kernel) (by decide +kernel) rfl (by omega) (c2 := (k + 1)) (by show (_ + 1) % 4294967296 = _; omega) (ls2 := [rM, (k + 1), (ft (3 * k + 2))]) rfl ?_
      refine h_goto (w := 3015443) (pc2 := 46) (by decide +kernel) (by decide +kernel) ?_
      exact IH (k + 1) _ g2 (by omega) hG2 hp2
    · have h := hp p hp3
      simp only [tS] at h
      show g (231 + 20 * p) + (if ft (3 * k) = p then ft (3 * k + 2) else 0) + tS ft p d (k + 1) ≤ 9
      omega
end TB
