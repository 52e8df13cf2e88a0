/-! ===== the constructors, run by the kernel: a run that doesn't touch the script is the same for every script ===== -/
def zOneN (i w pc : Nat) (ls st : List Nat) (m : zM) : Option zR :=
  bif (Nat.beq (zop w) 26 || Nat.beq (zop w) 32) && st.any (fun r => Nat.ble 8589934595 r) then none else zOne [] i w pc ls st m
set_option maxHeartbeats 1000000 in
theorem zOneN_ok {sc : List Nat} {i w pc : Nat} {ls st : List Nat} {m : zM} {r : zR} (h : zOneN i w pc ls st m = some r) : zOne sc i w pc ls st m = some r := by
  unfold zOneN at h
  rcases cs_ite h with ⟨-, h⟩ | ⟨hb, h⟩
  · cases h
  by_cases h26 : zop w = 26
  · rw [h26] at hb
    have hb : (st.any fun r => Nat.ble 8589934595 r) = false := hb
    simp only [zOne, h26, ↓reduceIte, Nat.reduceEqDiff, or_self] at h ⊢
    rcases st with _ | ⟨j, _ | ⟨r0, st⟩⟩
    · cases h
    · cases h
    · simp only [List.any_cons, Bool.or_eq_false_iff, nl_nle] at hb
      have h0 : ¬ r0 = 8589934595 := by omega
      simp only [h0, false_and, if_false] at h ⊢
      exact h
  by_cases h32 : zop w = 32
  · rw [h32] at hb
    have hb : (st.any fun r => Nat.ble 8589934595 r) = false := hb
    simp only [zOne, h32, ↓reduceIte, Nat.reduceEqDiff, or_self] at h ⊢
    rcases st with _ | ⟨r0, st⟩
    · cases h
    · simp only [List.any_cons, Bool.or_eq_false_iff, nl_nle] at hb
      have h0 : ¬ r0 = 8589934595 := by omega
      simp only [h0, if_false] at h ⊢
      exact h
  simp only [zOne, if_neg h26, if_neg h32] at h ⊢
  exact h
def zGoN : Nat → Nat → Nat → List Nat → List Nat → zM → Option (Nat × zM)
  | 0, _, _, _, _, _ => none
  | n + 1, i, pc, ls, st, m =>
    if zIsC (zI i pc) = true then
      (if zCOk (zI i pc) st m = true then
        (match zGoN n (za (zI i pc)) 0 (zEn (za (zI i pc)) (zb (zI i pc)) st) [] m with
        | some (v, m') => zGoN n i (pc + 3) ls (if zRet (za (zI i pc)) = 0 then st.drop (zb (zI i pc)) else v :: st.drop (zb (zI i pc))) m'
        | none => none)
      else none)
    else (match zOneN i (zI i pc) pc ls st m with
      | some (.inl (pc', ls', st', m')) => zGoN n i pc' ls' st' m'
      | some (.inr v) => some (v, m)
      | none => none)
theorem zGoN_ok {sc : List Nat} : ∀ {n i pc : Nat} {ls st : List Nat} {m : zM} {r : Nat × zM}, zGoN n i pc ls st m = some r → zGo sc n i pc ls st m = some r
  | 0, _, _, _, _, _, _, h => by cases h
  | n + 1, i, pc, ls, st, m, r, h => by
    unfold zGoN at h
    unfold zGo
    by_cases q : zIsC (zI i pc) = true
    · rw [if_pos q] at h ⊢
      by_cases q2 : zCOk (zI i pc) st m = true
      · rw [if_pos q2] at h ⊢
        rcases e : zGoN n (za (zI i pc)) 0 (zEn (za (zI i pc)) (zb (zI i pc)) st) [] m with _ | ⟨v, m'⟩
        · rw [e] at h
          cases h
        · rw [e] at h
          rw [zGoN_ok e]
          exact zGoN_ok h
      · rw [if_neg q2] at h
        cases h
    · rw [if_neg q] at h ⊢
      rcases e : zOneN i (zI i pc) pc ls st m with _ | r2
      · rw [e] at h
        cases h
      · rw [e] at h
        rw [zOneN_ok e]
        rcases r2 with ⟨p2, l2, s2, m2⟩ | v
        · exact zGoN_ok h
        · exact h
/-- some instructions of one method, calls run through -/
def zFore (n i : Nat) : Nat → Nat → List Nat → List Nat → zM → Option (Nat × List Nat × List Nat × zM)
  | 0, pc, ls, st, m => some (pc, ls, st, m)
  | k + 1, pc, ls, st, m =>
    if zIsC (zI i pc) = true then
      (if zCOk (zI i pc) st m = true then
        (match zGoN n (za (zI i pc)) 0 (zEn (za (zI i pc)) (zb (zI i pc)) st) [] m with
        | some (v, m') => zFore n i k (pc + 3) ls (if zRet (za (zI i pc)) = 0 then st.drop (zb (zI i pc)) else v :: st.drop (zb (zI i pc))) m'
        | none => none)
      else none)
    else (match zOneN i (zI i pc) pc ls st m with
      | some (.inl (pc', ls', st', m')) => zFore n i k pc' ls' st' m'
      | _ => none)
theorem zFore_ok {sc : List Nat} {Q : Nat → zM → Prop} {n i : Nat} : ∀ {k pc : Nat} {ls st : List Nat} {m : zM} {pc2 : Nat} {ls2 st2 : List Nat} {m2 : zM}, zFore n i k pc ls st m = some (pc2, ls2, st2, m2) → gFin sc Q [] i pc2 ls2 st2 m2 → gFin sc Q [] i pc ls st m
  | 0, _, _, _, _, _, _, _, _, h, g => by
    cases h
    exact g
  | k + 1, pc, ls, st, m, pc2, ls2, st2, m2, h, g => by
    unfold zFore at h
    by_cases q : zIsC (zI i pc) = true
    · rw [if_pos q] at h
      by_cases q2 : zCOk (zI i pc) st m = true
      · rw [if_pos q2] at h
        rcases e : zGoN n (za (zI i pc)) 0 (zEn (za (zI i pc)) (zb (zI i pc)) st) [] m with _ | ⟨v, m'⟩
        · rw [e] at h
          cases h
        · rw [e] at h
          exact gFin_call q q2 ⟨n, v, m', zGoN_ok e, zFore_ok h g⟩
      · rw [if_neg q2] at h
        cases h
    · rw [if_neg q] at h
      rcases e : zOneN i (zI i pc) pc ls st m with _ | r2
      · rw [e] at h
        cases h
      · rw [e] at h
        rcases r2 with ⟨p2, l2, s2, m3⟩ | v
        · exact gFin_step (by revert q; cases zIsC (zI i pc) <;> simp) (zOneN_ok e) (zFore_ok h g)
        · cases h
/-! what a memory is looked through for -/
def cA (e : eE) (c : Nat) : Bool := match e with
  | (t, lo, hi, st, _) => bif Nat.beq t 3 then true
    else bif Nat.beq t 1 then Nat.ble 4294967297 c && (Nat.blt (c - 4294967297) eRG.length && Nat.beq (eRG.getD (c - 4294967297) 0) lo)
    else bif Nat.beq t 0 then (Nat.blt c 4294967296 && (Nat.ble lo (zs c) && Nat.ble (zs c) hi)) && Nat.beq ((zs c - lo) % st) 0
    else bif Nat.beq t 5 then (Nat.blt c 4294967296 && (Nat.ble lo (zs c) && Nat.ble (zs c) hi)) && Nat.ble c st else false
theorem cA_ok {e : eE} {c : Nat} (h : cA e c = true) : gA 0 e c := by
  obtain ⟨t, lo, hi, st, id, off⟩ := e
  unfold cA at h
  unfold gA
  rcases cs_ite h with ⟨q, h⟩ | ⟨q, h⟩
  · exact Or.inr (Or.inr (Or.inr (Or.inl (nb_eq.mp q))))
  rcases cs_ite h with ⟨q, h⟩ | ⟨q, h⟩
  · simp only [Bool.and_eq_true, nl_le, nl_lt, nb_eq] at h
    exact Or.inr (Or.inl ⟨nb_eq.mp q, c - 4294967297, h.2.1, by omega, h.2.2⟩)
  rcases cs_ite h with ⟨q, h⟩ | ⟨q, h⟩
  · simp only [Bool.and_eq_true, nl_le, nl_lt, nb_eq] at h
    exact Or.inl ⟨nb_eq.mp q, h.1.1, h.1.2, Nat.dvd_of_mod_eq_zero h.2⟩
  rcases cs_ite h with ⟨q, h⟩ | ⟨q, h⟩
  · simp only [Bool.and_eq_true, nl_le, nl_lt] at h
    exact Or.inr (Or.inr (Or.inr (Or.inr ⟨nb_eq.mp q, h.1.1, h.1.2, by rw [Nat.zero_add]; exact h.2⟩)))
  · cases h
def cCell (r : Nat) (x : Nat × Nat × (Nat → Nat)) : Bool := match x with
  | (kd, n, f) => (Nat.beq kd (eKd r) && Nat.beq n (eLen r)) && (List.range n).all (fun j => cA (eTy r j) (f j))
def cMem : zM → List Nat → Bool
  | [], [] => true
  | x :: m, r :: rs => cCell r x && cMem m rs
  | _, _ => false
theorem cMem_ok : ∀ {m : zM} {rs : List Nat}, cMem m rs = true → m.length = rs.length ∧ ∀ k : Nat, k < rs.length → ∃ f : Nat → Nat, m[k]? = some (eKd (rs.getD k 0), eLen (rs.getD k 0), f) ∧ ∀ j : Nat, j < eLen (rs.getD k 0) → gA 0 (eTy (rs.getD k 0) j) (f j)
  | [], [], _ => ⟨rfl, fun k h => by cases h⟩
  | [], _ :: _, h => by cases h
  | _ :: _, [], h => by cases h
  | (kd, n, f) :: m, r :: rs, h => by
    simp only [cMem, cCell, Bool.and_eq_true, nb_eq] at h
    obtain ⟨⟨⟨h1, h2⟩, h3⟩, h4⟩ := h
    obtain ⟨g1, g2⟩ := cMem_ok h4
    refine ⟨by simp [g1], fun k hk => ?_⟩
    rcases k with _ | k
    · refine ⟨f, by rw [h1, h2]; rfl, fun j hj => ?_⟩
      have hj : j < eLen r := hj
      exact cA_ok (List.all_eq_true.mp h3 j (List.mem_range.mpr (by omega)))
    · exact g2 k (by simpa using hk)
theorem cMem_gM {m : zM} (h : cMem m eRG = true) : gM 0 m := cMem_ok h
/-- a fact of a single cell -/
def cFact (m : zM) (f : eF) : Bool := match f with
  | (o, r, k1, k2, k3, e) => (Nat.beq k1 0 && (Nat.beq o (r + 1) && (Nat.beq k3 0 && Nat.beq (eId e) 0))) && (Nat.blt 0 (eSg.getD r 0) && (match m[eSg.getD r 0 - 1]? with
    | some (_, _, g) => cA e (g k2)
    | none => false))
def cRho (L x : Nat) : Nat := if x = 9500 then L else if x = 9003 then 0 else 4294967296 + eSg.getD (x - 1) 0
set_option maxRecDepth 100000 in
theorem eSg_len : eSg.length < 9000 := by decide +kernel
set_option maxRecDepth 100000 in
theorem eSg_ok : (List.range eSg.length).all (fun r => Nat.beq (eSg.getD r 0) 0 || (Nat.blt (eSg.getD r 0 - 1) eRG.length && Nat.beq (eRG.getD (eSg.getD r 0 - 1) 0) r)) = true := by decide +kernel
theorem eSg_lt {r : Nat} (h : 0 < eSg.getD r 0) : r < eSg.length := by
  apply Nat.lt_of_not_le
  intro q
  rw [List.getD_eq_getElem?_getD, List.getElem?_eq_none q] at h
  exact absurd h (by decide)
theorem eSg_rg {r : Nat} (h : 0 < eSg.getD r 0) : eSg.getD r 0 - 1 < eRG.length ∧ eRG.getD (eSg.getD r 0 - 1) 0 = r := by
  have h1 := List.all_eq_true.mp eSg_ok r (List.mem_range.mpr (eSg_lt h))
  simp only [Bool.or_eq_true, Bool.and_eq_true, nb_eq, nl_lt] at h1
  rcases h1 with h1 | h1
  · omega
  · exact h1
theorem cRho_at {L r : Nat} (h : 0 < eSg.getD r 0) : cRho L (r + 1) = 4294967297 + (eSg.getD r 0 - 1) := by
  have h1 := eSg_lt h
  have h2 := eSg_len
  unfold cRho
  rw [if_neg (by omega), if_neg (by omega), Nat.add_sub_cancel]
  omega
theorem cFact_ok {sc : List Nat} {m : zM} {f : eF} (h : cFact m f = true) : gF sc 0 (cRho sc.length) 10000 m f := by
  obtain ⟨o, r, k1, k2, k3, e⟩ := f
  simp only [cFact, Bool.and_eq_true, nb_eq, nl_lt] at h
  obtain ⟨⟨rfl, rfl, rfl, h4⟩, h5, h6⟩ := h
  have h1 := eSg_lt h5
  have h2 := eSg_len
  obtain ⟨h7, h8⟩ := eSg_rg h5
  split at h6
  · rename_i kd n g hg
    refine (gF_a (by decide)).mpr ⟨⟨by omega, Or.inl rfl⟩, g k2, ?_, gE_plain (by decide) (cA_ok h6) h4⟩
    unfold gSl
    rw [if_neg (by omega)]
    exact ⟨_, kd, n, g, ⟨h7, cRho_at h5, h8⟩, hg, rfl⟩
  · cases h6
theorem cRig {sc : List Nat} (h1 : sc.length < 2147483648) (h2 : eN.1 ≤ sc.length) (h3 : sc.length ≤ eN.2) (h4 : ∀ c ∈ sc, c < 4294967296) : gRig sc (cRho sc.length) := ⟨fun r h => cRho_at h, ⟨rfl, rfl⟩, ⟨h1, h2, h3⟩, h4⟩
