/-! ===== the claim's walk ===== -/
def q_ok (x : kR) : Bool := match x with
  | some (pc, ls, st, _, R) => (Nat.beq pc 16 && (decide (ls = [8589934595, 4294967297 + (eSg.getD 49 0 - 1), 4294967297 + (eSg.getD 56 0 - 1), 1099511627776]) && decide (st = []))) && (cMem R.reverse eRG && q_F.all (fun f => cFact R.reverse f))
  | none => false
set_option maxRecDepth 100000 in
theorem q_pre : q_ok (kFore 20000 138 8 0 ([8589934595] ++ List.replicate 3 1099511627776) [] 0 []) = true := by decide +kernel
set_option maxRecDepth 100000 in
theorem q_at : (decide (0 < eSg.getD 49 0) && decide (0 < eSg.getD 56 0)) && (decide (q_L.2.2.2.1 = [(2, 3, 0, 0, 0, 0), (1, 49, 0, 0, 50, 0), (1, 56, 0, 0, 57, 0), eAny]) && (decide (q_L.2.2.2.2.1 = []) && (decide (q_L.1 = []) && (decide (q_L.2.1 = 138) && (decide (q_L.2.2.1 = 16) && decide (q_L.2.2.2.2.2.2 = 10000)))))) = true := by decide +kernel
theorem gM_sl {Bc : Nat} {m : zM} (h : gM Bc m) : zSl m = (eRG.map eLen).sum := by
  unfold zSl
  congr 1
  apply List.ext_getElem?
  intro k
  rw [List.getElem?_map, List.getElem?_map]
  by_cases hk : k < eRG.length
  · obtain ⟨f, h1, -⟩ := h.2 k hk
    rw [h1, List.getElem?_eq_getElem hk]
    show some (eLen (eRG.getD k 0)) = some (eLen eRG[k])
    rw [List.getD_eq_getElem?_getD, List.getElem?_eq_getElem hk]
    rfl
  · rw [List.getElem?_eq_none (by rw [h.1]; omega), List.getElem?_eq_none (by omega)]
    rfl
set_option maxRecDepth 100000 in
theorem q_size : eRG.length ≤ 600000 ∧ (eRG.map eLen).sum ≤ 7302250 := by decide +kernel
theorem gE_sing {Bc L r nx : Nat} (h : 0 < eSg.getD r 0) (hx : r + 1 < nx) : gE Bc (cRho L) nx (1, r, 0, 0, r + 1, 0) (4294967297 + (eSg.getD r 0 - 1)) := by
  obtain ⟨h7, h8⟩ := eSg_rg h
  refine ⟨Or.inr (Or.inl ⟨rfl, _, h7, rfl, h8⟩), Or.inr (Or.inr ⟨by omega, (cRho_at h).symm⟩), hx⟩
theorem q_go {sc : List Nat} (h1 : sc.length ≤ 2048) (h2 : ∀ c ∈ sc, c < 4294967296) : ∃ (n : Nat) (m' : zM), zGo sc n 138 0 ([8589934595] ++ List.replicate 3 1099511627776) [] [] = some (1, m') ∧ m'.length ≤ 600000 ∧ zSl m' ≤ 7302250 := by
  have h := q_pre
  rcases e : kFore 20000 138 8 0 ([8589934595] ++ List.replicate 3 1099511627776) [] 0 [] with _ | ⟨pc, ls, st, N, R⟩
  · rw [e] at h
    cases h
  rw [e] at h
  simp only [q_ok, Bool.and_eq_true, decide_eq_true_eq, nb_eq] at h
  obtain ⟨⟨rfl, rfl, rfl⟩, h4, h5⟩ := h
  have hg := q_at
  simp only [Bool.and_eq_true, decide_eq_true_eq] at hg
  have gs : gS sc 0 (cRho sc.length) q_L [] 138 16 [8589934595, 4294967297 + (eSg.getD 49 0 - 1), 4294967297 + (eSg.getD 56 0 - 1), 1099511627776] [] R.reverse := by
    refine ⟨⟨rfl, rfl⟩, ⟨trivial, ⟨?_, ?_, ?_, ?_, trivial⟩, trivial⟩, fun f hf => cFact_ok (List.all_eq_true.mp h5 f hf), Nat.le_refl _, cRig (by omega) (Nat.zero_le _) h1 h2⟩
    · exact ⟨Or.inr (Or.inr (Or.inl ⟨rfl, rfl, Nat.le_refl _⟩)), Or.inl rfl, by decide⟩
    · exact gE_sing hg.1.1 (by decide)
    · exact gE_sing hg.1.2 (by decide)
    · exact ⟨Or.inr (Or.inr (Or.inr (Or.inl rfl))), Or.inl rfl, by decide⟩
  have hf := eGo_of (E := q_E) (W := q_W) (cu := q_C) (L := []) eDat_t (qh234 sc) (gCu_of (by decide +kernel)) (fun _ _ _ _ _ hq => by cases hq) q_Lt (Bc := 0) (BF := q_cost) (by decide) (by decide) gs (cMem_gM h4)
  have hf2 : gFin sc _ [] 138 0 ([8589934595] ++ List.replicate 3 1099511627776) [] [] := kFore_ok e rfl (Nat.zero_le _) hf
  obtain ⟨n, v, m', g1, ⟨g2, -⟩, q, hq, ⟨hv, -⟩, -⟩ := hf2
  have hq : q = ((0, 2147483649, 2147483649, 0, 0, 0), []) := by
    unfold q_E at hq
    exact List.mem_singleton.mp hq
  subst hq
  obtain ⟨v1, v2, -⟩ := gA_i0 hv
  have v2 : 2147483649 ≤ zs v ∧ zs v ≤ 2147483649 := v2
  have v3 := zs_of v1 (by omega)
  have v4 : v = 1 := by omega
  subst v4
  refine ⟨n, m', g1, ?_, ?_⟩
  · rw [g2.1]
    exact q_size.1
  · rw [gM_sl g2]
    exact q_size.2
theorem whole_start {p : Program} {e : Env} {s : State} {m : MethodId} {below : List Frame} {meth : Method} {c : Code} (l : Launch) (hflags : l.flags = flags0) {b L : Nat} {xs : Nat → Int32} (hL : L ≤ 2048) (C0 : lw_At p s m meth c b L xs) : W p l e room_1 s m #[Value.ref b] below meth c s.heap [] 0 0 (lw_Z below #[Value.ref b] s) (entryFrame m ([Value.ref b] : List Value).toArray 4) := by
  have hlen := zScr_len L xs
  obtain ⟨n, m', h1, h2, h3⟩ := q_go (sc := zScr L xs) (by rw [hlen]; exact hL) zScr_lt
  exact zStart l (by omega) C0 h1 h2 h3
