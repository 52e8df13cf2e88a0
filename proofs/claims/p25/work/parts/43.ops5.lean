/-! ===== memory: lengths, fields ===== -/
section ET
variable {sc : List Nat} {W : List (Nat × Nat × Nat)} {Bc : Nat} {ρ : Nat → Nat} {nx : Nat} {fr : List eFr} {frs : gCf} {i w pc k : Nat} {ls st : List eE} {cl cst : List Nat} {fs : List eF} {m : zM} {L : List eS}
/-- a cell of a region, and what is in it -/
theorem gCell {e : eE} {c : Nat} (hD : eDat = true) (h1 : e.1 = 1) (g : gE Bc ρ nx e c) (hr : gRig sc ρ) (hM : gM Bc m) : ∃ (k0 : Nat) (f : Nat → Nat), (k0 < eRG.length ∧ c = 4294967297 + k0 ∧ eRG.getD k0 0 = e.2.1) ∧ m[k0]? = some (eKd e.2.1, eLen e.2.1, f) ∧ (∀ j, j < eLen e.2.1 → gA Bc (eTy e.2.1 j) (f j)) ∧ zAt m c = some (eKd e.2.1, eLen e.2.1, f) ∧ (eId e ≠ 0 → eId e ≠ 9003 ∧ ρ (eId e) = c) ∧ (eKd e.2.1 ≤ 11 ∧ eLen e.2.1 < 100000) ∧ eDat1 e.2.1 = true := by
  obtain ⟨k0, a1, a2, a3⟩ := gA_cell h1 g.1
  obtain ⟨f, b1, b2⟩ := hM.2 k0 a1
  have hc := ed_cell hD a1
  rw [a3] at b1 b2 hc
  obtain ⟨d1, d2⟩ := ed_reg hD hc.1
  refine ⟨k0, f, ⟨a1, a2, a3⟩, b1, b2, ?_, fun h0 => ?_, d1, d2⟩
  · rw [a2, zAt_cell hD a1]
    exact b1
  · have e1 := gN_ref g.2.1 (by omega) h0
    refine ⟨fun h9 => ?_, e1⟩
    rw [h9, hr.2.1.2] at e1
    omega
theorem ep_alen (hD : eDat = true) (hop : zop w = 32) (hI : gIn sc Bc ρ fr frs ls st cl cst fs nx m) (h : eoAlen fr i pc ls st fs nx = some (k, L)) : gStp sc W Bc ρ nx frs i w pc cl cst m k L := by
  have hn := hI.2.2.1.1
  unfold eoAlen at h
  split at h
  · rename_i e st2
    obtain ⟨c, ct, rfl, ge, gt⟩ := gL_cons hI.1.2.2
    rcases cs_ite h with ⟨h1, h⟩ | ⟨h1, h⟩
    · obtain ⟨h2, h⟩ := cs_and h
      cases h
      obtain ⟨g1, -⟩ := gA_stat (nb_eq.mp h1) ge.1
      rw [nb_eq.mp h2] at g1
      obtain ⟨s1, s2, s3⟩ := hI.2.2.1.2.2.2.1
      have hz : zOne sc i w pc cl (c :: ct) m = some (.inl (pc + 1, cl, sc.length :: ct, m)) := by simp only [zOne, hop, ↓reduceIte, Nat.reduceEqDiff, or_self, zNx, g1, Nat.reduceAdd, if_pos s1]
      refine ⟨_, _, _, _, hz, gOut_s hI hI.1.2.1 (gL_c ⟨gA_mk (by omega) ?_ ?_ ?_, Or.inr (Or.inl ⟨by omega, ?_⟩), ?_⟩ gt)⟩
      · rw [zs_lo s1]
        omega
      · rw [zs_lo s1]
        omega
      · rw [zs_lo s1]
        cases q : Nat.beq eN.1 eN.2
        · exact Nat.one_dvd _
        · have q := nb_eq.mp q
          rw [show sc.length + 2147483648 - (2147483648 + eN.1) = 0 by omega]
          exact Nat.dvd_zero _
      · show ρ 9500 < 4294967296 ∧ sc.length = (ρ 9500 + 0) % 4294967296
        rw [hI.2.2.1.2.2.1.1]
        omega
      · show 9500 < nx
        omega
    · obtain ⟨h2, h⟩ := cs_and h
      simp only [Bool.and_eq_true, nb_eq, nl_le] at h2
      cases h
      obtain ⟨k0, f, ⟨a1, a2, a3⟩, b1, b2, b3, b4, ⟨b5, b6⟩, b7⟩ := gCell hD h2.1 ge hI.2.2.1.2 hI.2.2.2
      have hz : zOne sc i w pc cl (c :: ct) m = some (.inl (pc + 1, cl, eLen e.2.1 :: ct, m)) := by
        have hl := (ed_len hD).2.2.1
        have : ¬ c = 8589934595 := by omega
        simp only [zOne, hop, ↓reduceIte, Nat.reduceEqDiff, or_self, zNx, if_neg this, b3]
        rw [if_pos ⟨h2.2, b5, by omega⟩]
      exact ⟨_, _, _, _, hz, gOut_s hI hI.1.2.1 (gL_c (gE_plain (by omega) (eNat_ok (by omega)) rfl) gt)⟩
  · cases h
theorem ep_get (hD : eDat = true) (hop : zop w = 22) (hI : gIn sc Bc ρ fr frs ls st cl cst fs nx m) (h : eoGet fr i pc ls st fs nx (zb w) (zc w) = some (k, L)) : gStp sc W Bc ρ nx frs i w pc cl cst m k L := by
  unfold eoGet at h
  split at h
  · rename_i e st2
    obtain ⟨c, ct, rfl, ge, gt⟩ := gL_cons hI.1.2.2
    obtain ⟨h1, h⟩ := cs_and h
    simp only [Bool.and_eq_true, nb_eq, nl_lt] at h1
    obtain ⟨h1, h2, h3⟩ := h1
    split at h
    · rename_i v fs2 nx2 he
      cases h
      obtain ⟨k0, f, ⟨a1, a2, a3⟩, b1, b2, b3, b4, ⟨b5, b6⟩, b7⟩ := gCell hD h1 ge hI.2.2.1.2 hI.2.2.2
      have hz : zOne sc i w pc cl (c :: ct) m = some (.inl (pc + 3, cl, f (zc w) :: ct, m)) := by
        simp only [zOne, hop, ↓reduceIte, Nat.reduceEqDiff, or_self, zNx, b3]
        rw [if_pos ⟨h2, h3⟩]
      obtain ⟨ρ2, q1, q2, q3, q4⟩ := eLd_ok hD (Nat.zero_le 1) hI.2.2.1.1 hI.2.2.1.2 hI.2.1 (b2 _ h3) (fun h0 => ⟨⟨ge.2.2, Or.inl rfl⟩, by
        obtain ⟨n1, n2⟩ := b4 h0
        rw [show gIx ρ 0 (zc w) 0 = zc w from if_pos rfl]
        exact gSl_mk n1 a1 (n2.trans a2) a3 b1⟩) he
      exact ⟨_, _, _, _, hz, gOut_n hD hI q1 q2 (gL_ext q1 q2 (Nat.le_refl _) hI.1.2.1) (gL_c q3 (gL_ext q1 q2 (Nat.le_refl _) gt)) q4⟩
    · cases h
  · cases h
/-- a slot written -/
theorem gOut_w {k0 kd n lo hi kk o k1 k2 k3 c pc2 : Nat} {f f2 : Nat → Nat} {v ty : eE} {st2 : List eE} {ct : List Nat} (hD : eDat = true) (hI : gIn sc Bc ρ fr frs ls st cl cst fs nx m) (hm : m[k0]? = some (kd, n, f)) (hf : ∀ j, ¬ (lo ≤ j ∧ j ≤ hi) → f2 j = f j) (hw : eInW W (eRG.getD k0 0) lo hi = true) (ht : ∀ j, j < n → gA (Bc + kk) (eTy (eRG.getD k0 0) j) (f2 j)) (hv : gE Bc ρ nx v c) (h5 : ty.1 = 5 → v.1 = 5 ∧ c ≤ Bc + kk) (hq : k1 ≤ 1) (ho : o ≠ 0 → (o < nx ∧ (k1 = 0 ∨ k2 < nx)) ∧ gSl sc ρ (m.set k0 (kd, n, f2)) o (eRG.getD k0 0) (gIx ρ k1 k2 k3) c) (gt : gL Bc ρ nx st2 ct) : gOut sc W Bc ρ nx frs i m kk [(fr, i, pc2, ls, st2, ePutF o (eRG.getD k0 0) k1 k2 k3 v ty (eKill (eRG.getD k0 0) lo hi fs) nx, nx + 1)] pc2 cl ct (m.set k0 (kd, n, f2)) := by
  have hB : Bc ≤ Bc + kk := Nat.le_add_right _ _
  have h1 : ∀ q ∈ eKill (eRG.getD k0 0) lo hi fs, gF sc (Bc + kk) ρ nx (m.set k0 (kd, n, f2)) q := fun q hq => gF_ext gAg_rf (Nat.le_refl _) hB (gF_set hm hf hI.2.1 q hq)
  obtain ⟨ρ2, q1, q2⟩ := ePutF_ok hB hq h1 hv h5 ho
  exact ⟨_, List.mem_singleton.mpr rfl, ρ2, ⟨q1, Nat.le_succ _⟩, ⟨⟨rfl, rfl⟩, ⟨gFr_ext q1 (Nat.le_succ _) hB hI.1.1, gL_ext q1 (Nat.le_succ _) hB hI.1.2.1, gL_ext q1 (Nat.le_succ _) hB gt⟩, q2, Nat.le_trans hI.2.2.1.1 (Nat.le_succ _), gRig_ext hD q1 hI.2.2.1.1 hI.2.2.1.2⟩, gM_set hI.2.2.2 hB hm ht, gW_set hm hf hw⟩
/-- what may come into a slot -/
theorem ePut_ok {v ty : eE} {c kk : Nat} (hB : Bc + kk ≤ 1073741824) (g : gA Bc v c) (h : ePut v ty = some kk) : gA (Bc + kk) ty c ∧ (ty.1 = 5 → v.1 = 5 ∧ c ≤ Bc + kk) := by
  unfold ePut at h
  rcases cs_ite h with ⟨h1, h⟩ | ⟨h1, h⟩
  · obtain ⟨h2, h9⟩ := cs_and h
    simp only [Bool.and_eq_true, nb_eq, nl_le] at h2
    obtain ⟨⟨h2, h3⟩, h4, h5⟩ := h2
    obtain ⟨t, lo, hi, s, id, off⟩ := v
    obtain ⟨u, lo2, hi2, s2, id2, off2⟩ := ty
    have h2 : t = 5 := h2
    have h1 : u = 5 := nb_eq.mp h1
    have h4 : lo2 ≤ 2147483648 := h4
    have h5 : 3221225472 ≤ hi2 := h5
    have h3 : 2147483648 ≤ lo := h3
    subst h2
    subst h1
    have h9 : s = kk := Option.some.inj h9
    subst h9
    rcases g with ⟨g, -⟩ | ⟨g, -⟩ | ⟨g, -⟩ | g | ⟨-, g1, ⟨g2, g3⟩, g4⟩
    · cases g
    · cases g
    · cases g
    · cases g
    · have g2 : lo ≤ zs c := g2
      have g4 : c ≤ Bc + s := g4
      have e1 := zs_of g1 (by omega)
      refine ⟨Or.inr (Or.inr (Or.inr (Or.inr ⟨rfl, g1, ⟨?_, ?_⟩, ?_⟩))), fun _ => ⟨rfl, g4⟩⟩
      · show lo2 ≤ zs c
        omega
      · show zs c ≤ hi2
        have : c ≤ 1073741824 := Nat.le_trans g4 hB
        have := (zs_pos g1).mp (by omega)
        rw [zs_lo this]
        omega
      · show c ≤ Bc + s + s2
        omega
  · obtain ⟨h2, h⟩ := cs_and h
    cases h
    rw [Bool.and_eq_true] at h2
    exact ⟨eSub_ok h2.1 g, fun e => absurd e (nb_ne.mp h1)⟩
theorem ed_fld {r j : Nat} (h : eDat1 r = true) (h7 : eKd r < 7) (hj : j < eLen r) : j < zNF (eKd r) ∧ (zTag (zTy (eKd r) j) = 0 → (eTy r j).1 = 0 ∨ (eTy r j).1 = 5) ∧ (zTag (zTy (eKd r) j) = 1 → eSub (eTy r j) (0, 2147483648, 2147483649, 1, 0, 0) = true ∧ (eTy r j).1 = 0) ∧ (2 ≤ zTag (zTy (eKd r) j) → (eTy r j).1 = 1) := by
  unfold eDat1 at h
  have h2 := List.all_eq_true.mp h j (List.mem_range.mpr hj)
  simp only [nl_lt.mpr h7, cond_true, Bool.and_eq_true, nl_lt] at h2
  obtain ⟨⟨h2, h3⟩, -⟩ := h2
  refine ⟨h2, ?_⟩
  rcases q : zTag (zTy (eKd r) j) with _ | _ | t
  · rw [q] at h3
    simp only [Bool.or_eq_true, nb_eq] at h3
    exact ⟨fun _ => h3, fun e => (by cases e), fun e => by omega⟩
  · rw [q] at h3
    simp only [Bool.and_eq_true, nb_eq] at h3
    exact ⟨fun e => (by cases e), fun _ => h3, fun e => by omega⟩
  · rw [q] at h3
    exact ⟨fun e => (by cases e), fun e => by omega, fun _ => nb_eq.mp h3⟩
theorem gA_okv {r j c B2 : Nat} (hD : eDat = true) (h : eDat1 r = true) (h7 : eKd r < 7) (hj : j < eLen r) (g : gA B2 (eTy r j) c) : zOkV (zTag (zTy (eKd r) j)) c = true := by
  obtain ⟨-, h0, h1, h2⟩ := ed_fld h h7 hj
  rcases q : zTag (zTy (eKd r) j) with _ | _ | t
  · have h0 := h0 q
    have := (gA_int (by simp only [eInt, Bool.or_eq_true, nb_eq]; exact h0) g).1
    exact decide_eq_true this
  · obtain ⟨a1, a2⟩ := gA_i0 (eSub_ok (h1 q).1 g)
    have e1 := zs_of a1 (by omega)
    have : c < 2 := by omega
    exact decide_eq_true this
  · obtain ⟨k0, a1, a2, -⟩ := gA_cell (h2 (by omega)) g
    have := (ed_len hD).2.2.1
    have b1 : 4294967296 ≤ c := by omega
    have b2 : c < 1099511627776 := by omega
    show (decide (4294967296 ≤ c) && decide (c < 1099511627776)) = true
    rw [decide_eq_true b1, decide_eq_true b2]
    rfl
theorem ep_put (hD : eDat = true) (hop : zop w = 23) (hB : Bc + k ≤ 1073741824) (hI : gIn sc Bc ρ fr frs ls st cl cst fs nx m) (h : eoPut W fr i pc ls st fs nx (zb w) (zc w) = some (k, L)) : gStp sc W Bc ρ nx frs i w pc cl cst m k L := by
  unfold eoPut at h
  split at h
  · rename_i v e st2
    obtain ⟨b, ct0, hct0, gv, gt0⟩ := gL_cons hI.1.2.2
    obtain ⟨c, ct, hct, ge, gt⟩ := gL_cons gt0
    subst hct
    subst hct0
    obtain ⟨h1, h⟩ := cs_and h
    simp only [Bool.and_eq_true, nb_eq, nl_lt] at h1
    obtain ⟨h1, h2, h3, h4, h5⟩ := h1
    split at h
    · rename_i kk hp
      cases h
      obtain ⟨k0, f, ⟨a1, a2, a3⟩, b1, b2, b3, b4, ⟨b5, b6⟩, b7⟩ := gCell hD h1 ge hI.2.2.1.2 hI.2.2.2
      obtain ⟨p1, p2⟩ := ePut_ok hB gv.1 hp
      have ek : c - 4294967297 = k0 := by omega
      have ok : zOkV (zTag (zTy (zb w) (zc w))) b = true := by
        rw [← h2]
        exact gA_okv hD b7 (by omega) h3 p1
      have hz : zOne sc i w pc cl (b :: c :: ct) m = some (.inl (pc + 3, cl, ct, m.set k0 (eKd e.2.1, eLen e.2.1, zUp f (zc w) b))) := by
        simp only [zOne, hop, ↓reduceIte, Nat.reduceEqDiff, or_self, true_or, zNx, b3, ek]
        rw [if_pos ⟨⟨h2, h3⟩, ok⟩]
      have hset : (m.set k0 (eKd e.2.1, eLen e.2.1, zUp f (zc w) b))[k0]? = some (eKd e.2.1, eLen e.2.1, zUp f (zc w) b) := List.getElem?_set_self (List.getElem?_eq_some_iff.mp b1).1
      have hw := gOut_w (pc2 := pc + 3) (i := i) (kk := k) (lo := zc w) (hi := zc w) (f2 := zUp f (zc w) b) (W := W) (o := eId e) (k1 := 0) (k2 := zc w) (k3 := 0) (ty := eTy e.2.1 (zc w)) hD hI b1 (fun j hj => if_neg (fun e => hj ⟨Nat.le_of_eq e.symm, Nat.le_of_eq e⟩)) (by rw [a3]; exact h4) (fun j hj => by
        rw [a3]
        by_cases q : j = zc w
        · rw [q, show zUp f (zc w) b (zc w) = b from if_pos rfl]
          exact p1
        · rw [show zUp f (zc w) b j = f j from if_neg q]
          exact gA_mono (Nat.le_add_right _ _) (b2 j hj)) gv p2 (Nat.zero_le 1) (fun h0 => ⟨⟨ge.2.2, Or.inl rfl⟩, by
        obtain ⟨n1, n2⟩ := b4 h0
        rw [show gIx ρ 0 (zc w) 0 = zc w from if_pos rfl]
        have := gSl_mk (sc := sc) (j := zc w) n1 a1 (n2.trans a2) rfl hset
        rwa [show zUp f (zc w) b (zc w) = b from if_pos rfl] at this⟩) gt
      rw [a3] at hw
      exact ⟨_, _, _, _, hz, hw⟩
    · cases h
  · cases h
end ET
