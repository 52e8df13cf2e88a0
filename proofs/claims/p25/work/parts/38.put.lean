/-! ===== writing ===== -/
theorem gW_rf {W : List (Nat × Nat × Nat)} {m : zM} : gW W m m := fun k kd n f h => ⟨f, h, fun _ _ => rfl⟩
theorem gW_tr {W : List (Nat × Nat × Nat)} {m m1 m2 : zM} (h : gW W m m1) (h2 : gW W m1 m2) : gW W m m2 := fun k kd n f hm => by
  obtain ⟨f1, a1, a2⟩ := h k kd n f hm
  obtain ⟨f2, b1, b2⟩ := h2 k kd n f1 a1
  exact ⟨f2, b1, fun j hq => (b2 j hq).trans (a2 j hq)⟩
theorem gW_sub {W V : List (Nat × Nat × Nat)} {m m1 : zM} (hs : eSubW W V = true) (h : gW V m m1) : gW W m m1 := fun k kd n f hm => by
  obtain ⟨f1, a1, a2⟩ := h k kd n f hm
  refine ⟨f1, a1, fun j hq => a2 j fun q hqV e1 e2 e3 => ?_⟩
  have := List.all_eq_true.mp hs q hqV
  obtain ⟨p, hp, hp2⟩ := List.any_eq_true.mp this
  simp only [Bool.and_eq_true, nb_eq, nl_le] at hp2
  exact hq p hp (hp2.1.trans e1) (by omega) (by omega)
theorem gM_set {Bc Bc2 : Nat} {m : zM} {k kd n : Nat} {f f2 : Nat → Nat} (g : gM Bc m) (hB : Bc ≤ Bc2) (hm : m[k]? = some (kd, n, f)) (ht : ∀ j, j < n → gA Bc2 (eTy (eRG.getD k 0) j) (f2 j)) : gM Bc2 (m.set k (kd, n, f2)) := by
  refine ⟨by rw [List.length_set]; exact g.1, fun k2 hk2 => ?_⟩
  obtain ⟨f0, h1, h2⟩ := (gM_mono hB g).2 k2 hk2
  by_cases e : k2 = k
  · subst e
    rw [hm] at h1
    cases h1
    exact ⟨f2, by rw [List.getElem?_set_self (List.getElem?_eq_some_iff.mp hm).1], ht⟩
  · exact ⟨f0, by rw [List.getElem?_set_ne (Ne.symm e)]; exact h1, h2⟩
theorem gW_set {W : List (Nat × Nat × Nat)} {m : zM} {k kd n lo hi : Nat} {f f2 : Nat → Nat} (hm : m[k]? = some (kd, n, f)) (hf : ∀ j, ¬ (lo ≤ j ∧ j ≤ hi) → f2 j = f j) (hw : eInW W (eRG.getD k 0) lo hi = true) : gW W m (m.set k (kd, n, f2)) := by
  intro k2 kd2 n2 f3 h3
  by_cases e : k2 = k
  · subst e
    rw [hm] at h3
    cases h3
    refine ⟨f2, List.getElem?_set_self (List.getElem?_eq_some_iff.mp hm).1, fun j hq => hf j fun hj2 => ?_⟩
    obtain ⟨p, hp, hp2⟩ := List.any_eq_true.mp hw
    simp only [Bool.and_eq_true, nb_eq, nl_le] at hp2
    exact hq p hp hp2.1 (by omega) (by omega)
  · exact ⟨f3, by rw [List.getElem?_set_ne (Ne.symm e)]; exact h3, fun _ _ => rfl⟩
theorem gSl_set {sc : List Nat} {ρ : Nat → Nat} {m : zM} {k kd n lo hi o r j c : Nat} {f f2 : Nat → Nat} (hm : m[k]? = some (kd, n, f)) (hf : ∀ j, ¬ (lo ≤ j ∧ j ≤ hi) → f2 j = f j) (hq : r ≠ eRG.getD k 0 ∨ ¬ (lo ≤ j ∧ j ≤ hi)) (h : gSl sc ρ m o r j c) : gSl sc ρ (m.set k (kd, n, f2)) o r j c := by
  unfold gSl at h ⊢
  by_cases q : o = 9003
  · rw [if_pos q] at h ⊢
    exact h
  · rw [if_neg q] at h ⊢
    obtain ⟨k2, kd2, n2, f3, ⟨a1, a2, a3⟩, a4, a5⟩ := h
    by_cases e : k2 = k
    · subst e
      rw [hm] at a4
      cases a4
      refine ⟨k2, kd, n, f2, ⟨a1, a2, a3⟩, List.getElem?_set_self (List.getElem?_eq_some_iff.mp hm).1, ?_⟩
      rw [a5]
      exact (hf j (hq.resolve_left fun z => z a3.symm)).symm
    · exact ⟨k2, kd2, n2, f3, ⟨a1, a2, a3⟩, by rw [List.getElem?_set_ne (Ne.symm e)]; exact a4, a5⟩
theorem gF_mem {sc : List Nat} {Bc nx : Nat} {ρ : Nat → Nat} {m m2 : zM} {f : eF} (h : gF sc Bc ρ nx m f) (hs : f.2.2.1 ≤ 1 → ∀ c, gSl sc ρ m f.1 f.2.1 (gIx ρ f.2.2.1 f.2.2.2.1 f.2.2.2.2.1) c → gSl sc ρ m2 f.1 f.2.1 (gIx ρ f.2.2.1 f.2.2.2.1 f.2.2.2.2.1) c) : gF sc Bc ρ nx m2 f := by
  obtain ⟨o, r, k1, k2, k3, e⟩ := f
  rcases gF_k h with q | rfl | rfl | rfl
  · rw [gF_a q] at h ⊢
    obtain ⟨h1, c, h2, h3⟩ := h
    exact ⟨h1, c, hs q c h2, h3⟩
  · rw [gF_2] at h ⊢
    exact h
  · rw [gF_7] at h ⊢
    exact h
  · rw [gF_9] at h ⊢
    exact h
theorem gF_set {sc : List Nat} {Bc nx : Nat} {ρ : Nat → Nat} {m : zM} {k kd n lo hi : Nat} {f f2 : Nat → Nat} {fs : List eF} (hm : m[k]? = some (kd, n, f)) (hf : ∀ j, ¬ (lo ≤ j ∧ j ≤ hi) → f2 j = f j) (h : ∀ q ∈ fs, gF sc Bc ρ nx m q) : ∀ q ∈ eKill (eRG.getD k 0) lo hi fs, gF sc Bc ρ nx (m.set k (kd, n, f2)) q := by
  intro q hq
  obtain ⟨h1, h2⟩ := List.mem_filter.mp hq
  obtain ⟨o, r, k1, k2, k3, e⟩ := q
  refine gF_mem (h _ h1) fun hk c hc => gSl_set hm hf ?_ hc
  simp only [eKeep, Bool.or_eq_true, Bool.and_eq_true, Bool.not_eq_true', nb_ne, nb_eq, nl_lt] at h2
  rcases h2 with h2 | ⟨h2, h3⟩
  · exact Or.inl (Ne.symm h2)
  · right
    show ¬ (lo ≤ gIx ρ k1 k2 k3 ∧ gIx ρ k1 k2 k3 ≤ hi)
    unfold gIx
    rw [if_pos h2]
    omega
/-- a name for a value that has none -/
def gNm (ρ : Nat → Nat) (e : eE) (nx c : Nat) : Nat → Nat := if eId e = 0 then gUp ρ nx c else ρ
theorem gNm_ag {ρ : Nat → Nat} {e : eE} {nx c : Nat} : gAg nx ρ (gNm ρ e nx c) := by
  unfold gNm
  split
  · exact gUp_ag
  · exact gAg_rf
theorem eName_ok {Bc nx c : Nat} {ρ : Nat → Nat} {e : eE} (h : gE Bc ρ nx e c) : gE Bc (gNm ρ e nx c) (nx + 1) (eName e nx) c := by
  unfold eName gNm
  cases q : Nat.beq (eId e) 0
  · rw [cond_false, if_neg (nb_ne.mp q)]
    exact gE_ext gAg_rf (Nat.le_succ _) (Nat.le_refl _) h
  · rw [cond_true, if_pos (nb_eq.mp q)]
    exact ⟨gA_with h.1, Or.inr gV_new, Nat.lt_succ_self nx⟩
/-- a counter that has become the bound's -/
def eDrop (v : eE) : eE := (v.1, v.2.1, v.2.2.1, 0, v.2.2.2.2)
theorem ePutF_ok {sc : List Nat} {Bc Bc2 nx o r k1 k2 k3 c : Nat} {ρ : Nat → Nat} {m : zM} {v ty : eE} {fs : List eF} (hB : Bc ≤ Bc2) (hq : k1 ≤ 1) (hfs : ∀ f ∈ fs, gF sc Bc2 ρ nx m f) (hv : gE Bc ρ nx v c) (h5 : ty.1 = 5 → v.1 = 5 ∧ c ≤ Bc2) (ho : o ≠ 0 → (o < nx ∧ (k1 = 0 ∨ k2 < nx)) ∧ gSl sc ρ m o r (gIx ρ k1 k2 k3) c) : ∃ ρ2, gAg nx ρ ρ2 ∧ ∀ f ∈ ePutF o r k1 k2 k3 v ty fs nx, gF sc Bc2 ρ2 (nx + 1) m f := by
  have hv2 : gE Bc2 ρ nx (bif Nat.beq ty.1 5 then (v.1, v.2.1, v.2.2.1, 0, v.2.2.2.2) else v) c := by
    cases q5 : Nat.beq ty.1 5
    · rw [cond_false]
      exact gE_ext gAg_rf (Nat.le_refl _) hB hv
    · rw [cond_true]
      obtain ⟨t, lo, hi, st, id, off⟩ := v
      obtain ⟨e5, hc⟩ := h5 (nb_eq.mp q5)
      have e5 : t = 5 := e5
      subst e5
      obtain ⟨g1, g2, g3⟩ := hv
      rcases g1 with ⟨g, -⟩ | ⟨g, -⟩ | ⟨g, -⟩ | g | ⟨-, a1, a2, a3⟩
      · cases g
      · cases g
      · cases g
      · cases g
      · exact ⟨Or.inr (Or.inr (Or.inr (Or.inr ⟨rfl, a1, a2, hc⟩))), g2, g3⟩
  unfold ePutF
  cases q0 : Nat.beq o 0
  · rw [cond_false]
    generalize (bif Nat.beq ty.1 5 then (v.1, v.2.1, v.2.2.1, 0, v.2.2.2.2) else v) = v2 at hv2 ⊢
    refine ⟨gNm ρ v2 nx c, gNm_ag, fun f hf => ?_⟩
    rcases List.mem_cons.mp hf with rfl | hf
    · obtain ⟨⟨h1, h2⟩, h3⟩ := ho (nb_ne.mp q0)
      refine (gF_a hq).mpr ⟨⟨by omega, h2.imp (fun z => z) (fun z => by omega)⟩, c, ?_, eName_ok hv2⟩
      rw [gIx_ext gNm_ag h2]
      exact gSl_ext gNm_ag h1 h3
    · exact gF_ext gNm_ag (Nat.le_succ _) (Nat.le_refl _) (hfs f hf)
  · rw [cond_true]
    exact ⟨ρ, gAg_rf, fun f hf => gF_ext gAg_rf (Nat.le_succ _) (Nat.le_refl _) (hfs f hf)⟩
/-! an entry that is a cell -/
theorem gA_cell {Bc : Nat} {e : eE} {c : Nat} (h : e.1 = 1) (g : gA Bc e c) : ∃ k, k < eRG.length ∧ c = 4294967297 + k ∧ eRG.getD k 0 = e.2.1 := by
  obtain ⟨t, lo, hi, st, id, off⟩ := e
  have h : t = 1 := h
  subst h
  rcases g with ⟨g, -⟩ | ⟨-, g⟩ | ⟨g, -⟩ | g | ⟨g, -⟩
  · cases g
  · exact g
  · cases g
  · cases g
  · cases g
theorem gA_stat {Bc : Nat} {e : eE} {c : Nat} (h : e.1 = 2) (g : gA Bc e c) : c = 8589934592 + e.2.1 ∧ e.2.1 ≤ 3 := by
  obtain ⟨t, lo, hi, st, id, off⟩ := e
  have h : t = 2 := h
  subst h
  rcases g with ⟨g, -⟩ | ⟨g, -⟩ | ⟨-, g⟩ | g | ⟨g, -⟩
  · cases g
  · cases g
  · exact g
  · cases g
  · cases g
theorem zAt_cell (hD : eDat = true) {m : zM} {k : Nat} (hk : k < eRG.length) : zAt m (4294967297 + k) = m[k]? := by
  have := (ed_len hD).2.2.1
  unfold zAt
  rw [if_pos (by omega), show 4294967297 + k - 4294967297 = k by omega]
theorem gSl_mk {sc : List Nat} {ρ : Nat → Nat} {m : zM} {o r k kd n j : Nat} {f : Nat → Nat} (ho : o ≠ 9003) (hk : k < eRG.length) (hρ : ρ o = 4294967297 + k) (hr : eRG.getD k 0 = r) (hm : m[k]? = some (kd, n, f)) : gSl sc ρ m o r j (f j) := by
  unfold gSl
  rw [if_neg ho]
  exact ⟨k, kd, n, f, ⟨hk, hρ, hr⟩, hm, rfl⟩
theorem gN_ref {ρ : Nat → Nat} {e : eE} {c : Nat} (h : eId e = 0 ∨ gV ρ (eId e) (eOff e) c) (hc : 4294967296 ≤ c) (h0 : eId e ≠ 0) : ρ (eId e) = c := by
  rcases h.resolve_left h0 with ⟨h1, -⟩ | ⟨-, h1⟩
  · omega
  · exact h1.symm
