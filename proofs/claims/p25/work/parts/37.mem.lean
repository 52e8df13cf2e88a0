/-! ===== the memory: what is read, what is written ===== -/
theorem ed_len (hD : eDat = true) : eRT.length < 9000 ∧ eSg.length = eRT.length ∧ eRG.length < 100000 ∧ eN.2 < 2147483648 := by
  simp only [eDat, Bool.and_eq_true, nb_eq, nl_lt] at hD
  exact ⟨hD.1.2.1, hD.1.2.2, hD.2.1.2.1, hD.2.2⟩
theorem ed_cell (hD : eDat = true) {k : Nat} (hk : k < eRG.length) : eRG.getD k 0 < eRT.length ∧ (eSg.getD (eRG.getD k 0) 0 = 0 ∨ eSg.getD (eRG.getD k 0) 0 = k + 1) := by
  simp only [eDat, Bool.and_eq_true, nb_eq, nl_lt] at hD
  have := List.all_eq_true.mp hD.2.1.1 k (List.mem_range.mpr hk)
  simp only [Bool.and_eq_true, Bool.or_eq_true, nb_eq, nl_lt] at this
  exact this
theorem ed_sing (hD : eDat = true) {r : Nat} (h : 0 < eSg.getD r 0) : r < 9000 ∧ eSg.getD r 0 - 1 < eRG.length ∧ eRG.getD (eSg.getD r 0 - 1) 0 = r := by
  have hl := ed_len hD
  have hr : r < eSg.length := by
    apply Classical.byContradiction
    intro q
    rw [List.getD_eq_getElem?_getD, List.getElem?_eq_none (by omega)] at h
    exact absurd h (by decide)
  simp only [eDat, Bool.and_eq_true, nb_eq, nl_lt] at hD
  have := List.all_eq_true.mp hD.2.1.2.2 r (List.mem_range.mpr hr)
  simp only [Bool.and_eq_true, Bool.or_eq_true, nb_eq, nl_lt] at this
  refine ⟨by omega, ?_⟩
  rcases this with h2 | h2
  · omega
  · exact h2
theorem ed_reg (hD : eDat = true) {r : Nat} (hr : r < eRT.length) : (eKd r ≤ 11 ∧ eLen r < 100000) ∧ eDat1 r = true := by
  simp only [eDat, Bool.and_eq_true, nb_eq, nl_lt] at hD
  have := List.all_eq_true.mp hD.1.1 r (List.mem_range.mpr hr)
  simp only [Bool.and_eq_true, nl_le, nl_lt] at this
  exact this
/-! extension of names -/
def gUp (ρ : Nat → Nat) (x c : Nat) : Nat → Nat := fun y => if y = x then c else ρ y
theorem gUp_ag {ρ : Nat → Nat} {nx c : Nat} : gAg nx ρ (gUp ρ nx c) := fun x h => if_neg (by omega)
theorem gUp_at {ρ : Nat → Nat} {nx c : Nat} : gUp ρ nx c nx = c := if_pos rfl
theorem gAg_rf {ρ : Nat → Nat} {nx : Nat} : gAg nx ρ ρ := fun _ _ => rfl
theorem gAg_tr {ρ ρ2 ρ3 : Nat → Nat} {nx nx2 : Nat} (h : gAg nx ρ ρ2) (h2 : gAg nx2 ρ2 ρ3) (hn : nx ≤ nx2) : gAg nx ρ ρ3 := fun x hx => (h2 x (by omega)).trans (h x hx)
theorem gV_new {ρ : Nat → Nat} {nx c : Nat} : gV (gUp ρ nx c) nx 0 c := by
  by_cases h : c < 4294967296
  · refine Or.inl ⟨h, by rw [gUp_at]; exact h, ?_⟩
    rw [gUp_at, Nat.add_zero, Nat.mod_eq_of_lt h]
  · exact Or.inr ⟨by omega, gUp_at.symm⟩
theorem gA_mono {Bc Bc2 : Nat} {e : eE} {c : Nat} (h : Bc ≤ Bc2) (g : gA Bc e c) : gA Bc2 e c := by
  rcases g with g | g | g | g | ⟨g1, g2, g3, g4⟩
  · exact Or.inl g
  · exact Or.inr (Or.inl g)
  · exact Or.inr (Or.inr (Or.inl g))
  · exact Or.inr (Or.inr (Or.inr (Or.inl g)))
  · exact Or.inr (Or.inr (Or.inr (Or.inr ⟨g1, g2, g3, Nat.le_trans g4 (Nat.add_le_add_right h _)⟩)))
theorem gE_ext {Bc Bc2 nx nx2 : Nat} {ρ ρ2 : Nat → Nat} (h : gAg nx ρ ρ2) (hn : nx ≤ nx2) (hB : Bc ≤ Bc2) {e : eE} {c : Nat} (g : gE Bc ρ nx e c) : gE Bc2 ρ2 nx2 e c := by
  obtain ⟨g1, g2, g3⟩ := g
  refine ⟨gA_mono hB g1, ?_, by omega⟩
  rcases g2 with g2 | g2
  · exact Or.inl g2
  · right
    unfold gV at g2 ⊢
    rw [h _ g3]
    exact g2
theorem gE_id {Bc Bc2 nx nx2 : Nat} {ρ ρ2 : Nat → Nat} (h : gAg nx ρ ρ2) (hn : nx ≤ nx2) (hB : Bc ≤ Bc2) : ∀ e c, gE Bc ρ nx e c → gE Bc2 ρ2 nx2 (id e) c := fun _ _ g => gE_ext h hn hB g
theorem gL_ext {Bc Bc2 nx nx2 : Nat} {ρ ρ2 : Nat → Nat} (h : gAg nx ρ ρ2) (hn : nx ≤ nx2) (hB : Bc ≤ Bc2) {es : List eE} {cs : List Nat} (g : gL Bc ρ nx es cs) : gL Bc2 ρ2 nx2 es cs := by
  have := gL_mono (gE_id h hn hB) g
  rwa [List.map_id] at this
theorem eMapFr_id : (fun x : eFr => eMapFr id x) = id := by
  funext x
  obtain ⟨a, b, c, d⟩ := x
  show (a, b, c.map id, d.map id) = (a, b, c, d)
  rw [List.map_id, List.map_id]
theorem gFr_ext {Bc Bc2 nx nx2 : Nat} {ρ ρ2 : Nat → Nat} (h : gAg nx ρ ρ2) (hn : nx ≤ nx2) (hB : Bc ≤ Bc2) {es : List eFr} {cs : gCf} (g : gFr Bc ρ nx es cs) : gFr Bc2 ρ2 nx2 es cs := by
  have := gFr_mono (gE_id h hn hB) g
  rwa [show (eMapFr id) = id from eMapFr_id, List.map_id] at this
theorem gNv_ext {ρ ρ2 : Nat → Nat} {nx p : Nat} (h : gAg nx ρ ρ2) (hp : p / 4294967296 < nx) : gNv ρ2 p = gNv ρ p := by
  unfold gNv
  rw [h _ hp]
theorem gIx_ext {ρ ρ2 : Nat → Nat} {nx k1 k2 k3 : Nat} (h : gAg nx ρ ρ2) (hk : k1 = 0 ∨ k2 < nx) : gIx ρ2 k1 k2 k3 = gIx ρ k1 k2 k3 := by
  unfold gIx
  by_cases q : k1 = 0
  · rw [if_pos q, if_pos q]
  · rw [if_neg q, if_neg q, h _ (hk.resolve_left q)]
theorem gSl_ext {sc : List Nat} {ρ ρ2 : Nat → Nat} {nx o r j c : Nat} {m : zM} (h : gAg nx ρ ρ2) (ho : o < nx) (g : gSl sc ρ m o r j c) : gSl sc ρ2 m o r j c := by
  unfold gSl at g ⊢
  rw [h _ ho]
  exact g
theorem gF_ext {sc : List Nat} {Bc Bc2 nx nx2 : Nat} {ρ ρ2 : Nat → Nat} {m : zM} (h : gAg nx ρ ρ2) (hn : nx ≤ nx2) (hB : Bc ≤ Bc2) {f : eF} (g : gF sc Bc ρ nx m f) : gF sc Bc2 ρ2 nx2 m f := by
  obtain ⟨o, r, k1, k2, k3, e⟩ := f
  rcases gF_k g with q | rfl | rfl | rfl
  · rw [gF_a q] at g ⊢
    obtain ⟨⟨h1, h1b⟩, c, h2, h3⟩ := g
    refine ⟨⟨by omega, h1b.imp (fun z => z) (fun z => by omega)⟩, c, ?_, gE_ext h hn hB h3⟩
    rw [gIx_ext h h1b]
    exact gSl_ext h h1 h2
  · rw [gF_2] at g ⊢
    obtain ⟨h1, h2, h3⟩ := g
    refine ⟨by omega, h2, ?_⟩
    rw [h _ h1]
    exact h3
  · rw [gF_7] at g ⊢
    obtain ⟨h1, ⟨h2, h3⟩, h4⟩ := g
    refine ⟨h1, ⟨by omega, by omega⟩, ?_⟩
    rw [gNv_ext h h2, gNv_ext h h3]
    exact gE_ext h hn hB h4
  · rw [gF_9] at g ⊢
    obtain ⟨h1, ⟨h2, h3⟩, h4⟩ := g
    refine ⟨h1, ⟨by omega, by omega⟩, ?_⟩
    rw [gNv_ext h h2, gNv_ext h h3]
    exact gE_ext h hn hB h4
theorem gRig_ext {sc : List Nat} {ρ ρ2 : Nat → Nat} {nx : Nat} (hD : eDat = true) (h : gAg nx ρ ρ2) (hn : 10000 ≤ nx) (g : gRig sc ρ) : gRig sc ρ2 := by
  obtain ⟨g1, g2, g3⟩ := g
  refine ⟨fun r hr => ?_, ?_, g3⟩
  · have := (ed_sing hD hr).1
    rw [h _ (by omega)]
    exact g1 r hr
  · rw [h _ (by omega), h _ (by omega)]
    exact g2
theorem gM_mono {Bc Bc2 : Nat} {m : zM} (h : Bc ≤ Bc2) (g : gM Bc m) : gM Bc2 m := ⟨g.1, fun k hk => by
  obtain ⟨f, h1, h2⟩ := g.2 k hk
  exact ⟨f, h1, fun j hj => gA_mono h (h2 j hj)⟩⟩
/-! reading -/
theorem gSl_fun {sc : List Nat} {ρ : Nat → Nat} {m : zM} {o r r2 j c c2 : Nat} (h : gSl sc ρ m o r j c) (h2 : gSl sc ρ m o r2 j c2) : c = c2 := by
  unfold gSl at h h2
  by_cases q : o = 9003
  · rw [if_pos q] at h h2
    rw [h.2.2, h2.2.2]
  · rw [if_neg q] at h h2
    obtain ⟨k, kd, n, f, ⟨-, a1, -⟩, a2, a3⟩ := h
    obtain ⟨k', kd', n', f', ⟨-, b1, -⟩, b2, b3⟩ := h2
    have e : k = k' := by omega
    subst e
    rw [a2] at b2
    cases b2
    rw [a3, b3]
theorem eFind_in {o k1 k2 k3 : Nat} {e : eE} : ∀ {fs : List eF}, eFind o k1 k2 k3 fs = some e → ∃ r, (o, r, k1, k2, k3, e) ∈ fs
  | [], h => by cases h
  | (o2, r, a, b, c, e2) :: t, h => by
    simp only [eFind] at h
    cases q : ((Nat.beq o o2 && Nat.beq k2 b) && (Nat.beq k1 a && Nat.beq k3 c))
    · rw [q, cond_false] at h
      obtain ⟨r2, h2⟩ := eFind_in h
      exact ⟨r2, List.mem_cons_of_mem _ h2⟩
    · rw [q, cond_true] at h
      simp only [Bool.and_eq_true, nb_eq] at q
      obtain ⟨⟨rfl, rfl⟩, rfl, rfl⟩ := q
      cases h
      exact ⟨r, List.mem_cons_self⟩
theorem eLd_ok {sc : List Nat} {Bc nx nx2 o r k1 k2 k3 c : Nat} {ρ : Nat → Nat} {m : zM} {ty v : eE} {fs fs2 : List eF} (hD : eDat = true) (hq : k1 ≤ 1) (hn : 10000 ≤ nx) (hr : gRig sc ρ) (hfs : ∀ f ∈ fs, gF sc Bc ρ nx m f) (hty : gA Bc ty c) (ho : o ≠ 0 → (o < nx ∧ (k1 = 0 ∨ k2 < nx)) ∧ gSl sc ρ m o r (gIx ρ k1 k2 k3) c) (h : eLd o r k1 k2 k3 ty fs nx = some (v, fs2, nx2)) : ∃ ρ2, gAg nx ρ ρ2 ∧ nx ≤ nx2 ∧ gE Bc ρ2 nx2 v c ∧ ∀ f ∈ fs2, gF sc Bc ρ2 nx2 m f := by
  unfold eLd at h
  split at h
  · rename_i e he
    have hoz : Nat.beq o 0 = false := by
      cases q : Nat.beq o 0
      · rfl
      · rw [q] at he
        cases he
    rw [hoz, cond_false] at he
    obtain ⟨r2, hin⟩ := eFind_in he
    have g := (gF_a hq).mp (hfs _ hin)
    obtain ⟨-, c2, h1, h2⟩ := g
    obtain ⟨⟨o1, o2⟩, o3⟩ := ho (nb_ne.mp hoz)
    have e1 := gSl_fun h1 o3
    subst e1
    rcases cs_ite h with ⟨-, h⟩ | ⟨-, h⟩
    · cases h
      have hv : gE Bc (gUp ρ nx c2) (nx + 1) (eWith e nx 0) c2 := ⟨h2.1, Or.inr gV_new, Nat.lt_succ_self nx⟩
      refine ⟨gUp ρ nx c2, gUp_ag, Nat.le_succ _, hv, fun f hf => ?_⟩
      rcases List.mem_cons.mp hf with rfl | hf
      · refine (gF_a hq).mpr ⟨⟨by omega, o2.imp (fun z => z) (fun z => by omega)⟩, c2, ?_, hv⟩
        rw [gIx_ext gUp_ag o2]
        exact gSl_ext gUp_ag o1 o3
      · exact gF_ext gUp_ag (Nat.le_succ _) (Nat.le_refl _) (hfs f hf)
    · cases h
      exact ⟨ρ, gAg_rf, Nat.le_refl _, h2, hfs⟩
  · unfold eLd2 at h
    cases q3 : Nat.beq ty.1 3
    · rw [q3, cond_false] at h
      cases q1 : (Nat.beq ty.1 1 && eSing ty.2.1)
      · rw [q1, cond_false] at h
        have hv : gE Bc (gUp ρ nx c) (nx + 1) (eWith ty nx 0) c := ⟨hty, Or.inr gV_new, Nat.lt_succ_self nx⟩
        have hold : ∀ f ∈ fs, gF sc Bc (gUp ρ nx c) (nx + 1) m f := fun f hf => gF_ext gUp_ag (Nat.le_succ _) (Nat.le_refl _) (hfs f hf)
        cases h
        refine ⟨gUp ρ nx c, gUp_ag, Nat.le_succ _, hv, fun f hf => ?_⟩
        cases q0 : Nat.beq o 0
        · rw [q0, cond_false] at hf
          rcases List.mem_cons.mp hf with rfl | hf
          · obtain ⟨⟨h1, h2⟩, h3⟩ := ho (nb_ne.mp q0)
            refine (gF_a hq).mpr ⟨⟨by omega, h2.imp (fun z => z) (fun z => by omega)⟩, c, ?_, hv⟩
            rw [gIx_ext gUp_ag h2]
            exact gSl_ext gUp_ag h1 h3
          · exact hold f hf
        · rw [q0, cond_true] at hf
          exact hold f hf
      · rw [q1, cond_true] at h
        cases h
        simp only [Bool.and_eq_true, nb_eq, eSing, nl_lt] at q1
        obtain ⟨q1, q2⟩ := q1
        obtain ⟨t, lo, hi, st, id, off⟩ := ty
        have q1 : t = 1 := q1
        subst q1
        have hs := ed_sing hD q2
        rcases hty with ⟨g, -⟩ | ⟨-, k, g1, g2, g3⟩ | ⟨g, -⟩ | g | ⟨g, -⟩
        · cases g
        · have g3 : eRG.getD k 0 = lo := g3
          have hc := (ed_cell hD g1).2
          rw [g3] at hc
          have q2 : 0 < eSg.getD lo 0 := q2
          have hc := hc.resolve_left (by omega)
          have hρ := hr.1 lo q2
          refine ⟨ρ, gAg_rf, Nat.le_refl _, ⟨Or.inr (Or.inl ⟨rfl, k, g1, g2, g3⟩), Or.inr (Or.inr ⟨by omega, ?_⟩), ?_⟩, hfs⟩
          · show c = ρ (lo + 1)
            rw [hρ, g2, hc]
            rfl
          · show lo + 1 < nx
            have : lo < 9000 := hs.1
            omega
        · cases g
        · cases g
        · cases g
    · rw [q3, cond_true] at h
      cases h
