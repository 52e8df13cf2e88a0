/-! ===== returns, calls run through ===== -/
section FA
variable {sc : List Nat} {Bc : Nat} {ρ : Nat → Nat} {nx : Nat} {fr : List eFr} {frs : gCf} {i w pc k : Nat} {ls st : List eE} {cl cst : List Nat} {fs : List eF} {m : zM}
theorem ep_ret {v : eE} (hn : 0 < nx) (hop : (Nat.beq (zop w) 45 || Nat.beq (zop w) 46) = true) (hs : gL Bc ρ nx st cst) (h : eRetV w i st = some v) : zIsC w = false ∧ ∃ c, zOne sc i w pc cl cst m = some (.inr c) ∧ gE Bc ρ nx v c := by
  simp only [Bool.or_eq_true, nb_eq] at hop
  refine ⟨?_, ?_⟩
  · unfold zIsC
    rcases hop with e | e <;> rw [e] <;> rfl
  unfold eRetV at h
  rcases cs_eq h with ⟨h1, h⟩ | ⟨h1, h⟩
  · split at h
    · obtain ⟨h2, h⟩ := cs_and h
      cases h
      cases cst with
      | nil =>
        refine ⟨0, ?_, gE_plain hn (eNat_ok (by decide)) rfl⟩
        simp only [zOne, h1, ↓reduceIte, Nat.reduceEqDiff, or_self, if_pos (nb_eq.mp h2)]
      | cons _ _ => exact hs.elim
    · cases h
  · have h45 := hop.resolve_right h1
    split at h
    · rename_i e
      obtain ⟨h2, h⟩ := cs_and h
      simp only [Bool.and_eq_true, Bool.or_eq_true, nb_eq] at h2
      obtain ⟨h2, h3⟩ := h2
      cases h
      obtain ⟨c, ct, rfl, ge, gt⟩ := gL_cons hs
      cases ct with
      | nil =>
        refine ⟨c, ?_, ge⟩
        have gi := gA_int h2 ge.1
        have : zRet i = 1 ∨ (zRet i = 2 ∧ c < 2) := by
          rcases h3 with h3 | ⟨h3, h4⟩
          · exact Or.inl h3
          · obtain ⟨a1, a2⟩ := gA_i0 (eSub_ok h4 ge.1)
            have := zs_of a1 (by omega)
            exact Or.inr ⟨h3, by omega⟩
        simp only [zOne, h45, ↓reduceIte, Nat.reduceEqDiff, or_self, if_pos (And.intro gi.1 this)]
      | cons _ _ => exact gt.elim
    · cases h
theorem gL_push {a c : Nat} {v : eE} (g : gE Bc ρ nx v c) (h : gL Bc ρ nx st cst) : gL Bc ρ nx (ePush a v st) (if zRet a = 0 then cst else c :: cst) := by
  unfold ePush
  by_cases q : zRet a = 0
  · rw [nb_eq.mpr q, if_pos q]
    exact h
  · rw [nb_ne.mpr q, if_neg q]
    exact ⟨g, h⟩
theorem eRetS_ok {v : eE} {c : Nat} {t : eS} (g : gE Bc ρ nx v c) (hfr : gFr Bc ρ nx fr frs) (hf : ∀ f ∈ fs, gF sc Bc ρ nx m f) (hr : 10000 ≤ nx ∧ gRig sc ρ) (h : eRetS v i fs nx fr = some t) : ∃ i2 pc2 ls2 st2 frs2, frs = (i2, pc2, ls2, st2) :: frs2 ∧ gS sc Bc ρ t frs2 i2 (pc2 + 3) ls2 (if zRet i = 0 then st2 else c :: st2) m ∧ t.2.2.2.2.2.2 = nx := by
  rcases fr with _ | ⟨⟨i2, pc2, l2, s2⟩, fr⟩
  · cases h
  · rcases frs with _ | ⟨⟨i3, pc3, l3, s3⟩, frs⟩
    · exact hfr.elim
    · cases h
      obtain ⟨⟨⟨rfl, rfl⟩, g2, g3⟩, g4⟩ := hfr
      exact ⟨_, _, _, _, _, rfl, ⟨⟨rfl, rfl⟩, ⟨g4, g2, gL_push g g3⟩, hf, hr⟩, rfl⟩
theorem gL_all (hD : eDat = true) : ∀ {es : List eE} {cs : List Nat}, gL Bc ρ nx es cs → es.all (fun e => !Nat.beq e.1 3) = true → cs.all (fun c => decide (c < 1099511627776)) = true
  | [], [], _, _ => rfl
  | e :: es, c :: cs, g, h => by
    simp only [List.all_cons, Bool.and_eq_true, Bool.not_eq_true', nb_ne] at h
    simp only [List.all_cons, Bool.and_eq_true, decide_eq_true_eq]
    exact ⟨gA_lt hD h.1 g.1.1, gL_all hD g.2 h.2⟩
  | [], _ :: _, g, _ => g.elim
  | _ :: _, [], g, _ => g.elim
theorem eRcv_ok (hD : eDat = true) (hc : zIsC w = true) (hs : gL Bc ρ nx st cst) (hr : gRig sc ρ) (hM : gM Bc m) (h : eRcv w st = true) : zRcv w cst m = true := by
  unfold eRcv at h
  unfold zRcv
  rcases cs_ite h with ⟨h1, h⟩ | ⟨h1, h⟩
  · simp only [Bool.or_eq_true, nb_eq] at h1
    rcases h1 with h1 | h1 <;> rw [h1] <;> rfl
  · rcases cs_eq h with ⟨h2, h⟩ | ⟨h2, h⟩
    · rw [if_pos h2]
      split at h
      · rename_i e he
        simp only [Bool.and_eq_true, nb_eq, nl_lt] at h
        obtain ⟨h3, h4, h5⟩ := h
        obtain ⟨c, hc2, ge⟩ := gL_get hs he
        obtain ⟨k0, f, -, -, -, b3, -⟩ := gCell hD h3 ge hr hM
        simp only [hc2, b3, h4, h5, decide_true, Bool.and_self]
      · cases h
    · cases h
theorem eCallOk_ok (hD : eDat = true) (hc : zIsC w = true) (hs : gL Bc ρ nx st cst) (hr : gRig sc ρ) (hM : gM Bc m) (h : eCallOk w st = true) : zCOk w cst m = true ∧ zb w ≤ 100 ∧ zb w ≤ st.length := by
  simp only [eCallOk, Bool.and_eq_true, nl_le] at h
  obtain ⟨⟨h1, h2⟩, h3, h4, h5, h6⟩ := h
  have hl := gL_len hs
  refine ⟨?_, h6, h1⟩
  unfold zCOk
  rw [hl] at h1 h2
  simp only [h1, h2, h5, decide_true, Bool.and_true, Bool.true_and, Bool.and_eq_true]
  exact ⟨eRcv_ok hD hc hs hr hM h3, gL_all hD (gL_take hs) h4⟩
theorem eNames_ok : ∀ {es : List eE} {cs : List Nat} {nx : Nat} {ρ : Nat → Nat}, gL Bc ρ nx es cs → ∃ ρ2, gAg nx ρ ρ2 ∧ gL Bc ρ2 (nx + es.length) (eNames es nx) cs
  | [], [], _, ρ, _ => ⟨ρ, gAg_rf, trivial⟩
  | e :: es, c :: cs, nx, ρ, g => by
    have g1 := eName_ok g.1
    obtain ⟨ρ2, h1, h2⟩ := eNames_ok (gL_ext (gNm_ag (e := e) (c := c)) (Nat.le_succ _) (Nat.le_refl _) g.2)
    have ez : nx + (e :: es).length = nx + 1 + es.length := by
      rw [List.length_cons]
      omega
    rw [ez]
    exact ⟨ρ2, gAg_tr gNm_ag h1 (Nat.le_succ _), gE_ext h1 (by omega) (Nat.le_refl _) g1, h2⟩
  | [], _ :: _, _, _, g => g.elim
  | _ :: _, [], _, _, g => g.elim
/-- a call that is run through -/
theorem eInl_ok (hD : eDat = true) (hc : zIsC w = true) (hI : gIn sc Bc ρ fr frs ls st cl cst fs nx m) (h : eCallOk w st = true) : zCOk w cst m = true ∧ ∃ ρ2, gAg nx ρ ρ2 ∧ gS sc Bc ρ2 ((i, pc, ls, st.drop (zb w)) :: fr, za w, 0, eNames (st.take (zb w)).reverse nx ++ List.replicate (zMaxL (za w) - zb w) eAny, [], fs, nx + 100) ((i, pc, cl, cst.drop (zb w)) :: frs) (za w) 0 (zEn (za w) (zb w) cst) [] m := by
  obtain ⟨h1, h2, h3⟩ := eCallOk_ok hD hc hI.1.2.2 hI.2.2.1.2 hI.2.2.2 h
  obtain ⟨ρ2, a1, a2⟩ := eNames_ok (gL_rev (gL_take (n := zb w) hI.1.2.2))
  have hn := hI.2.2.1.1
  have hlen : (st.take (zb w)).reverse.length ≤ 100 := by
    rw [List.length_reverse, List.length_take]
    omega
  have n1 : nx ≤ nx + 100 := Nat.le_add_right _ _
  have n2 : nx + (st.take (zb w)).reverse.length ≤ nx + 100 := by omega
  have n3 : 0 < nx + 100 := by omega
  refine ⟨h1, ρ2, a1, ⟨rfl, rfl⟩, ⟨⟨⟨⟨rfl, rfl⟩, gL_ext a1 n1 (Nat.le_refl _) hI.1.2.1, gL_ext a1 n1 (Nat.le_refl _) (gL_drop hI.1.2.2)⟩, gFr_ext a1 n1 (Nat.le_refl _) hI.1.1⟩, gL_app (gL_ext gAg_rf n2 (Nat.le_refl _) a2) (gL_rep n3 _), trivial⟩, fun f hf => gF_ext a1 n1 (Nat.le_refl _) (hI.2.1 f hf), by show 10000 ≤ nx + 100; omega, gRig_ext hD a1 hn hI.2.2.1.2⟩
end FA
