/-! ===== one instruction of the interpreter is one of the pure machine ===== -/
/-- a row of states behind an instruction holds one that means what the machine has come to -/
def gOut (sc : List Nat) (W : List (Nat × Nat × Nat)) (Bc : Nat) (ρ : Nat → Nat) (nx : Nat) (frs : gCf) (i : Nat) (m : zM) (k : Nat) (L : List eS) (pc2 : Nat) (ls2 st2 : List Nat) (m2 : zM) : Prop :=
  ∃ s2 ∈ L, ∃ ρ2, (gAg nx ρ ρ2 ∧ nx ≤ s2.2.2.2.2.2.2) ∧ gS sc (Bc + k) ρ2 s2 frs i pc2 ls2 st2 m2 ∧ gM (Bc + k) m2 ∧ gW W m m2
def gStp (sc : List Nat) (W : List (Nat × Nat × Nat)) (Bc : Nat) (ρ : Nat → Nat) (nx : Nat) (frs : gCf) (i w pc : Nat) (ls st : List Nat) (m : zM) (k : Nat) (L : List eS) : Prop :=
  ∃ (pc2 : Nat) (ls2 st2 : List Nat) (m2 : zM), zOne sc i w pc ls st m = some (.inl (pc2, ls2, st2, m2)) ∧ gOut sc W Bc ρ nx frs i m k L pc2 ls2 st2 m2
section EP
variable {sc : List Nat} {W : List (Nat × Nat × Nat)} {Bc : Nat} {ρ : Nat → Nat} {nx : Nat} {fr : List eFr} {frs : gCf} {i w pc k : Nat} {ls st : List eE} {cl cst : List Nat} {fs : List eF} {m : zM} {L : List eS}
/-- what holds ahead of an instruction -/
abbrev gIn (sc : List Nat) (Bc : Nat) (ρ : Nat → Nat) (fr : List eFr) (frs : gCf) (ls st : List eE) (cl cst : List Nat) (fs : List eF) (nx : Nat) (m : zM) : Prop :=
  (gFr Bc ρ nx fr frs ∧ gL Bc ρ nx ls cl ∧ gL Bc ρ nx st cst) ∧ (∀ f ∈ fs, gF sc Bc ρ nx m f) ∧ (10000 ≤ nx ∧ gRig sc ρ) ∧ gM Bc m
/-- the simplest end: nothing written, no new name -/
theorem gOut_s {pc2 : Nat} {ls2 st2 : List eE} {cl2 cst2 : List Nat} (h : gIn sc Bc ρ fr frs ls st cl cst fs nx m) (h1 : gL Bc ρ nx ls2 cl2) (h2 : gL Bc ρ nx st2 cst2) : gOut sc W Bc ρ nx frs i m 0 [(fr, i, pc2, ls2, st2, fs, nx)] pc2 cl2 cst2 m :=
  ⟨_, List.mem_singleton.mpr rfl, ρ, ⟨gAg_rf, Nat.le_refl _⟩, ⟨⟨rfl, rfl⟩, ⟨h.1.1, h1, h2⟩, h.2.1, h.2.2.1⟩, h.2.2.2, gW_rf⟩
/-- nothing written, new names -/
theorem gOut_n {pc2 nx2 : Nat} {ρ2 : Nat → Nat} {ls2 st2 : List eE} {cl2 cst2 : List Nat} {fs2 : List eF} (hD : eDat = true) (h : gIn sc Bc ρ fr frs ls st cl cst fs nx m) (ha : gAg nx ρ ρ2) (hn : nx ≤ nx2) (h1 : gL Bc ρ2 nx2 ls2 cl2) (h2 : gL Bc ρ2 nx2 st2 cst2) (hf : ∀ f ∈ fs2, gF sc Bc ρ2 nx2 m f) : gOut sc W Bc ρ nx frs i m 0 [(fr, i, pc2, ls2, st2, fs2, nx2)] pc2 cl2 cst2 m :=
  ⟨_, List.mem_singleton.mpr rfl, ρ2, ⟨ha, hn⟩, ⟨⟨rfl, rfl⟩, ⟨gFr_ext ha hn (Nat.le_refl _) h.1.1, h1, h2⟩, hf, Nat.le_trans h.2.2.1.1 hn, gRig_ext hD ha h.2.2.1.1 h.2.2.1.2⟩, h.2.2.2, gW_rf⟩
theorem gL_c {Bc nx : Nat} {ρ : Nat → Nat} {e : eE} {es : List eE} {c : Nat} {cs : List Nat} (h : gE Bc ρ nx e c) (h2 : gL Bc ρ nx es cs) : gL Bc ρ nx (e :: es) (c :: cs) := ⟨h, h2⟩
theorem gL_cons {Bc nx : Nat} {ρ : Nat → Nat} {e : eE} {es : List eE} {cs : List Nat} (h : gL Bc ρ nx (e :: es) cs) : ∃ c ct, cs = c :: ct ∧ gE Bc ρ nx e c ∧ gL Bc ρ nx es ct := by
  cases cs with
  | nil => exact h.elim
  | cons c ct => exact ⟨c, ct, rfl, h.1, h.2⟩
theorem gE_con {Bc nx a : Nat} {ρ : Nat → Nat} (hn : 0 < nx) (h : a < 4294967296) : gE Bc ρ nx (eCon a) a := ⟨eCon_ok h, Or.inl rfl, hn⟩
theorem ep_con (hop : zop w = 1) (hI : gIn sc Bc ρ fr frs ls st cl cst fs nx m) (h : eMk fr i (pc + zln w) ls (eCon (za w) :: st) fs nx = some (k, L)) : gStp sc W Bc ρ nx frs i w pc cl cst m k L := by
  cases h
  have hz : zOne sc i w pc cl cst m = some (.inl (pc + zln w, cl, za w :: cst, m)) := by simp only [zOne, hop, ↓reduceIte, zNx]
  have hn := hI.2.2.1.1
  exact ⟨_, _, _, _, hz, gOut_s hI hI.1.2.1 (gL_c (gE_con (by omega) (za_lt w)) hI.1.2.2)⟩
theorem ep_load2 (hop : zop w = 2) (hI : gIn sc Bc ρ fr frs ls st cl cst fs nx m) (h : eoLoad fr i pc ls st fs nx false (za w) (zln w) = some (k, L)) : gStp sc W Bc ρ nx frs i w pc cl cst m k L := by
  unfold eoLoad at h
  split at h
  · rename_i e he
    obtain ⟨h1, h⟩ := cs_and h
    cases h
    obtain ⟨c, hc, ge⟩ := gL_get hI.1.2.1 he
    have gi := gA_int h1 ge.1
    have hz : zOne sc i w pc cl cst m = some (.inl (pc + zln w, cl, c :: cst, m)) := by simp only [zOne, hop, ↓reduceIte, Nat.reduceEqDiff, zNx, hc, if_pos gi.1]
    exact ⟨_, _, _, _, hz, gOut_s hI hI.1.2.1 (gL_c ge hI.1.2.2)⟩
  · cases h
theorem gA_ref {Bc : Nat} {e : eE} {c : Nat} (hD : eDat = true) (h : (Nat.beq e.1 1 || Nat.beq e.1 2) = true) (g : gA Bc e c) : 4294967296 < c ∧ c < 1099511627776 := by
  simp only [Bool.or_eq_true, nb_eq] at h
  rcases h with h | h
  · obtain ⟨k, h1, h2, -⟩ := gA_cell h g
    have := (ed_len hD).2.2.1
    omega
  · obtain ⟨h1, h2⟩ := gA_stat h g
    omega
theorem ep_load3 (hD : eDat = true) (hop : zop w = 3) (hI : gIn sc Bc ρ fr frs ls st cl cst fs nx m) (h : eoLoad fr i pc ls st fs nx true (za w) (zln w) = some (k, L)) : gStp sc W Bc ρ nx frs i w pc cl cst m k L := by
  unfold eoLoad at h
  split at h
  · rename_i e he
    obtain ⟨h1, h⟩ := cs_and h
    cases h
    obtain ⟨c, hc, ge⟩ := gL_get hI.1.2.1 he
    have gi := gA_ref hD h1 ge.1
    have hz : zOne sc i w pc cl cst m = some (.inl (pc + zln w, cl, c :: cst, m)) := by simp only [zOne, hop, ↓reduceIte, Nat.reduceEqDiff, zNx, hc, if_pos gi]
    exact ⟨_, _, _, _, hz, gOut_s hI hI.1.2.1 (gL_c ge hI.1.2.2)⟩
  · cases h
theorem ep_store4 (hD : eDat = true) (hop : zop w = 4) (hI : gIn sc Bc ρ fr frs ls st cl cst fs nx m) (h : eoStore fr i pc ls st fs nx false (za w) (zln w) = some (k, L)) : gStp sc W Bc ρ nx frs i w pc cl cst m k L := by
  unfold eoStore at h
  split at h
  · rename_i e st
    obtain ⟨h1, h⟩ := cs_and h
    rw [Bool.and_eq_true] at h1
    cases h
    obtain ⟨c, ct, rfl, ge, gt⟩ := gL_cons hI.1.2.2
    have gi := gA_int h1.1 ge.1
    have hl := nl_lt.mp h1.2
    rw [gL_len hI.1.2.1] at hl
    have hz : zOne sc i w pc cl (c :: ct) m = some (.inl (pc + zln w, cl.set (za w) c, ct, m)) := by simp only [zOne, hop, ↓reduceIte, Nat.reduceEqDiff, zNx, if_pos (And.intro gi.1 hl)]
    exact ⟨_, _, _, _, hz, gOut_n hD hI gNm_ag (Nat.le_succ _) (gL_set (eName_ok ge) (gL_ext gNm_ag (Nat.le_succ _) (Nat.le_refl _) hI.1.2.1)) (gL_ext gNm_ag (Nat.le_succ _) (Nat.le_refl _) gt) (fun f hf => gF_ext gNm_ag (Nat.le_succ _) (Nat.le_refl _) (hI.2.1 f hf))⟩
  · cases h
theorem ep_store5 (hD : eDat = true) (hop : zop w = 5) (hI : gIn sc Bc ρ fr frs ls st cl cst fs nx m) (h : eoStore fr i pc ls st fs nx true (za w) (zln w) = some (k, L)) : gStp sc W Bc ρ nx frs i w pc cl cst m k L := by
  unfold eoStore at h
  split at h
  · rename_i e st
    obtain ⟨h1, h⟩ := cs_and h
    rw [Bool.and_eq_true] at h1
    cases h
    obtain ⟨c, ct, rfl, ge, gt⟩ := gL_cons hI.1.2.2
    have gi := gA_ref hD h1.1 ge.1
    have hl := nl_lt.mp h1.2
    rw [gL_len hI.1.2.1] at hl
    have hz : zOne sc i w pc cl (c :: ct) m = some (.inl (pc + zln w, cl.set (za w) c, ct, m)) := by simp only [zOne, hop, ↓reduceIte, Nat.reduceEqDiff, zNx, if_pos (And.intro gi hl)]
    exact ⟨_, _, _, _, hz, gOut_n hD hI gNm_ag (Nat.le_succ _) (gL_set (eName_ok ge) (gL_ext gNm_ag (Nat.le_succ _) (Nat.le_refl _) hI.1.2.1)) (gL_ext gNm_ag (Nat.le_succ _) (Nat.le_refl _) gt) (fun f hf => gF_ext gNm_ag (Nat.le_succ _) (Nat.le_refl _) (hI.2.1 f hf))⟩
  · cases h
/-- a name that goes on by a constant -/
theorem gV_add {ρ : Nat → Nat} {id off a d : Nat} (h : gV ρ id off a) (ha : a < 4294967296) : gV ρ id ((off + d) % 4294967296) ((a + d) % 4294967296) := by
  have h1 := gV_int h ha
  have h2 : ρ id < 4294967296 := by
    rcases h with ⟨-, h, -⟩ | ⟨h, -⟩
    · exact h
    · omega
  refine Or.inl ⟨Nat.mod_lt _ (by decide), h2, ?_⟩
  omega
theorem eInt_cnt {e : eE} (h : eInt e = true) : (eCnt e).1 = 0 := by
  obtain ⟨t, lo, hi, st, id, off⟩ := e
  simp only [eInt, Bool.or_eq_true, nb_eq] at h
  rcases h with rfl | rfl <;> rfl
theorem ep_inc (hD : eDat = true) (hop : zop w = 6) (hI : gIn sc Bc ρ fr frs ls st cl cst fs nx m) (h : eoInc fr i pc ls st fs nx (za w) (zb w) = some (k, L)) : gStp sc W Bc ρ nx frs i w pc cl cst m k L := by
  unfold eoInc at h
  split at h
  · rename_i e he
    obtain ⟨h1, h⟩ := cs_and h
    cases h
    obtain ⟨c, hc, ge⟩ := gL_get hI.1.2.1 he
    have gi := gA_int h1 ge.1
    have gs := eAdd_ok (eInt_cnt h1) rfl (eCnt_ok h1 ge.1).1 (eCon_ok (Bc := Bc) (za_lt w))
    have hz : zOne sc i w pc cl cst m = some (.inl (pc + 3, cl.set (zb w) ((c + za w) % 4294967296), cst, m)) := by simp only [zOne, hop, ↓reduceIte, Nat.reduceEqDiff, zNx, hc, if_pos gi.1]
    refine ⟨_, _, _, _, hz, gOut_n (ρ2 := gUp ρ nx ((c + za w) % 4294967296)) hD hI gUp_ag (Nat.le_succ _) (gL_set ?_ (gL_ext gUp_ag (Nat.le_succ _) (Nat.le_refl _) hI.1.2.1)) (gL_ext gUp_ag (Nat.le_succ _) (Nat.le_refl _) hI.1.2.2) (fun f hf => gF_ext gUp_ag (Nat.le_succ _) (Nat.le_refl _) (hI.2.1 f hf))⟩
    cases q : Nat.beq (eId e) 0
    · rw [cond_false]
      have g2 : gE Bc ρ nx (eWith (eAdd (eCnt e) (eCon (za w))) (eId e) ((eOff e + za w) % 4294967296)) ((c + za w) % 4294967296) := ⟨gA_with gs, Or.inr (gV_add (ge.2.1.resolve_left (nb_ne.mp q)) gi.1), ge.2.2⟩
      exact gE_ext gUp_ag (Nat.le_succ _) (Nat.le_refl _) g2
    · rw [cond_true]
      exact ⟨gA_with gs, Or.inr gV_new, Nat.lt_succ_self nx⟩
  · cases h
end EP
