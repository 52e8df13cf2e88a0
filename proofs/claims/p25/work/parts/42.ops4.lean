/-! branches -/
section ES
variable {sc : List Nat} {W : List (Nat × Nat × Nat)} {Bc : Nat} {ρ : Nat → Nat} {nx : Nat} {fr : List eFr} {frs : gCf} {i w pc k : Nat} {ls st : List eE} {cl cst : List Nat} {fs : List eF} {m : zM} {L : List eS}
theorem gA_b {e : eE} {c : Nat} (h : e.1 = 0) (g : gA Bc e c) : c < 4294967296 ∧ eLo e ≤ zs c := by
  have h2 := gA_int (eInt_t0 h) g
  exact ⟨h2.1, h2.2.1⟩
theorem eBr_ok {x y : eE} {a b kk tgt : Nat} {ct : List Nat} (hk : kk < 6) (hx : x.1 = 0) (hy : y.1 = 0) (gx : gE Bc ρ nx x a) (gy : gE Bc ρ nx y b) (hl : gL Bc ρ nx ls cl) (ht : gL Bc ρ nx st ct) (hfr : gFr Bc ρ nx fr frs) (hf : ∀ f ∈ fs, gF sc Bc ρ nx m f) (hr : 10000 ≤ nx ∧ gRig sc ρ) (h : zCmp kk a b = true) : ∃ s2 ∈ eBr fr i ls fs nx kk tgt x y st, gS sc Bc ρ s2 frs i tgt cl ct m ∧ s2.2.2.2.2.2.2 = nx := by
  obtain ⟨ha, hlo⟩ := gA_b hx gx.1
  obtain ⟨hb, -⟩ := gA_b hy gy.1
  obtain ⟨x2, y2, hq, ⟨g1, g2⟩, s1, s2⟩ := eCmp_ok hx hy gx.1 gy.1 (eSame_ok ha hb gx gy) hk h
  unfold eBr
  rw [hq]
  refine ⟨_, List.mem_singleton.mpr rfl, eRefine_ok gy.2.1 s2.1 g2 (eRefine_ok gx.2.1 s1.1 g1 ⟨⟨rfl, rfl⟩, ⟨hfr, hl, ht⟩, eLim_ok ha hb gx gy hlo hr.2 hf h, hr⟩), ?_⟩
  rw [eRefine_nx, eRefine_nx]
theorem zCmp_inv {kk a b : Nat} (h : zCmp kk a b = false) (hk : kk < 6) : zCmp (eInv kk) a b = true ∧ eInv kk < 6 := by
  rcases (show kk = 0 ∨ kk = 1 ∨ kk = 2 ∨ kk = 3 ∨ kk = 4 ∨ kk = 5 by omega) with rfl | rfl | rfl | rfl | rfl | rfl
  · exact ⟨by simp only [zCmp, eInv] at h ⊢; rw [h]; rfl, by decide⟩
  · exact ⟨by simpa only [zCmp, eInv, Bool.not_eq_false'] using h, by decide⟩
  · exact ⟨by simp only [zCmp, eInv] at h ⊢; rw [h]; rfl, by decide⟩
  · exact ⟨by simpa only [zCmp, eInv, Bool.not_eq_false'] using h, by decide⟩
  · exact ⟨by simp only [zCmp, eInv] at h ⊢; rw [h]; rfl, by decide⟩
  · exact ⟨by simpa only [zCmp, eInv, Bool.not_eq_false'] using h, by decide⟩
/-- both ways of a comparison -/
theorem eBr2_ok {x y : eE} {a b kk t1 t2 : Nat} {ct : List Nat} {st2 : List eE} (hk : kk < 6) (hx : x.1 = 0) (hy : y.1 = 0) (gx : gE Bc ρ nx x a) (gy : gE Bc ρ nx y b) (hI : gIn sc Bc ρ fr frs ls st cl cst fs nx m) (ht : gL Bc ρ nx st2 ct) : gOut sc W Bc ρ nx frs i m 0 (eBr fr i ls fs nx kk t1 x y st2 ++ eBr fr i ls fs nx (eInv kk) t2 x y st2) (if zCmp kk a b = true then t1 else t2) cl ct m := by
  cases q : zCmp kk a b
  · obtain ⟨q2, q3⟩ := zCmp_inv q hk
    obtain ⟨s2, h1, h2, h3⟩ := eBr_ok (i := i) (tgt := t2) q3 hx hy gx gy hI.1.2.1 ht hI.1.1 hI.2.1 hI.2.2.1 q2
    rw [if_neg (by decide)]
    exact ⟨s2, List.mem_append_right _ h1, ρ, ⟨gAg_rf, Nat.le_of_eq h3.symm⟩, h2, hI.2.2.2, gW_rf⟩
  · obtain ⟨s2, h1, h2, h3⟩ := eBr_ok (i := i) (tgt := t1) hk hx hy gx gy hI.1.2.1 ht hI.1.1 hI.2.1 hI.2.2.1 q
    rw [if_pos rfl]
    exact ⟨s2, List.mem_append_left _ h1, ρ, ⟨gAg_rf, Nat.le_of_eq h3.symm⟩, h2, hI.2.2.2, gW_rf⟩
theorem ep_if (hop : zop w = 17) (hI : gIn sc Bc ρ fr frs ls st cl cst fs nx m) (h : eoIf fr i pc ls st fs nx (zb w) (za w) = some (k, L)) : gStp sc W Bc ρ nx frs i w pc cl cst m k L := by
  unfold eoIf at h
  split at h
  · rename_i x st2
    obtain ⟨h1, h⟩ := cs_and h
    simp only [Bool.and_eq_true, nl_lt] at h1
    cases h
    obtain ⟨a, ct, rfl, gx, gt⟩ := gL_cons hI.1.2.2
    have gi := gA_int h1.1 gx.1
    have hn := hI.2.2.1.1
    have hz : zOne sc i w pc cl (a :: ct) m = some (.inl (if zCmp (zb w) a 0 = true then za w else pc + 3, cl, ct, m)) := by simp only [zOne, hop, ↓reduceIte, Nat.reduceEqDiff, zNx, if_pos gi.1]
    exact ⟨_, _, _, _, hz, eBr2_ok h1.2 (eInt_cnt h1.1) rfl (gE_cnt h1.1 gx) (gE_plain (by omega) (eNat_ok (by decide)) rfl) hI gt⟩
  · cases h
theorem ep_cmp (hop : zop w = 18) (hI : gIn sc Bc ρ fr frs ls st cl cst fs nx m) (h : eoCmp fr i pc ls st fs nx (zb w) (za w) = some (k, L)) : gStp sc W Bc ρ nx frs i w pc cl cst m k L := by
  unfold eoCmp at h
  split at h
  · rename_i y x st2
    obtain ⟨h1, h⟩ := cs_and h
    simp only [Bool.and_eq_true, nl_lt] at h1
    cases h
    obtain ⟨b, ct0, hct0, gy, gt0⟩ := gL_cons hI.1.2.2
    obtain ⟨a, ct, hct, gx, gt⟩ := gL_cons gt0
    subst hct
    subst hct0
    have gi := gA_int h1.1.1 gx.1
    have gj := gA_int h1.1.2 gy.1
    have hz : zOne sc i w pc cl (b :: a :: ct) m = some (.inl (if zCmp (zb w) a b = true then za w else pc + 3, cl, ct, m)) := by simp only [zOne, hop, ↓reduceIte, Nat.reduceEqDiff, zNx, if_pos (And.intro gi.1 gj.1)]
    exact ⟨_, _, _, _, hz, eBr2_ok h1.2 (eInt_cnt h1.1.1) (eInt_cnt h1.1.2) (gE_cnt h1.1.1 gx) (gE_cnt h1.1.2 gy) hI gt⟩
  · cases h
theorem eSwi_ok {x : eE} {a d : Nat} {ct : List Nat} {st2 : List eE} (hx : x.1 = 0) (gx : gE Bc ρ nx x a) (hI : gIn sc Bc ρ fr frs ls st cl cst fs nx m) (ht : gL Bc ρ nx st2 ct) : ∀ (tb : List (Nat × Nat)) (r : eE), tb.all (fun q => Nat.blt q.1 4294967296) = true → ∃ s2 ∈ eSwi fr i ls fs nx x st2 tb r d, gS sc Bc ρ s2 frs i (zSwt a tb d) cl ct m ∧ s2.2.2.2.2.2.2 = nx
  | [], r, _ => eBr_ok (by decide) hx hx gx gx hI.1.2.1 ht hI.1.1 hI.2.1 hI.2.2.1 (by simp only [zCmp, decide_true])
  | (k2, t) :: tb, r, hq => by
    have hn := hI.2.2.1.1
    simp only [List.all_cons, Bool.and_eq_true, nl_lt] at hq
    unfold eSwi zSwt
    by_cases q : a = k2
    · rw [if_pos q]
      obtain ⟨s2, h1, h2⟩ := eBr_ok (i := i) (tgt := t) (kk := 0) (b := k2) (by decide) hx rfl gx (gE_con (by omega) hq.1) hI.1.2.1 ht hI.1.1 hI.2.1 hI.2.2.1 (by simp only [zCmp, q, decide_true])
      exact ⟨s2, List.mem_append_left _ h1, h2⟩
    · rw [if_neg q]
      cases q2 : eSin x && Nat.beq (eLo x) (zs k2)
      · rw [cond_false]
        obtain ⟨s2, h1, h2⟩ := eSwi_ok hx gx hI ht tb r hq.2
        exact ⟨s2, List.mem_append_right _ h1, h2⟩
      · exfalso
        rw [Bool.and_eq_true, nb_eq] at q2
        obtain ⟨z1, z2⟩ := eSin_ok q2.1 gx.1
        exact q (zs_inj z2 hq.1 (z1.trans q2.2))
theorem ep_switch (hop : zop w = 20 ∨ zop w = 21) (hI : gIn sc Bc ρ fr frs ls st cl cst fs nx m) (h : eoSwitch fr i ls st fs nx (za w) = some (k, L)) : gStp sc W Bc ρ nx frs i w pc cl cst m k L := by
  unfold eoSwitch at h
  split at h
  · rename_i x st2
    obtain ⟨h1, h⟩ := cs_and h
    simp only [Bool.and_eq_true] at h1
    cases h
    obtain ⟨a, ct, rfl, gx, gt⟩ := gL_cons hI.1.2.2
    have gi := gA_int h1.1 gx.1
    have hz : zOne sc i w pc cl (a :: ct) m = some (.inl (zSwt a (zSw.getD (za w) (0, [], 0)).2.1 (zSw.getD (za w) (0, [], 0)).2.2, cl, ct, m)) := by
      rcases hop with hop | hop <;> simp only [zOne, hop, ↓reduceIte, Nat.reduceEqDiff, or_true, true_or, zNx, if_pos gi.1]
    obtain ⟨s2, q1, q2, q3⟩ := eSwi_ok (i := i) (d := (zSw.getD (za w) (0, [], 0)).2.2) (eInt_cnt h1.1) (gE_cnt h1.1 gx) hI gt _ (eCnt x) h1.2
    exact ⟨_, _, _, _, hz, s2, q1, ρ, ⟨gAg_rf, Nat.le_of_eq q3.symm⟩, q2, hI.2.2.2, gW_rf⟩
  · cases h
/-- a name's entry cut keeps its name -/
theorem gE_shp {e e2 : eE} {c : Nat} (h : eShp (eId e) (eOff e) e2) (g : gE Bc ρ nx e c) (g2 : gA Bc e2 c) : gE Bc ρ nx e2 c := by
  refine ⟨g2, ?_, ?_⟩
  · rw [h.2.1, h.2.2]
    exact g.2.1
  · rw [h.2.1]
    exact g.2.2
/-- one of the two cases of min and max: p < q or q <= p, the first or the second comes out -/
theorem eMn_ok {x y : eE} {a b kk pc2 : Nat} {ct : List Nat} {st2 : List eE} {sw : Bool} (hk : kk < 6) (hx : x.1 = 0) (hy : y.1 = 0) (gx : gE Bc ρ nx x a) (gy : gE Bc ρ nx y b) (hI : gIn sc Bc ρ fr frs ls st cl cst fs nx m) (ht : gL Bc ρ nx st2 ct) (h : zCmp kk a b = true) : ∃ p q, eCmp kk x y = some (p, q) ∧ gS sc Bc ρ (eRefine y q (eRefine x p (fr, i, pc2, ls, (bif sw then q else p) :: st2, fs, nx))) frs i pc2 cl ((bif sw then b else a) :: ct) m ∧ (eRefine y q (eRefine x p (fr, i, pc2, ls, (bif sw then q else p) :: st2, fs, nx))).2.2.2.2.2.2 = nx := by
  obtain ⟨ha, hlo⟩ := gA_b hx gx.1
  obtain ⟨hb, -⟩ := gA_b hy gy.1
  obtain ⟨x2, y2, hq, ⟨g1, g2⟩, s1, s2⟩ := eCmp_ok hx hy gx.1 gy.1 (eSame_ok ha hb gx gy) hk h
  refine ⟨x2, y2, hq, eRefine_ok gy.2.1 s2.1 g2 (eRefine_ok gx.2.1 s1.1 g1 ⟨⟨rfl, rfl⟩, ⟨hI.1.1, hI.1.2.1, gL_c ?_ ht⟩, hI.2.1, hI.2.2.1⟩), ?_⟩
  · cases sw
    · exact gE_shp s1 gx g1
    · exact gE_shp s2 gy g2
  · rw [eRefine_nx, eRefine_nx]
theorem ep_min (hop : zop w = 42) (hI : gIn sc Bc ρ fr frs ls st cl cst fs nx m) (h : eoMin fr i pc ls st fs nx false = some (k, L)) : gStp sc W Bc ρ nx frs i w pc cl cst m k L := by
  unfold eoMin at h
  split at h
  · rename_i y x st2
    obtain ⟨h1, h⟩ := cs_and h
    simp only [Bool.and_eq_true, nl_le] at h1
    obtain ⟨b, ct0, hct0, gy, gt0⟩ := gL_cons hI.1.2.2
    obtain ⟨a, ct, hct, gx, gt⟩ := gL_cons gt0
    subst hct
    subst hct0
    have gi := gA_int h1.1.1 gx.1
    have gj := gA_int h1.1.2 gy.1
    have hl := h1.2
    rw [gL_len gt] at hl
    have hz : zOne sc i w pc cl (b :: a :: ct) m = some (.inl (pc + 3, cl, (if zlt b a = true then b else a) :: ct, m)) := by simp only [zOne, hop, ↓reduceIte, Nat.reduceEqDiff, zNx, or_self, if_pos (And.intro (And.intro gi.1 gj.1) hl)]
    cases h
    refine ⟨_, _, _, _, hz, ?_⟩
    cases q : zlt b a
    · obtain ⟨p, q2, e1, e2, e3⟩ := eMn_ok (i := i) (pc2 := pc + 3) (kk := 3) (sw := true) (by decide) (eInt_cnt h1.1.2) (eInt_cnt h1.1.1) (gE_cnt h1.1.2 gy) (gE_cnt h1.1.1 gx) hI gt (by simp only [zCmp, q, Bool.not_false])
      refine ⟨_, List.mem_append_right _ (by simp only [cond_false]; rw [e1]; exact List.mem_singleton.mpr rfl), ρ, ⟨gAg_rf, Nat.le_of_eq e3.symm⟩, e2, hI.2.2.2, gW_rf⟩
    · obtain ⟨p, q2, e1, e2, e3⟩ := eMn_ok (i := i) (pc2 := pc + 3) (kk := 2) (sw := false) (by decide) (eInt_cnt h1.1.2) (eInt_cnt h1.1.1) (gE_cnt h1.1.2 gy) (gE_cnt h1.1.1 gx) hI gt (by simp only [zCmp, q])
      refine ⟨_, List.mem_append_left _ (by simp only [cond_false]; rw [e1]; exact List.mem_singleton.mpr rfl), ρ, ⟨gAg_rf, Nat.le_of_eq e3.symm⟩, e2, hI.2.2.2, gW_rf⟩
  · cases h
theorem ep_max (hop : zop w = 43) (hI : gIn sc Bc ρ fr frs ls st cl cst fs nx m) (h : eoMin fr i pc ls st fs nx true = some (k, L)) : gStp sc W Bc ρ nx frs i w pc cl cst m k L := by
  unfold eoMin at h
  split at h
  · rename_i y x st2
    obtain ⟨h1, h⟩ := cs_and h
    simp only [Bool.and_eq_true, nl_le] at h1
    obtain ⟨b, ct0, hct0, gy, gt0⟩ := gL_cons hI.1.2.2
    obtain ⟨a, ct, hct, gx, gt⟩ := gL_cons gt0
    subst hct
    subst hct0
    have gi := gA_int h1.1.1 gx.1
    have gj := gA_int h1.1.2 gy.1
    have hl := h1.2
    rw [gL_len gt] at hl
    have hz : zOne sc i w pc cl (b :: a :: ct) m = some (.inl (pc + 3, cl, (if zlt a b = true then b else a) :: ct, m)) := by simp only [zOne, hop, ↓reduceIte, Nat.reduceEqDiff, zNx, or_self, if_pos (And.intro (And.intro gi.1 gj.1) hl)]
    cases h
    refine ⟨_, _, _, _, hz, ?_⟩
    cases q : zlt a b
    · obtain ⟨p, q2, e1, e2, e3⟩ := eMn_ok (i := i) (pc2 := pc + 3) (kk := 3) (sw := false) (by decide) (eInt_cnt h1.1.1) (eInt_cnt h1.1.2) (gE_cnt h1.1.1 gx) (gE_cnt h1.1.2 gy) hI gt (by simp only [zCmp, q, Bool.not_false])
      refine ⟨_, List.mem_append_right _ (by simp only [cond_true]; rw [e1]; exact List.mem_singleton.mpr rfl), ρ, ⟨gAg_rf, Nat.le_of_eq e3.symm⟩, e2, hI.2.2.2, gW_rf⟩
    · obtain ⟨p, q2, e1, e2, e3⟩ := eMn_ok (i := i) (pc2 := pc + 3) (kk := 2) (sw := true) (by decide) (eInt_cnt h1.1.1) (eInt_cnt h1.1.2) (gE_cnt h1.1.1 gx) (gE_cnt h1.1.2 gy) hI gt (by simp only [zCmp, q])
      refine ⟨_, List.mem_append_left _ (by simp only [cond_true]; rw [e1]; exact List.mem_singleton.mpr rfl), ρ, ⟨gAg_rf, Nat.le_of_eq e3.symm⟩, e2, hI.2.2.2, gW_rf⟩
  · cases h
end ES
