section EY
variable {sc : List Nat} {Bc : Nat} {ρ ρ2 : Nat → Nat} {nx lb : Nat} {P S : eS} {frs : gCf} {i pc : Nat} {cl cst : List Nat} {m : zM}
theorem eTr_ok {x y f : Nat} (hfr : gFr Bc ρ nx S.1 frs) (hls : gL Bc ρ nx S.2.2.2.1 cl) (h : eTr lb S x = some (y, f)) : (f = 0 → gLoc lb ρ frs cl x = ρ y) ∧ (∀ k3, (gLoc lb ρ frs cl x + k3) % 4294967296 = (ρ y + (f + k3) % 4294967296) % 4294967296) ∧ (x < lb → y = x) := by
  unfold eTr at h
  rcases cs_ite h with ⟨h1, h⟩ | ⟨h1, h⟩
  · have h1 := nl_lt.mp h1
    cases h
    have e : gLoc lb ρ frs cl x = ρ x := if_pos h1
    rw [e]
    exact ⟨fun _ => rfl, fun k3 => by omega, fun _ => rfl⟩
  · have h1 := nl_nlt.mp h1
    split at h
    · rename_i e he
      obtain ⟨h2, h⟩ := cs_and h
      simp only [Bool.and_eq_true, Bool.or_eq_true, nl_lt, nb_eq] at h2
      obtain ⟨h2, h3⟩ := h2
      cases h
      have g := gLoc_v hfr hls h1 he
      have gv := g.2.1.resolve_left (by omega)
      refine ⟨fun h0 => ?_, fun k3 => ?_, fun q => absurd q (by omega)⟩
      · rcases gv with ⟨a1, a2, a3⟩ | ⟨a1, a2⟩ <;> omega
      · rcases gv with ⟨a1, a2, a3⟩ | ⟨a1, a2⟩
        · omega
        · rcases h3 with h3 | h3
          · have := (gA_int h3 g.1).1
            omega
          · rw [h3, ← a2]
            omega
    · cases h
theorem eFindR_in {o r k1 k2 k3 : Nat} {e : eE} : ∀ {fs : List eF}, eFindR o r k1 k2 k3 fs = some e → (o, r, k1, k2, k3, e) ∈ fs
  | [], h => by cases h
  | (o2, r2, a, b, c, e2) :: t, h => by
    simp only [eFindR] at h
    rcases cs_ite h with ⟨q, h9⟩ | ⟨q, h9⟩
    · simp only [Bool.and_eq_true, nb_eq] at q
      clear h
      obtain ⟨⟨rfl, rfl⟩, ⟨rfl, rfl⟩, rfl⟩ := q
      cases h9
      exact List.mem_cons_self
    · exact List.mem_cons_of_mem _ (eFindR_in h9)
/-- a slot under other names of the same object and place -/
theorem gSl_re {o o2 r j j2 c : Nat} (h : gSl sc ρ m o2 r j2 c) (hj : j = j2) (ho : o = 9003 ∧ o2 = 9003 ∨ o ≠ 9003 ∧ o2 ≠ 9003) (he : ρ2 o = ρ o2) : gSl sc ρ2 m o r j c := by
  subst hj
  unfold gSl at h ⊢
  rcases ho with ⟨q1, q2⟩ | ⟨q1, q2⟩
  · rw [if_pos q2] at h
    rw [if_pos q1]
    exact h
  · rw [if_neg q2] at h
    rw [if_neg q1, he]
    exact h
theorem eFV_ok {o r k1 k2 k3 : Nat} {e v : eE} (hb : 10000 ≤ lb) (hfr : gFr Bc ρ nx S.1 frs) (hls : gL Bc ρ nx S.2.2.2.1 cl) (hfs : ∀ f ∈ eFs S, gF sc Bc ρ nx m f) (hk : k1 ≠ 2) (h : eFV lb S (o, r, k1, k2, k3, e) = some v) : k1 ≤ 1 ∧ ∃ c, gE Bc ρ nx v c ∧ gSl sc (gLoc lb ρ frs cl) m o r (gIx (gLoc lb ρ frs cl) k1 k2 k3) c := by
  simp only [eFV, nb_ne.mpr hk, cond_false] at h
  split at h
  · rename_i o2 f2 ho
    obtain ⟨h1, h⟩ := cs_and h
    simp only [Bool.and_eq_true, Bool.or_eq_true, nb_eq, Bool.not_eq_true', nb_ne] at h1
    obtain ⟨h1, h2⟩ := h1
    obtain ⟨t1, -, t3⟩ := eTr_ok hfr hls ho
    have hoo : o = 9003 ∧ o2 = 9003 ∨ o ≠ 9003 ∧ o2 ≠ 9003 := by
      by_cases q : o = 9003
      · exact Or.inl ⟨q, by rw [t3 (by omega)]; exact q⟩
      · exact Or.inr ⟨q, h2.resolve_left q⟩
    rcases cs_eq h with ⟨h3, h⟩ | ⟨h3, h⟩
    · split at h
      · rename_i q f hq
        obtain ⟨-, u2, -⟩ := eTr_ok hfr hls hq
        have g := (gF_a (Nat.le_refl 1)).mp (hfs _ (eFindR_in h))
        obtain ⟨-, c, g1, g2⟩ := g
        refine ⟨by omega, c, g2, gSl_re g1 ?_ hoo (t1 h1)⟩
        rw [h3, gIx_1, gIx_1]
        exact u2 k3
      · cases h
    · rcases cs_eq h with ⟨h4, h⟩ | ⟨h4, h⟩
      · have g := (gF_a (Nat.zero_le 1)).mp (hfs _ (eFindR_in h))
        obtain ⟨-, c, g1, g2⟩ := g
        refine ⟨by omega, c, g2, gSl_re g1 ?_ hoo (t1 h1)⟩
        rw [h4, gIx_0, gIx_0]
      · cases h
  · cases h
theorem eLimV_ok {k2 k3 : Nat} (hfr : gFr Bc ρ nx S.1 frs) (hls : gL Bc ρ nx S.2.2.2.1 cl) (hfs : ∀ f ∈ eFs S, gF sc Bc ρ nx m f) (h : eLimV lb S k2 k3 = true) : if k2 = 0 then k3 ≤ sc.length else gLoc lb ρ frs cl k2 < 2147483648 ∧ gLoc lb ρ frs cl k2 + k3 ≤ sc.length := by
  unfold eLimV at h
  rcases cs_ite h with ⟨h1, h⟩ | ⟨h1, h⟩
  · rw [if_pos (nb_eq.mp h1)]
    obtain ⟨⟨o, r, k1, q, k4, e⟩, f1, f2⟩ := List.any_eq_true.mp h
    simp only [Bool.and_eq_true, nb_eq, nl_le] at f2
    obtain ⟨rfl, rfl, f3⟩ := f2
    have f5 := (gF_2.mp (hfs _ f1)).2.2
    rw [if_pos rfl] at f5
    omega
  · rw [if_neg (nb_ne.mp h1)]
    split at h
    · rename_i q f hq
      simp only [Bool.and_eq_true, nb_eq, nl_lt] at h
      obtain ⟨⟨h2, h3⟩, h⟩ := h
      obtain ⟨⟨o, r, k1, q2, k4, e⟩, f1, f2⟩ := List.any_eq_true.mp h
      simp only [Bool.and_eq_true, nb_eq, nl_le] at f2
      obtain ⟨rfl, rfl, f3⟩ := f2
      have f5 := (gF_2.mp (hfs _ f1)).2.2
      rw [if_neg (by omega)] at f5
      rw [(eTr_ok hfr hls hq).1 h2]
      omega
    · cases h
theorem eFV_2 {o r k2 k3 : Nat} {e v : eE} (hfr : gFr Bc ρ nx S.1 frs) (hls : gL Bc ρ nx S.2.2.2.1 cl) (hfs : ∀ f ∈ eFs S, gF sc Bc ρ nx m f) (h : eFV lb S (o, r, 2, k2, k3, e) = some v) : v = eAny ∧ r = 9999 ∧ (if k2 = 0 then k3 ≤ sc.length else gLoc lb ρ frs cl k2 < 2147483648 ∧ gLoc lb ρ frs cl k2 + k3 ≤ sc.length) := by
  simp only [eFV, Nat.beq_refl, cond_true] at h
  obtain ⟨h1, h⟩ := cs_and h
  cases h
  simp only [Bool.and_eq_true, nb_eq] at h1
  exact ⟨rfl, h1.1, eLimV_ok hfr hls hfs h1.2⟩
theorem eFitF_ok : ∀ {fs : List eF} {own k : Nat} {f : eF}, eFitF lb P S own fs = true → fs[k]? = some f → ∃ v, eFV lb S f = some v ∧ eFit lb P S (own + k) v f.2.2.2.2.2 = true
  | [], _, _, _, _, h => by cases h
  | g :: fs, own, 0, f, h, hk => by
    cases hk
    simp only [eFitF, Bool.and_eq_true] at h
    obtain ⟨h, -⟩ := h
    split at h
    · rename_i v hv
      exact ⟨v, hv, h⟩
    · cases h
  | g :: fs, own, k + 1, f, h, hk => by
    simp only [eFitF, Bool.and_eq_true] at h
    obtain ⟨v, h1, h2⟩ := eFitF_ok (own := own + 1) (k := k) (f := f) h.2 hk
    rw [show own + (k + 1) = own + 1 + k by omega]
    exact ⟨v, h1, h2⟩
theorem eFitFr_len : ∀ {ss ps : List eFr} {own : Nat}, eFitFr lb P S own ss ps = true → ss.length = ps.length
  | [], [], _, _ => rfl
  | (_, _, _, _) :: ss, (_, _, _, _) :: ps, own, h => by
    simp only [eFitFr, Bool.and_eq_true] at h
    simp only [List.length_cons, eFitFr_len h.2.2]
  | [], _ :: _, _, h => by cases h
  | _ :: _, [], _, h => by cases h
theorem gFr_len : ∀ {es : List eFr} {cs : gCf}, gFr Bc ρ nx es cs → es.length = cs.length
  | [], [], _ => rfl
  | (_, _, _, _) :: es, (_, _, _, _) :: cs, h => by simp only [List.length_cons, gFr_len h.2]
  | [], _ :: _, h => h.elim
  | (_, _, _, _) :: _, [], h => h.elim
theorem eMatch_ok (hD : eDat = true) (hw : eWf lb P = true) (h : eMatch lb S P = true) (hS : gS sc Bc ρ S frs i pc cl cst m) : ∃ ρ2, gAg lb ρ ρ2 ∧ gS sc Bc ρ2 P frs i pc cl cst m ∧ (∀ x v, lb ≤ x → eValue lb P S x = some v → gE Bc ρ S.2.2.2.2.2.2 v (ρ2 x)) := by
  simp only [eWf, Bool.and_eq_true, nl_le] at hw
  obtain ⟨⟨⟨w1, w2⟩, w3, w4, w5⟩, ⟨w6, w7⟩, w8, w9⟩ := hw
  simp only [eMatch, Bool.and_eq_true, nb_eq] at h
  obtain ⟨⟨h1, h2⟩, ⟨h3, h4⟩, h5, h6⟩ := h
  obtain ⟨⟨s1, s2⟩, ⟨s3, s4, s5⟩, s6, s7, s8⟩ := hS
  have hsk : ∀ k : Nat, ∃ c, ∀ f v, (eFs P)[k]? = some f → eFV lb S f = some v → gE Bc ρ S.2.2.2.2.2.2 v c ∧ (f.2.2.1 ≠ 2 → f.2.2.1 ≤ 1 ∧ gSl sc (gLoc lb ρ frs cl) m f.1 f.2.1 (gIx (gLoc lb ρ frs cl) f.2.2.1 f.2.2.2.1 f.2.2.2.2.1) c) := by
    intro k
    rcases q : (eFs P)[k]? with _ | f
    · exact ⟨0, fun f v e => by cases e⟩
    · rcases q2 : eFV lb S f with _ | v
      · exact ⟨0, fun f2 v e e2 => by cases e; rw [q2] at e2; cases e2⟩
      · obtain ⟨o, r, k1, k2, k3, e⟩ := f
        by_cases hk : k1 = 2
        · subst hk
          obtain ⟨a1, -, -⟩ := eFV_2 s3 s4 s6 q2
          exact ⟨0, fun f2 v2 e e2 => by cases e; rw [q2] at e2; cases e2; rw [a1]; exact ⟨⟨Or.inr (Or.inr (Or.inr (Or.inl rfl))), Or.inl rfl, Nat.lt_of_lt_of_le (by decide) s7⟩, fun q => absurd rfl q⟩⟩
        · obtain ⟨a1, c, a2, a3⟩ := eFV_ok w1 s3 s4 s6 hk q2
          exact ⟨c, fun f2 v2 e e2 => by cases e; rw [q2] at e2; cases e2; exact ⟨a2, fun _ => ⟨a1, a3⟩⟩⟩
  obtain ⟨φ, hφ⟩ := Classical.skolem.mp hsk
  have r1 : ∀ x, x < lb + 5000 → (fun x => if x < lb + 5000 then gLoc lb ρ frs cl x else φ (x - lb - 5000)) x = gLoc lb ρ frs cl x := fun x hx => if_pos hx
  have r2 : ∀ x, ¬ x < lb + 5000 → (fun x => if x < lb + 5000 then gLoc lb ρ frs cl x else φ (x - lb - 5000)) x = φ (x - lb - 5000) := fun x hx => if_neg hx
  generalize (fun x => if x < lb + 5000 then gLoc lb ρ frs cl x else φ (x - lb - 5000)) = ρ2 at r1 r2
  have hl : ∀ x, x < lb → ρ2 x = ρ x := fun x hx => (r1 x (by omega)).trans (if_pos hx)
  have hv : ∀ x v, lb ≤ x → eValue lb P S x = some v → gE Bc ρ S.2.2.2.2.2.2 v (ρ2 x) := by
    intro x v hx h
    unfold eValue at h
    rcases cs_ite h with ⟨q, h⟩ | ⟨q, h⟩
    · rw [r1 x (nl_lt.mp q)]
      exact gLoc_v s3 s4 hx h
    · rw [r2 x (Nat.not_lt.mpr (nl_nlt.mp q))]
      split at h
      · rename_i f hf
        exact (hφ _ f v hf h).1
      · cases h
  refine ⟨ρ2, hl, ⟨⟨h1.symm.trans s1, h2.symm.trans s2⟩, ⟨?_, ?_, ?_⟩, ?_, by omega, gRig_ext hD hl w1 s8⟩, hv⟩
  · refine eFitFr_ok w3 hl hv s3 h3 w8 (fun d q k c hd hk hc hq => ?_)
    have hlen := (gFr_len s3).symm.trans (eFitFr_len h3)
    have hd2 := (List.getElem?_eq_some_iff.mp hd).1
    rw [r1 _ (by omega)]
    unfold gLoc
    rw [if_neg (by omega), if_neg (by omega), show (lb + 100 + 100 * d + k - lb) / 100 - 1 = d by omega, show (lb + 100 + 100 * d + k - lb) % 100 = k by omega, hd]
    exact getD_of hc
  · refine eFitL_ok hl hv s4 h4 w6 (fun k c hk hc q => ?_)
    rw [r1 _ (by omega)]
    unfold gLoc
    rw [if_neg (by omega), if_pos (by omega), show lb + k - lb = k by omega]
    exact getD_of hc
  · exact eFitL_ok hl hv s5 h5 w7 (fun k c hk hc q => absurd q (by omega))
  · intro f hf
    obtain ⟨k, hk⟩ := List.mem_iff_getElem?.mp hf
    obtain ⟨v, e1, e2⟩ := eFitF_ok h6 hk
    obtain ⟨e4, e35⟩ := hφ k f v hk e1
    have wf := List.all_eq_true.mp w9 f hf
    obtain ⟨o, r, k1, k2, k3, e⟩ := f
    simp only [eWfF, Bool.and_eq_true, Bool.or_eq_true, nl_lt, nb_eq] at wf
    obtain ⟨⟨⟨f1, f2⟩, f3⟩, f4⟩ := wf
    by_cases hk2 : k1 = 2
    · subst hk2
      obtain ⟨-, u1, u2⟩ := eFV_2 s3 s4 s6 e1
      have f3 := f3.resolve_left (by decide)
      exact gF_2.mpr ⟨f3.2, u1, by rw [r1 _ f3.1]; exact u2⟩
    obtain ⟨e3, e5⟩ := e35 hk2
    have ag : gAg (lb + 5000) (gLoc lb ρ frs cl) ρ2 := r1
    refine (gF_a e3).mpr ⟨⟨f2, f3.imp (fun z => z) (fun z => z.2)⟩, φ k, ?_, ?_⟩
    · rw [gIx_ext ag (f3.imp (fun z => z) (fun z => z.1))]
      exact gSl_ext ag f1 e5
    · refine eFit_ok e4 e2 (nl_lt.mp f4) (fun _ => ?_) hl hv
      rw [r2 _ (by omega), show lb + 5000 + k - lb - 5000 = k by omega]
end EY
