section FF
variable {sc : List Nat} {cf : eCf} {BF : Nat} {m0 : zM} {ρ0 : Nat → Nat}
theorem eFHas_ok {Bc nx : Nat} {ρ : Nat → Nat} {m : zM} {fs : List eF} {f : eF} (hf : ∀ f ∈ fs, gF sc Bc ρ nx m f) (ha : gAg 10000 ρ0 ρ) (hB : Bc ≤ BF) (h : eFHas fs f = true) : gF sc BF ρ0 10000 m f := by
  obtain ⟨o, r, k1, k2, k3, e⟩ := f
  simp only [eFHas, Bool.and_eq_true, Bool.or_eq_true, nl_le, nl_lt, nb_eq] at h
  obtain ⟨⟨⟨h1, h2⟩, h3⟩, h4⟩ := h
  split at h4
  · rename_i v hv
    simp only [Bool.and_eq_true, nb_eq] at h4
    obtain ⟨-, c, g1, g2⟩ := (gF_a h1).mp (hf _ (eFindR_in hv))
    have hs : gAg 10000 ρ ρ0 := fun x hx => (ha x hx).symm
    refine (gF_a h1).mpr ⟨⟨h2, h3⟩, c, ?_, gE_plain (by decide) (gA_mono hB (eSub_ok h4.1 g2.1)) h4.2⟩
    rw [gIx_ext hs h3]
    exact gSl_ext hs h2 g1
  · cases h4
theorem eChk_okQ {Q : Nat → zM → Prop} (hQ : ∀ v m', gQ sc cf.2.2.2.1 cf.2.2.1 BF m0 ρ0 v m' → Q v m') (hD : eDat = true) (hBF : BF ≤ 1073741824) (hsu : ∀ q ∈ cf.1, gSum sc q ∧ eWf 10000 q.2.1 = true) (hcu : ∀ c ∈ cf.2.2.2.2.1, eWfC c = true ∧ (c.2.1.2.1 = 1 ∨ c.2.1.2.1 = 2)) (hle : ∀ q ∈ cf.2.2.2.2.2.2, eWfC q.1 = true ∧ gLem sc Q cf.2.2.1 BF m0 ρ0 q.1 q.2) : ∀ n, gChk sc cf Q BF m0 ρ0 n := by
  intro n
  induction n with
  | zero =>
    intro skip hy s c h
    rw [eChk_z] at h
    cases h
  | succ n ih =>
    intro skip hy s c h ρ frs i pc cl cst m Bc X g0 g1 g2 g3 g4 g5
    rw [eChk_s] at h
    rcases cs_ite h with ⟨h1, h⟩ | ⟨h1, h⟩
    · rw [Bool.and_eq_true] at h1
      obtain ⟨d, hd, hb⟩ := List.any_eq_true.mp h1.2
      rw [Bool.and_eq_true] at hb
      exact eBack_ok hD hd g4 hb.2 g1 g2 g3 (by omega)
    split at h
    · rename_i q hq
      cases h
      rcases cs_ite hq with ⟨-, hq⟩ | ⟨-, hq⟩
      · cases hq
      have hm := List.mem_of_find?_eq_some hq
      have hp := List.find?_some hq
      rw [Bool.and_eq_true] at hp
      obtain ⟨l1, l2⟩ := hle q hm
      obtain ⟨P, hP, ρ2, e1, e2, e3⟩ := eFitsC_ok hD l1 hp.2 g1
      have hlb := (eWfC_at l1 hP).2.2.2.1
      exact l2 P hP ρ2 frs i pc cl cst m Bc (fun x hx => (e1 x (by omega)).trans (g0 x hx)) e2 g2 g3 (Or.inr e3) (by omega)
    split at h
    · rename_i c1 hq
      rcases cs_ite hq with ⟨-, hq⟩ | ⟨-, hq⟩
      · cases hq
      have hm := List.mem_of_find?_eq_some hq
      have hp := List.find?_some hq
      simp only [Bool.and_eq_true] at hp
      split at h
      · rename_i b hb
        cases h
        obtain ⟨u1, u2⟩ := hcu c1 hm
        obtain ⟨P, hP, ρ2, e1, e2, e3⟩ := eFitsC_ok hD u1 hp.2.2 g1
        refine eLoop_ok ih u1 u2 hp.2.1 hb g0 g4 (c1.2.1.2.2.2 - c1.2.1.2.2.1) P hP ρ2 frs i pc cl cst m Bc e1 e2 g2 g3 (Or.inr e3) ?_ g5
        unfold gRem
        split <;> omega
      · cases h
    split at h
    · rename_i q hq
      unfold eNext at hq
      split at hq
      · rename_i L hL
        cases hq
        split at hL
        · obtain ⟨s2, m1, m2, m3⟩ := eSplit_ok g1 hL
          obtain ⟨c2, k1, k2⟩ := eMaxM_ok h m1
          exact ih true hy s2 c2 k1 ρ frs i pc cl cst m Bc X g0 m2 g2 g3 (by rw [m3]; exact g4) (by omega)
        · cases hL
      · cases hq
    obtain ⟨fr, i2, pc2, ls, st, fs, nx⟩ := s
    obtain ⟨⟨r1, r2⟩, ⟨f1, f2, f3⟩, f4, f5⟩ := g1
    have r1 : i2 = i := r1
    have r2 : pc2 = pc := r2
    subst r1
    subst r2
    have hn : 10000 ≤ nx := f5.1
    rcases cs_ite h with ⟨h5, h⟩ | ⟨h5, h⟩
    · split at h
      · rename_i v hv
        obtain ⟨z1, cv, z2, z3⟩ := ep_ret (cl := cl) (m := m) (pc := pc2) (by omega) h5 f3 hv
        refine gFin_ret z1 z2 ?_
        split at h
        · rename_i t ht
          obtain ⟨i3, pc3, ls3, st3, frs3, e, t1, t2⟩ := eRetS_ok z3 f1 f4 f5 ht
          subst e
          exact ih false hy t c h ρ frs3 _ _ _ _ m Bc X g0 t1 g2 g3 (by rw [t2]; exact g4) g5
        · rename_i ht
          obtain ⟨p1, h⟩ := cs_and h
          rcases fr with _ | ⟨⟨_, _, _, _⟩, _⟩
          · rcases frs with _ | ⟨⟨_, _, _, _⟩, _⟩
            · obtain ⟨q, q1, q2⟩ := List.any_eq_true.mp p1
              simp only [Bool.and_eq_true, nb_eq] at q2
              have hB : Bc ≤ BF := by omega
              exact hQ _ _ ⟨⟨gM_mono hB g2, g3⟩, q, q1, ⟨gA_mono hB (eSub_ok q2.1 z3.1), q2.2.1⟩, fun f hf => eFHas_ok f4 g0 hB (List.all_eq_true.mp q2.2.2 f hf)⟩
            · exact f1.elim
          · cases ht
      · cases h
    · split at h
      · rename_i q hq
        split at h
        · rename_i b hb
          cases h
          obtain ⟨k, L⟩ := q
          have hB : Bc + k ≤ 1073741824 := by
            have : Bc + (k + b) + X ≤ BF := g5
            omega
          have g5 : Bc + (k + b) + X ≤ BF := g5
          have hI : gIn sc Bc ρ fr frs ls st cl cst fs nx m := ⟨⟨f1, f2, f3⟩, f4, f5, g2⟩
          unfold eRun1 at hq
          rcases cs_ite hq with ⟨h6, hq⟩ | ⟨h6, hq⟩
          · cases hinl : eInl cf.2.1 i2 pc2 (za (zI i2 pc2))
            · have hq : eCall cf.1 (eInl cf.2.1 i2 pc2 (za (zI i2 pc2))) cf.2.2.1 (zI i2 pc2) (fr, i2, pc2, ls, st, fs, nx) = some (k, L) := hq
              rw [hinl] at hq
              obtain ⟨y1, n2, v, m', y2, s2, y3, ρ3, ⟨y4, y5⟩, y6, y7, y8⟩ := eSum_ok hD hsu h6 hI hB hq
              obtain ⟨c2, k1, k2⟩ := eMaxM_ok hb y3
              refine gFin_call h6 y1 ⟨n2, v, m', y2, ?_⟩
              exact ih false hy s2 c2 k1 ρ3 frs _ _ _ _ m' (Bc + k) X (fun x hx => (y4 x (by omega)).trans (g0 x hx)) y6 y7 (gW_tr g3 y8) (gHy_ext g4 y4 y5 (Nat.le_refl _)) (by omega)
            · have hq : eCall cf.1 (eInl cf.2.1 i2 pc2 (za (zI i2 pc2))) cf.2.2.1 (zI i2 pc2) (fr, i2, pc2, ls, st, fs, nx) = some (k, L) := hq
              rw [hinl] at hq
              simp only [eCall, cond_true] at hq
              obtain ⟨h7, hq⟩ := cs_and hq
              cases hq
              obtain ⟨y1, ρ3, y4, y6⟩ := eInl_ok (i := i2) (pc := pc2) hD h6 hI h7
              obtain ⟨c2, k1, k2⟩ := eMaxM_ok hb (List.mem_singleton.mpr rfl)
              refine gFin_call h6 y1 ?_
              exact ih false hy _ c2 k1 ρ3 _ _ _ _ _ m Bc X (fun x hx => (y4 x (by omega)).trans (g0 x hx)) y6 g2 g3 (gHy_ext g4 y4 (Nat.le_add_right _ _) (Nat.le_refl _)) (by omega)
          · obtain ⟨pc3, ls3, st3, m3, y1, s2, y3, ρ3, ⟨y4, y5⟩, y6, y7, y8⟩ := eStep_ok hD hB hI hq
            obtain ⟨c2, k1, k2⟩ := eMaxM_ok hb y3
            refine gFin_step h6 y1 ?_
            exact ih false hy s2 c2 k1 ρ3 frs _ _ _ _ m3 (Bc + k) X (fun x hx => (y4 x (by omega)).trans (g0 x hx)) y6 y7 (gW_tr g3 y8) (gHy_ext g4 y4 y5 (Nat.le_refl _)) (by omega)
        · cases h
      · cases h
theorem eChk_ok (hD : eDat = true) (hBF : BF ≤ 1073741824) (hsu : ∀ q ∈ cf.1, gSum sc q ∧ eWf 10000 q.2.1 = true) (hcu : ∀ c ∈ cf.2.2.2.2.1, eWfC c = true ∧ (c.2.1.2.1 = 1 ∨ c.2.1.2.1 = 2)) (hle : ∀ q ∈ cf.2.2.2.2.2.2, eWfC q.1 = true ∧ gLem sc (gQ sc cf.2.2.2.1 cf.2.2.1 BF m0 ρ0) cf.2.2.1 BF m0 ρ0 q.1 q.2) : ∀ n, gChk sc cf (gQ sc cf.2.2.2.1 cf.2.2.1 BF m0 ρ0) BF m0 ρ0 n :=
  eChk_okQ (fun _ _ h => h) hD hBF hsu hcu hle
end FF
