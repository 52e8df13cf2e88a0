/-! ===== calls by a method's row ===== -/
/-- what a method's end is: the memory, what was written, an answer and facts that fit one of the ends -/
def gQ (sc : List Nat) (ends : List (eE × List eF)) (W : List (Nat × Nat × Nat)) (BF : Nat) (m0 : zM) (ρ0 : Nat → Nat) (v : Nat) (m' : zM) : Prop :=
  (gM BF m' ∧ gW W m0 m') ∧ ∃ q ∈ ends, (gA BF q.1 v ∧ eId q.1 = 0) ∧ ∀ f ∈ q.2, gF sc BF ρ0 10000 m' f
/-- a method's row holds -/
def gSum (sc : List Nat) (q : eSm) : Prop := ∀ (ρ : Nat → Nat) (cl : List Nat) (m : zM) (Bc : Nat), gS sc Bc ρ q.2.1 [] q.1 0 cl [] m → gM Bc m → Bc + q.2.2.2.2 ≤ 1073741824 → gFin sc (gQ sc q.2.2.1 q.2.2.2.1 (Bc + q.2.2.2.2) m ρ) [] q.1 0 cl [] m
section FC
variable {sc : List Nat} {W : List (Nat × Nat × Nat)} {Bc : Nat} {ρ : Nat → Nat} {nx : Nat} {fr : List eFr} {frs : gCf} {i w pc k : Nat} {ls st : List eE} {cl cst : List Nat} {fs : List eF} {m : zM} {L : List eS}
theorem eSmAt_in {a : Nat} {S : eS} : ∀ {su : List eSm} {q : eSm}, eSmAt a S su = some q → q ∈ su ∧ a = q.1 ∧ eMatch 10000 S q.2.1 = true
  | [], _, h => by cases h
  | (a2, P, rest) :: t, q, h => by
    simp only [eSmAt] at h
    rcases cs_eq h with ⟨h1, h⟩ | ⟨h1, h⟩
    · rcases cs_ite h with ⟨h2, h⟩ | ⟨h2, h⟩
      · cases h
        exact ⟨List.mem_cons_self, h1, h2⟩
      · obtain ⟨b1, b2⟩ := eSmAt_in h
        exact ⟨List.mem_cons_of_mem _ b1, b2⟩
    · obtain ⟨b1, b2⟩ := eSmAt_in h
      exact ⟨List.mem_cons_of_mem _ b1, b2⟩
theorem gSl_W {V : List (Nat × Nat × Nat)} {m' : zM} {o r k1 k2 k3 c : Nat} {e : eE} (hW : gW V m m') (h : gSl sc ρ m o r (gIx ρ k1 k2 k3) c) (hk : ∀ q ∈ V, eKeep q.1 q.2.1 q.2.2 (o, r, k1, k2, k3, e) = true) : gSl sc ρ m' o r (gIx ρ k1 k2 k3) c := by
  unfold gSl at h ⊢
  by_cases q : o = 9003
  · rw [if_pos q] at h ⊢
    exact h
  · rw [if_neg q] at h ⊢
    obtain ⟨k0, kd, n, f, ⟨a1, a2, a3⟩, a4, a5⟩ := h
    obtain ⟨f', b1, b2⟩ := hW k0 kd n f a4
    refine ⟨k0, kd, n, f', ⟨a1, a2, a3⟩, b1, ?_⟩
    rw [a5]
    refine (b2 _ fun q hq e1 e2 e3 => ?_).symm
    have := hk q hq
    simp only [eKeep, Bool.or_eq_true, Bool.and_eq_true, Bool.not_eq_true', nb_ne, nb_eq, nl_lt] at this
    rcases this with z | ⟨z, z2⟩
    · exact z (e1.trans a3)
    · rw [z, gIx_0] at e2 e3
      omega
theorem eEnds_in {a : Nat} : ∀ {ends : List (eE × List eF)} {q : eE × List eF}, q ∈ ends → (fr, i, pc + 3, ls, ePush a (bif Nat.beq q.1.1 0 then eWith q.1 nx 0 else q.1) st, q.2 ++ fs, nx + 1) ∈ eEnds fr i pc ls st fs nx a ends
  | [], _, h => by cases h
  | (v, f) :: t, q, h => by
    rcases List.mem_cons.mp h with rfl | h
    · exact List.mem_cons_self
    · exact List.mem_cons_of_mem _ (eEnds_in h)
theorem eConf_ok {f fs2 : List eF} (h1 : ∀ g ∈ f, gF sc Bc ρ nx m g) (h2 : ∀ g ∈ fs2, gF sc Bc ρ nx m g) : eConf f fs2 = false := by
  cases q : eConf f fs2
  · rfl
  exfalso
  obtain ⟨⟨o, r, k1, k2, k3, e⟩, g1, g2⟩ := List.any_eq_true.mp q
  rw [Bool.and_eq_true] at g2
  obtain ⟨g2, g3⟩ := g2
  have g2 := nl_le.mp g2
  split at g3
  · rename_i v hv
    simp only [Bool.and_eq_true, Bool.or_eq_true, nb_eq, nl_lt] at g3
    obtain ⟨⟨g4, g5⟩, g6⟩ := g3
    obtain ⟨-, c, a1, a2⟩ := (gF_a g2).mp (h1 _ g1)
    obtain ⟨-, d, b1, b2⟩ := (gF_a g2).mp (h2 _ (eFindR_in hv))
    have e0 := gSl_fun a1 b1
    subst e0
    obtain ⟨t, lo, hi, st, id, off⟩ := e
    obtain ⟨t2, lo2, hi2, st2, id2, off2⟩ := v
    have g5 : t = 0 := g5
    have g4 : t2 = 0 := g4
    subst g5
    subst g4
    obtain ⟨-, x1, -⟩ := gA_i0 a2.1
    obtain ⟨-, x2, -⟩ := gA_i0 b2.1
    simp only [eLo, eHi] at g6
    omega
  · cases g3
theorem eSum_ok {su : List eSm} (hD : eDat = true) (hsu : ∀ q ∈ su, gSum sc q ∧ eWf 10000 q.2.1 = true) (hc : zIsC w = true) (hI : gIn sc Bc ρ fr frs ls st cl cst fs nx m) (hB : Bc + k ≤ 1073741824) (h : eCall su false W w (fr, i, pc, ls, st, fs, nx) = some (k, L)) : zCOk w cst m = true ∧ ∃ n v m', zGo sc n (za w) 0 (zEn (za w) (zb w) cst) [] m = some (v, m') ∧ ∃ s2 ∈ L, ∃ ρ3, (gAg nx ρ ρ3 ∧ nx ≤ s2.2.2.2.2.2.2) ∧ gS sc (Bc + k) ρ3 s2 frs i (pc + 3) cl (if zRet (za w) = 0 then cst.drop (zb w) else v :: cst.drop (zb w)) m' ∧ gM (Bc + k) m' ∧ gW W m m' := by
  have hn := hI.2.2.1.1
  simp only [eCall, cond_false] at h
  obtain ⟨h1, h⟩ := cs_and h
  obtain ⟨c1, c2, c3⟩ := eCallOk_ok hD hc hI.1.2.2 hI.2.2.1.2 hI.2.2.2 h1
  refine ⟨c1, ?_⟩
  split at h
  · rename_i a2 P ends V k2 hm
    obtain ⟨h2, h⟩ := cs_and h
    cases h
    obtain ⟨d1, d2, d3⟩ := eSmAt_in hm
    obtain ⟨g1, g2⟩ := hsu _ d1
    have d2 : za w = a2 := d2
    subst d2
    have hS0 : gS sc Bc ρ ([], za w, 0, (st.take (zb w)).reverse ++ List.replicate (zMaxL (za w) - zb w) eAny, [], fs, nx) [] (za w) 0 (zEn (za w) (zb w) cst) [] m := ⟨⟨rfl, rfl⟩, ⟨trivial, gL_app (gL_rev (gL_take hI.1.2.2)) (gL_rep (Nat.lt_of_lt_of_le (by decide) hn) _), trivial⟩, hI.2.1, hI.2.2.1⟩
    obtain ⟨ρ2, e1, e2, -⟩ := eMatch_ok hD g2 d3 hS0
    obtain ⟨n, v, m', f1, ⟨f2, f3⟩, q, f4, ⟨f5, f6⟩, f7⟩ := g1 ρ2 _ m Bc e2 hI.2.2.2 hB
    have hBB : Bc ≤ Bc + k := Nat.le_add_right _ _
    have hkill : ∀ f ∈ eKillW V fs, gF sc Bc ρ nx m' f := fun f hf => by
      obtain ⟨hf1, hf2⟩ := List.mem_filter.mp hf
      exact gF_mem (m2 := m') (hI.2.1 f hf1) (fun _ c hc => by
          obtain ⟨o, r, k1, k2, k3, e⟩ := f
          exact gSl_W (e := e) f3 hc (fun q hq => List.all_eq_true.mp hf2 q hq))
    have hag : gAg nx ρ ρ := fun _ _ => rfl
    have hcf : eConf q.2 (eKillW V fs) = false := eConf_ok (Bc := Bc + k) (ρ := ρ) (nx := nx) (m := m') (fun g hg => gF_ext (fun x hx => (e1 x hx).symm) hn (Nat.le_refl _) (f7 g hg)) (fun g hg => gF_ext hag (Nat.le_refl _) hBB (hkill g hg))
    refine ⟨n, v, m', f1, _, eEnds_in (List.mem_filter.mpr ⟨f4, by rw [hcf]; rfl⟩), gUp ρ nx v, ⟨gUp_ag, Nat.le_succ _⟩, ⟨⟨rfl, rfl⟩, ⟨gFr_ext gUp_ag (Nat.le_succ _) hBB hI.1.1, gL_ext gUp_ag (Nat.le_succ _) hBB hI.1.2.1, gL_push ?_ (gL_ext gUp_ag (Nat.le_succ _) hBB (gL_drop hI.1.2.2))⟩, fun f hf => ?_, Nat.le_trans hn (Nat.le_succ _), gRig_ext hD gUp_ag hn hI.2.2.1.2⟩, f2, gW_sub h2 f3⟩
    · cases q0 : Nat.beq q.1.1 0
      · exact gE_plain (Nat.succ_pos _) f5 f6
      · exact ⟨gA_with f5, Or.inr gV_new, Nat.lt_succ_self nx⟩
    · rcases List.mem_append.mp hf with hf | hf
      · have ag : gAg 10000 ρ2 (gUp ρ nx v) := fun x hx => (gUp_ag x (by omega)).trans (e1 x hx).symm
        exact gF_ext ag (by show 10000 ≤ nx + 1; omega) (Nat.le_refl _) (f7 f hf)
      · exact gF_ext gUp_ag (Nat.le_succ _) hBB (hkill f hf)
  · cases h
end FC
