/-! ===== a state that fits a wanted one means what that one means, its own names aside ===== -/
section EX
variable {sc : List Nat} {Bc : Nat} {ρ ρ2 : Nat → Nat} {nx lb : Nat} {P S : eS} {frs : gCf} {cl cst : List Nat} {m : zM}
theorem gV_fun {id off a b : Nat} (h : gV ρ id off a) (h2 : gV ρ id off b) : a = b := by
  rcases h with ⟨h, h3, h4⟩ | ⟨h, h3⟩ <;> rcases h2 with ⟨g, g3, g4⟩ | ⟨g, g3⟩ <;> omega
theorem gV_own {id c : Nat} (h : ρ id = c) : gV ρ id 0 c := by
  by_cases q : c < 4294967296
  · exact Or.inl ⟨q, by omega, by omega⟩
  · exact Or.inr ⟨by omega, h.symm⟩
theorem eSameV_ok {s v : eE} {a b : Nat} (h : eSameV s v = true) (g : gE Bc ρ nx s a) (g2 : gE Bc ρ nx v b) : a = b := by
  unfold eSameV at h
  rcases Bool.or_eq_true _ _ ▸ h with h | h
  · obtain ⟨t, lx, hx2, sx, ix, ox⟩ := s
    obtain ⟨u, ly, hy2, sy, iy, oy⟩ := v
    simp only [eSame, Bool.and_eq_true, nb_eq, nl_lt] at h
    obtain ⟨h1, rfl, rfl⟩ := h
    exact gV_fun (g.2.1.resolve_left (by show ix ≠ 0; omega)) (g2.2.1.resolve_left (by show ix ≠ 0; omega))
  · simp only [Bool.and_eq_true, nb_eq] at h
    obtain ⟨e1, e2⟩ := eSin_ok h.1.1 g.1
    obtain ⟨e3, e4⟩ := eSin_ok h.1.2 g2.1
    exact zs_inj e2 e4 (by omega)
theorem eFit_ok {own c : Nat} {s p : eE} (g : gE Bc ρ nx s c) (h : eFit lb P S own s p = true) (hp : eId p < P.2.2.2.2.2.2) (ho : own < P.2.2.2.2.2.2 → ρ2 own = c) (hl : ∀ x, x < lb → ρ2 x = ρ x) (hv : ∀ x v, lb ≤ x → eValue lb P S x = some v → gE Bc ρ nx v (ρ2 x)) : gE Bc ρ2 P.2.2.2.2.2.2 p c := by
  unfold eFit at h
  rcases cs_eq h with ⟨h1, h⟩ | ⟨h1, h⟩
  · exact ⟨Or.inr (Or.inr (Or.inr (Or.inl h1))), Or.inl (nb_eq.mp h), hp⟩
  rw [Bool.and_eq_true] at h
  obtain ⟨h2, h⟩ := h
  refine ⟨eSub_ok h2 g.1, ?_, hp⟩
  rcases cs_eq h with ⟨h3, h⟩ | ⟨h3, h⟩
  · exact Or.inl h3
  rcases cs_eq h with ⟨h4, h⟩ | ⟨h4, h⟩
  · right
    rw [nb_eq.mp h, h4]
    exact gV_own (ho (by omega))
  right
  rcases cs_ite h with ⟨h5, h⟩ | ⟨h5, h⟩
  · have h5 := nl_lt.mp h5
    simp only [Bool.and_eq_true, nb_eq] at h
    have := g.2.1.resolve_left (by omega)
    rw [h.1, h.2] at this
    unfold gV at this ⊢
    rw [hl _ h5]
    exact this
  · have h5 := nl_nlt.mp h5
    simp only [Bool.and_eq_true, nb_eq] at h
    obtain ⟨h6, h⟩ := h
    split at h
    · rename_i v hv2
      rw [h6]
      exact gV_own (eSameV_ok h g (hv _ _ h5 hv2)).symm
    · cases h
theorem eFitL_ok (hl : ∀ x, x < lb → ρ2 x = ρ x) (hv : ∀ x v, lb ≤ x → eValue lb P S x = some v → gE Bc ρ nx v (ρ2 x)) : ∀ {ss ps : List eE} {cs : List Nat} {own : Nat}, gL Bc ρ nx ss cs → eFitL lb P S own ss ps = true → ps.all (eWfE P.2.2.2.2.2.2) = true → (∀ k c, k < ps.length → cs[k]? = some c → own + k < P.2.2.2.2.2.2 → ρ2 (own + k) = c) → gL Bc ρ2 P.2.2.2.2.2.2 ps cs
  | [], [], [], _, _, _, _, _ => trivial
  | s :: ss, p :: ps, c :: cs, own, g, h, hw, ho => by
    simp only [eFitL, Bool.and_eq_true] at h
    simp only [List.all_cons, Bool.and_eq_true] at hw
    refine ⟨eFit_ok g.1 h.1 (nl_lt.mp hw.1) (fun q => ho 0 c (Nat.succ_pos _) rfl q) hl hv, eFitL_ok hl hv g.2 h.2 hw.2 (fun k d hk hd q => ?_)⟩
    rw [show own + 1 + k = own + (k + 1) by omega] at q ⊢
    exact ho (k + 1) d (Nat.succ_lt_succ hk) hd q
  | [], _ :: _, _, _, _, h, _, _ => by cases h
  | _ :: _, [], _, _, _, h, _, _ => by cases h
  | [], [], _ :: _, _, g, _, _, _ => g.elim
  | _ :: _, _, [], _, g, _, _, _ => g.elim
theorem eFitFr_ok (hn : P.2.2.2.2.2.2 ≤ 1000000) (hl : ∀ x, x < lb → ρ2 x = ρ x) (hv : ∀ x v, lb ≤ x → eValue lb P S x = some v → gE Bc ρ nx v (ρ2 x)) : ∀ {ss ps : List eFr} {cs : gCf} {own : Nat}, gFr Bc ρ nx ss cs → eFitFr lb P S own ss ps = true → ps.all (eWfR P.2.2.2.2.2.2) = true → (∀ d q k c, cs[d]? = some q → k < 100 → q.2.2.1[k]? = some c → own + 100 * d + k < P.2.2.2.2.2.2 → ρ2 (own + 100 * d + k) = c) → gFr Bc ρ2 P.2.2.2.2.2.2 ps cs
  | [], [], [], _, _, _, _, _ => trivial
  | (i, pc, l, s) :: ss, (i2, pc2, l2, s2) :: ps, (i3, pc3, l3, s3) :: cs, own, g, h, hw, ho => by
    simp only [eFitFr, Bool.and_eq_true, nb_eq] at h
    simp only [List.all_cons, Bool.and_eq_true, eWfR, nl_le] at hw
    obtain ⟨⟨rfl, rfl⟩, ⟨h3, h4⟩, h5⟩ := h
    obtain ⟨⟨⟨g1, g2⟩, g3, g4⟩, g5⟩ := g
    refine ⟨⟨⟨g1, g2⟩, eFitL_ok hl hv g3 h3 hw.1.1.1 (fun k c hk hc q => ?_), eFitL_ok hl hv g4 h4 hw.1.1.2 (fun k c hk hc q => absurd q (by omega))⟩, eFitFr_ok hn hl hv g5 h5 hw.2 (fun d q k c hd hk hc hq => ?_)⟩
    · have := ho 0 (i3, pc3, l3, s3) k c rfl (by omega) hc (by omega)
      rwa [Nat.mul_zero, Nat.add_zero] at this
    · have := ho (d + 1) q k c hd hk hc (by omega)
      rwa [show own + 100 * (d + 1) + k = own + 100 + 100 * d + k by omega] at this
  | [], _ :: _, _, _, _, h, _, _ => by cases h
  | _ :: _, [], _, _, _, h, _, _ => by cases h
  | [], [], _ :: _, _, g, _, _, _ => g.elim
  | _ :: _, _, [], _, g, _, _, _ => g.elim
/-- the value of a wanted state's own name for a local -/
def gLoc (lb : Nat) (ρ : Nat → Nat) (frs : gCf) (cl : List Nat) (x : Nat) : Nat := if x < lb then ρ x else if x - lb < 100 then cl.getD (x - lb) 0 else match frs[(x - lb) / 100 - 1]? with
  | some q => q.2.2.1.getD ((x - lb) % 100) 0
  | none => 0
theorem getD_of {l : List Nat} {k c : Nat} (h : l[k]? = some c) : l.getD k 0 = c := by
  rw [List.getD_eq_getElem?_getD, h]
  rfl
theorem gFr_get : ∀ {es : List eFr} {cs : gCf} {k : Nat} {e : eFr}, gFr Bc ρ nx es cs → es[k]? = some e → ∃ q, cs[k]? = some q ∧ gL Bc ρ nx e.2.2.1 q.2.2.1
  | [], _, _, _, _, h => by cases h
  | _ :: _, [], _, _, g, _ => g.elim
  | (i, pc, l, s) :: es, (i2, pc2, l2, s2) :: cs, 0, e, g, h => by
    cases h
    exact ⟨_, rfl, g.1.2.1⟩
  | _ :: es, _ :: cs, k + 1, e, g, h => gFr_get (es := es) (cs := cs) (k := k) g.2 h
theorem gLoc_v {x : Nat} {v : eE} (hfr : gFr Bc ρ nx S.1 frs) (hls : gL Bc ρ nx S.2.2.2.1 cl) (hx : lb ≤ x) (h : eVLoc lb S x = some v) : gE Bc ρ nx v (gLoc lb ρ frs cl x) := by
  obtain ⟨fr, i, pc, ls, rest⟩ := S
  unfold eVLoc at h
  unfold gLoc
  rw [if_neg (by omega)]
  rcases cs_ite h with ⟨h1, h⟩ | ⟨h1, h⟩
  · rw [if_pos (nl_lt.mp h1)]
    obtain ⟨c, hc, g⟩ := gL_get hls h
    rw [getD_of hc]
    exact g
  · rw [if_neg (Nat.not_lt.mpr (nl_nlt.mp h1))]
    split at h
    · rename_i a b l d hd
      obtain ⟨q, hq, gq⟩ := gFr_get hfr hd
      obtain ⟨c, hc, g⟩ := gL_get gq h
      rw [hq]
      show gE Bc ρ nx v (q.2.2.1.getD ((x - lb) % 100) 0)
      rw [getD_of hc]
      exact g
    · cases h
end EX
