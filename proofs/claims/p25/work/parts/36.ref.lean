/-! ===== names, lists of entries, refinement ===== -/
theorem gV_int {ρ : Nat → Nat} {id off c : Nat} (h : gV ρ id off c) (hc : c < 4294967296) : c = (ρ id + off) % 4294967296 := by
  rcases h with ⟨-, -, h⟩ | ⟨h, -⟩
  · exact h
  · omega
theorem gA_t {Bc t lo hi st id off c lo2 hi2 st2 : Nat} (ht : t = 0 ∨ t = 5) (g : gA Bc (t, lo, hi, st, id, off) c) (h1 : lo2 ≤ zs c) (h2 : zs c ≤ hi2) (h3 : st2 ∣ (zs c - lo2)) {id2 off2 : Nat} : gA Bc (t, lo2, hi2, bif Nat.beq t 5 then st else st2, id2, off2) c := by
  rcases ht with rfl | rfl
  · exact gA_mk (gA_i0 g).1 h1 h2 h3
  · rcases g with ⟨g, -⟩ | ⟨g, -⟩ | ⟨g, -⟩ | g | ⟨-, g1, -, g4⟩
    · cases g
    · cases g
    · cases g
    · cases g
    · exact Or.inr (Or.inr (Or.inr (Or.inr ⟨rfl, g1, ⟨h1, h2⟩, g4⟩)))
theorem eRef2_ok {Bc d lo hi a c t l h s i o : Nat} (ht : t = 0 ∨ t = 5) (ha : a < 4294967296) (h1 : lo ≤ zs a) (h2 : zs a ≤ hi) (hd : d < 4294967296) (hc : c = (a + d) % 4294967296) (g : gA Bc (t, l, h, s, i, o) c) : gA Bc (eRef2 d lo hi (t, l, h, s, i, o)) c := by
  have gi := gA_int (e := (t, l, h, s, i, o)) (by simp only [eInt, Bool.or_eq_true, nb_eq]; exact ht) g
  have g2 : l ≤ zs c := gi.2.1
  have g3 : zs c ≤ h := gi.2.2
  simp only [eRef2]
  cases q1 : Nat.blt d 2147483648
  · have q1 := nl_nlt.mp q1
    cases q2 : (Nat.ble (4294967296 - d) lo && Nat.blt 2147483648 d)
    · exact g
    · simp only [Bool.and_eq_true, nl_le, nl_lt] at q2
      have hz : zs c = zs a - (4294967296 - d) := by
        have e : c = (a + 4294967296 - (4294967296 - d)) % 4294967296 := by rw [hc]; congr 1; omega
        have e2 : zs (4294967296 - d) = 4294967296 - d + 2147483648 := zs_lo (by omega)
        rw [e, zs_sub ha (by omega) (by rw [e2]; omega) (by rw [e2]; have := zs_lt ha; omega), e2]
        omega
      exact gA_t ht g (Nat.max_le.mpr ⟨g2, by rw [hz]; omega⟩) (Nat.le_min.mpr ⟨g3, by rw [hz]; omega⟩) (Nat.one_dvd _)
  · have q1 := nl_lt.mp q1
    cases q2 : Nat.blt (hi + d) 4294967296
    · exact g
    · have q2 := nl_lt.mp q2
      have hz : zs c = zs a + d := by
        have e2 : zs d = d + 2147483648 := zs_lo q1
        rw [hc, zs_add ha hd (by rw [e2]; omega) (by rw [e2]; omega), e2]
        omega
      exact gA_t ht g (Nat.max_le.mpr ⟨g2, by rw [hz]; omega⟩) (Nat.le_min.mpr ⟨g3, by rw [hz]; omega⟩) (Nat.one_dvd _)
theorem eRef2_name {d lo hi : Nat} {x : eE} : eId (eRef2 d lo hi x) = eId x ∧ eOff (eRef2 d lo hi x) = eOff x := by
  obtain ⟨t, l, h, s, i, o⟩ := x
  simp only [eRef2]
  cases Nat.blt d 2147483648
  · cases (Nat.ble (4294967296 - d) lo && Nat.blt 2147483648 d) <;> exact ⟨rfl, rfl⟩
  · cases Nat.blt (hi + d) 4294967296 <;> exact ⟨rfl, rfl⟩
theorem eRef1_ok {Bc nx id off lo hi st a : Nat} {ρ : Nat → Nat} (hid : id ≠ 0) (hv : gV ρ id off a) (ga : gA Bc (0, lo, hi, st, id, off) a) {x : eE} {c : Nat} (g : gE Bc ρ nx x c) : gE Bc ρ nx (eRef1 id off lo hi st x) c := by
  obtain ⟨t, l, h, s, i, o⟩ := x
  obtain ⟨ga1, ⟨ga2, ga3⟩, ga4⟩ := gA_i0 ga
  simp only [eRef1]
  cases q : (Nat.beq i id && (Nat.beq t 0 || Nat.beq t 5))
  · rw [cond_false]
    exact g
  · rw [cond_true]
    simp only [Bool.and_eq_true, Bool.or_eq_true, nb_eq] at q
    obtain ⟨rfl, ht⟩ := q
    obtain ⟨g1, g2, g3⟩ := g
    have gi := gA_int (e := (t, l, h, s, i, o)) (by simp only [eInt, Bool.or_eq_true, nb_eq]; exact ht) g1
    have hc := gV_int (g2.resolve_left hid) gi.1
    have hc : c = (ρ i + o) % 4294967296 := hc
    have ha := gV_int hv ga1
    cases q2 : Nat.beq o off
    · rw [cond_false]
      have e : c = (a + (o + 4294967296 - off % 4294967296) % 4294967296) % 4294967296 := by
        rw [hc, ha]
        omega
      have g5 := eRef2_ok (s := s) (i := i) (o := o) ht ga1 ga2 ga3 (Nat.mod_lt (o + 4294967296 - off % 4294967296) (by decide)) e g1
      generalize (o + 4294967296 - off % 4294967296) % 4294967296 = d at g5 ⊢
      refine ⟨g5, ?_, ?_⟩
      · rw [eRef2_name.1, eRef2_name.2]
        exact g2
      · rw [eRef2_name.1]
        exact g3
    · rw [cond_true]
      have q2 := nb_eq.mp q2
      subst q2
      have e : c = a := by rw [hc, ha]
      subst e
      exact ⟨gA_t ht g1 ga2 ga3 ga4, g2, g3⟩
/-! lists -/
theorem gL_len {Bc nx : Nat} {ρ : Nat → Nat} : ∀ {es : List eE} {cs : List Nat}, gL Bc ρ nx es cs → es.length = cs.length
  | [], [], _ => rfl
  | [], _ :: _, h => h.elim
  | _ :: _, [], h => h.elim
  | e :: es, c :: cs, h => by
    rw [List.length_cons, List.length_cons, gL_len h.2]
theorem gL_get {Bc nx : Nat} {ρ : Nat → Nat} : ∀ {es : List eE} {cs : List Nat} {k : Nat} {e : eE}, gL Bc ρ nx es cs → es[k]? = some e → ∃ c, cs[k]? = some c ∧ gE Bc ρ nx e c
  | [], _, k, e, _, h => by simp at h
  | _ :: _, [], _, _, h, _ => h.elim
  | e :: es, c :: cs, 0, e2, h, h2 => by
    simp at h2
    subst h2
    exact ⟨c, rfl, h.1⟩
  | e :: es, c :: cs, k + 1, e2, h, h2 => by
    simp only [List.getElem?_cons_succ] at h2 ⊢
    exact gL_get h.2 h2
theorem gL_set {Bc nx : Nat} {ρ : Nat → Nat} {e : eE} {c : Nat} (he : gE Bc ρ nx e c) : ∀ {es : List eE} {cs : List Nat} {k : Nat}, gL Bc ρ nx es cs → gL Bc ρ nx (es.set k e) (cs.set k c)
  | [], [], _, _ => trivial
  | [], _ :: _, _, h => h.elim
  | _ :: _, [], _, h => h.elim
  | _ :: es, _ :: cs, 0, h => ⟨he, h.2⟩
  | _ :: es, _ :: cs, k + 1, h => ⟨h.1, gL_set he h.2⟩
/-- any change of what is known of entries goes through lists -/
theorem gL_mono {Bc Bc2 nx nx2 : Nat} {ρ ρ2 : Nat → Nat} {f : eE → eE} (hf : ∀ e c, gE Bc ρ nx e c → gE Bc2 ρ2 nx2 (f e) c) : ∀ {es : List eE} {cs : List Nat}, gL Bc ρ nx es cs → gL Bc2 ρ2 nx2 (es.map f) cs
  | [], [], _ => trivial
  | [], _ :: _, h => h.elim
  | _ :: _, [], h => h.elim
  | e :: es, c :: cs, h => ⟨hf e c h.1, gL_mono hf h.2⟩
theorem gL_app {Bc nx : Nat} {ρ : Nat → Nat} : ∀ {es es2 : List eE} {cs cs2 : List Nat}, gL Bc ρ nx es cs → gL Bc ρ nx es2 cs2 → gL Bc ρ nx (es ++ es2) (cs ++ cs2)
  | [], _, [], _, _, h => h
  | [], _, _ :: _, _, h, _ => h.elim
  | _ :: _, _, [], _, h, _ => h.elim
  | _ :: _, _, _ :: _, _, h, h2 => ⟨h.1, gL_app h.2 h2⟩
theorem gL_take {Bc nx : Nat} {ρ : Nat → Nat} : ∀ {n : Nat} {es : List eE} {cs : List Nat}, gL Bc ρ nx es cs → gL Bc ρ nx (es.take n) (cs.take n)
  | 0, _, _, _ => by
    rw [List.take_zero, List.take_zero]
    trivial
  | _ + 1, [], [], _ => trivial
  | _ + 1, [], _ :: _, h => h.elim
  | _ + 1, _ :: _, [], h => h.elim
  | n + 1, _ :: _, _ :: _, h => ⟨h.1, gL_take h.2⟩
theorem gL_drop {Bc nx : Nat} {ρ : Nat → Nat} : ∀ {n : Nat} {es : List eE} {cs : List Nat}, gL Bc ρ nx es cs → gL Bc ρ nx (es.drop n) (cs.drop n)
  | 0, _, _, h => h
  | _ + 1, [], [], _ => trivial
  | _ + 1, [], _ :: _, h => h.elim
  | _ + 1, _ :: _, [], h => h.elim
  | n + 1, _ :: _, _ :: _, h => gL_drop (n := n) h.2
theorem gL_rev {Bc nx : Nat} {ρ : Nat → Nat} : ∀ {es : List eE} {cs : List Nat}, gL Bc ρ nx es cs → gL Bc ρ nx es.reverse cs.reverse
  | [], [], _ => trivial
  | [], _ :: _, h => h.elim
  | _ :: _, [], h => h.elim
  | e :: es, c :: cs, h => by
    rw [List.reverse_cons, List.reverse_cons]
    exact gL_app (gL_rev h.2) ⟨h.1, trivial⟩
theorem gE_any {Bc nx : Nat} {ρ : Nat → Nat} {c : Nat} (h : 0 < nx) : gE Bc ρ nx eAny c := ⟨Or.inr (Or.inr (Or.inr (Or.inl rfl))), Or.inl rfl, h⟩
theorem gL_rep {Bc nx : Nat} {ρ : Nat → Nat} {c : Nat} (h : 0 < nx) : ∀ n : Nat, gL Bc ρ nx (List.replicate n eAny) (List.replicate n c)
  | 0 => trivial
  | n + 1 => ⟨gE_any h, gL_rep h n⟩
theorem gFr_mono {Bc Bc2 nx nx2 : Nat} {ρ ρ2 : Nat → Nat} {f : eE → eE} (hf : ∀ e c, gE Bc ρ nx e c → gE Bc2 ρ2 nx2 (f e) c) : ∀ {es : List eFr} {cs : gCf}, gFr Bc ρ nx es cs → gFr Bc2 ρ2 nx2 (es.map (eMapFr f)) cs
  | [], [], _ => trivial
  | [], _ :: _, h => h.elim
  | _ :: _, [], h => h.elim
  | _ :: es, _ :: cs, h => ⟨⟨h.1.1, gL_mono hf h.1.2.1, gL_mono hf h.1.2.2⟩, gFr_mono hf h.2⟩
section GF
variable {sc : List Nat} {Bc nx o r k1 k2 k3 : Nat} {ρ : Nat → Nat} {m : zM} {e : eE}
theorem gF_a (q : k1 ≤ 1) : gF sc Bc ρ nx m (o, r, k1, k2, k3, e) ↔ (o < nx ∧ (k1 = 0 ∨ k2 < nx)) ∧ ∃ c, gSl sc ρ m o r (gIx ρ k1 k2 k3) c ∧ gE Bc ρ nx e c := by
  unfold gF
  exact iff_of_eq (if_pos q)
theorem gF_2 : gF sc Bc ρ nx m (o, r, 2, k2, k3, e) ↔ k2 < nx ∧ r = 9999 ∧ (if k2 = 0 then k3 ≤ sc.length else ρ k2 < 2147483648 ∧ ρ k2 + k3 ≤ sc.length) := by
  unfold gF
  exact iff_of_eq ((if_neg (show ¬ (2 : Nat) ≤ 1 by decide)).trans (if_pos rfl))
theorem gF_7 : gF sc Bc ρ nx m (o, r, 7, k2, k3, e) ↔ r = 9996 ∧ ((k2 / 4294967296 < nx ∧ k3 / 4294967296 < nx) ∧ gE Bc ρ nx e ((gNv ρ k2 + gNv ρ k3) % 4294967296)) := by
  unfold gF
  exact iff_of_eq ((if_neg (show ¬ (7 : Nat) ≤ 1 by decide)).trans ((if_neg (show ¬ (7 : Nat) = 2 by decide)).trans (if_pos rfl)))
theorem gF_9 : gF sc Bc ρ nx m (o, r, 9, k2, k3, e) ↔ r = 9996 ∧ ((k2 / 4294967296 < nx ∧ k3 / 4294967296 < nx) ∧ gE Bc ρ nx e ((gNv ρ k2 * gNv ρ k3) % 4294967296)) := by
  unfold gF
  exact iff_of_eq ((if_neg (show ¬ (9 : Nat) ≤ 1 by decide)).trans ((if_neg (show ¬ (9 : Nat) = 2 by decide)).trans ((if_neg (show ¬ (9 : Nat) = 7 by decide)).trans (if_pos rfl))))
theorem gF_k (h : gF sc Bc ρ nx m (o, r, k1, k2, k3, e)) : k1 ≤ 1 ∨ k1 = 2 ∨ k1 = 7 ∨ k1 = 9 := by
  unfold gF at h
  by_cases q1 : k1 ≤ 1
  · exact Or.inl q1
  · by_cases q2 : k1 = 2
    · exact Or.inr (Or.inl q2)
    · by_cases q3 : k1 = 7
      · exact Or.inr (Or.inr (Or.inl q3))
      · by_cases q4 : k1 = 9
        · exact Or.inr (Or.inr (Or.inr q4))
        · have h := (iff_of_eq ((if_neg q1).trans ((if_neg q2).trans ((if_neg q3).trans (if_neg q4))))).mp h
          exact h.elim
end GF
theorem gF_map {sc : List Nat} {Bc nx : Nat} {ρ : Nat → Nat} {m : zM} {g : eE → eE} (hg : ∀ e c, gE Bc ρ nx e c → gE Bc ρ nx (g e) c) {f : eF} (h : gF sc Bc ρ nx m f) : gF sc Bc ρ nx m (eMapF g f) := by
  obtain ⟨o, r, k1, k2, k3, e⟩ := f
  show gF sc Bc ρ nx m (o, r, k1, k2, k3, g e)
  rcases gF_k h with q | rfl | rfl | rfl
  · rw [gF_a q] at h ⊢
    obtain ⟨h1, c, h2, h3⟩ := h
    exact ⟨h1, c, h2, hg _ _ h3⟩
  · rw [gF_2] at h ⊢
    exact h
  · rw [gF_7] at h ⊢
    exact ⟨h.1, h.2.1, hg _ _ h.2.2⟩
  · rw [gF_9] at h ⊢
    exact ⟨h.1, h.2.1, hg _ _ h.2.2⟩
theorem gS_map {sc : List Nat} {Bc : Nat} {ρ : Nat → Nat} {s : eS} {frs : gCf} {i pc : Nat} {ls st : List Nat} {m : zM} {g : eE → eE} (hg : ∀ e c, gE Bc ρ s.2.2.2.2.2.2 e c → gE Bc ρ s.2.2.2.2.2.2 (g e) c) (h : gS sc Bc ρ s frs i pc ls st m) : gS sc Bc ρ (eMapS g s) frs i pc ls st m := by
  obtain ⟨fr, i2, pc2, l2, s2, fs, nx⟩ := s
  obtain ⟨h1, ⟨h2, h3, h4⟩, h5, h6⟩ := h
  refine ⟨h1, ⟨gFr_mono hg h2, gL_mono hg h3, gL_mono hg h4⟩, fun f hf => ?_, h6⟩
  obtain ⟨f0, hf0, rfl⟩ := List.mem_map.mp hf
  exact gF_map hg (h5 f0 hf0)
theorem eRefine_ok {sc : List Nat} {Bc a : Nat} {ρ : Nat → Nat} {s : eS} {frs : gCf} {i pc : Nat} {ls st : List Nat} {m : zM} {e n : eE} (hv : eId e = 0 ∨ gV ρ (eId e) (eOff e) a) (hn0 : n.1 = 0) (hn : gA Bc n a) (h : gS sc Bc ρ s frs i pc ls st m) : gS sc Bc ρ (eRefine e n s) frs i pc ls st m := by
  obtain ⟨t, l, h2, s2, id, off⟩ := e
  obtain ⟨u, lo, hi, st2, id2, off2⟩ := n
  have hn0 : u = 0 := hn0
  subst hn0
  simp only [eRefine]
  cases q : Nat.beq id 0
  · have q := nb_ne.mp q
    exact gS_map (fun e c g => eRef1_ok q (hv.resolve_left q) hn g) h
  · exact h
theorem eRefine_nx {e n : eE} {s : eS} : (eRefine e n s).2.2.2.2.2.2 = s.2.2.2.2.2.2 := by
  obtain ⟨t, l, h2, s2, id, off⟩ := e
  obtain ⟨u, lo, hi, st2, id2, off2⟩ := n
  simp only [eRefine]
  cases Nat.beq id 0 <;> rfl
