/-! ===== arrays: read, write, copy ===== -/
section EV
variable {sc : List Nat} {W : List (Nat × Nat × Nat)} {Bc : Nat} {ρ : Nat → Nat} {nx : Nat} {fr : List eFr} {frs : gCf} {i w pc k : Nat} {ls st : List eE} {cl cst : List Nat} {fs : List eF} {m : zM} {L : List eS}
theorem eObj_ok {o : Nat} {x : eE} (h : eObj o x ≠ 0) : eHasNm x = true ∧ eObj o x = o := by
  unfold eObj at *
  cases q : eHasNm x
  · rw [q] at h
    exact absurd rfl h
  · exact ⟨rfl, rfl⟩
theorem ep_ald {kd : Nat} (hD : eDat = true) (hop : (zop w = 26 ∧ kd = 7) ∨ (zop w = 28 ∧ kd = 8) ∨ (zop w = 30 ∧ kd = 9)) (hI : gIn sc Bc ρ fr frs ls st cl cst fs nx m) (h : eoAld fr i pc ls st fs nx kd = some (k, L)) : gStp sc W Bc ρ nx frs i w pc cl cst m k L := by
  have hn := hI.2.2.1.1
  have hl := (ed_len hD).2.2.1
  obtain ⟨s1, -, -⟩ := hI.2.2.1.2.2.2.1
  unfold eoAld at h
  split at h
  · rename_i x e st2
    obtain ⟨j, ct0, hct0, gx, gt0⟩ := gL_cons hI.1.2.2
    obtain ⟨c, ct, hct, ge, gt⟩ := gL_cons gt0
    subst hct
    subst hct0
    rcases cs_ite h with ⟨h1, h⟩ | ⟨h1, h⟩
    · simp only [Bool.and_eq_true, nb_eq] at h1
      obtain ⟨h1, h7⟩ := h1
      obtain ⟨g1, g2⟩ := gA_stat h1 ge.1
      have hop : zop w = 26 := by omega
      rcases cs_ite h with ⟨h2, h⟩ | ⟨h2, h⟩
      · have hc : c = 8589934595 := by
          have := nb_eq.mp h2
          omega
        obtain ⟨h3, h⟩ := cs_and h
        simp only [Bool.and_eq_true, nl_le] at h3
        obtain ⟨⟨h3, h4⟩, h5⟩ := h3
        have hj := eScOk_ok s1 hI.2.1 h3 h4 gx h5
        have hv : sc.getD j 0 < 4294967296 := by
          apply hI.2.2.1.2.2.2.2
          rw [List.getD_eq_getElem?_getD, List.getElem?_eq_getElem hj]
          exact List.getElem_mem hj
        split at h
        · rename_i v fs2 nx2 he
          cases h
          have hz : zOne sc i w pc cl (j :: c :: ct) m = some (.inl (pc + 1, cl, sc.getD j 0 :: ct, m)) := by
            have n1 : 8589934592 ≤ c := by omega
            have n2 : ¬ (j < 5 ∧ c < 8589934595) := by omega
            simp only [zOne, hop, ↓reduceIte, Nat.reduceEqDiff, or_self, zNx, if_pos n1, if_neg n2]
            rw [if_pos ⟨⟨hc, hj, s1⟩, hv⟩]
          obtain ⟨ρ2, q1, q2, q3, q4⟩ := eLd_ok hD eKey_le hn hI.2.2.1.2 hI.2.1 (eTop_ok hv) (fun h0 => by
            obtain ⟨o1, o2⟩ := eObj_ok h0
            obtain ⟨k1, k2⟩ := eKey_ok (by omega) o1 h3 h4 gx
            rw [o2, k1]
            refine ⟨⟨by omega, k2⟩, ?_⟩
            unfold gSl
            rw [if_pos rfl]
            exact ⟨rfl, hj, rfl⟩) he
          exact ⟨_, _, _, _, hz, gOut_n hD hI q1 q2 (gL_ext q1 q2 (Nat.le_refl _) hI.1.2.1) (gL_c q3 (gL_ext q1 q2 (Nat.le_refl _) gt)) q4⟩
        · cases h
      · have h2 := nb_ne.mp h2
        obtain ⟨h3, h⟩ := cs_and h
        simp only [Bool.and_eq_true, nl_le, nl_lt] at h3
        obtain ⟨h3, h4, h5⟩ := h3
        cases h
        obtain ⟨j1, j2, j3⟩ := eLo_cnt h3 gx.1
        have ej := zs_of j1 (by omega)
        have ec : c - 8589934592 = e.2.1 := by omega
        have hz : zOne sc i w pc cl (j :: c :: ct) m = some (.inl (pc + 1, cl, (zCT e.2.1).getD j 0 :: ct, m)) := by
          have n1 : 8589934592 ≤ c := by omega
          have n2 : j < 5 ∧ c < 8589934595 := by omega
          simp only [zOne, hop, ↓reduceIte, Nat.reduceEqDiff, or_self, zNx, if_pos n1, if_pos n2, ec]
        obtain ⟨p, n, e1, e2⟩ : ∃ p n, eLo x - 2147483648 = p ∧ eHi x - eLo x + 1 = n := ⟨_, _, rfl, rfl⟩
        rw [e1, e2]
        have hc := eCTj_ok (Bc := Bc) (j := e.2.1) (a := j) (p := p) (n := n) (by omega) (by omega) (by omega) (by omega)
        refine ⟨_, _, _, _, hz, gOut_s hI hI.1.2.1 (gL_c (gE_plain (by omega) hc.1 ?_) gt)⟩
        unfold eCTj
        split
        · rfl
        · rfl
    · obtain ⟨h2, h⟩ := cs_and h
      simp only [Bool.and_eq_true, Bool.or_eq_true, nb_eq, nl_le] at h2
      obtain ⟨⟨h2, h3⟩, h4, h5⟩ := h2
      obtain ⟨i1, i2, i3, i4, -⟩ := eIxOk_ok h4 gx.1
      obtain ⟨k0, f, ⟨a1, a2, a3⟩, b1, b2, b3, b4, ⟨b5, b6⟩, b7⟩ := gCell hD h2 ge hI.2.2.1.2 hI.2.2.2
      split at h
      · rename_i v fs2 nx2 he
        cases h
        have hz : zOne sc i w pc cl (j :: c :: ct) m = some (.inl (pc + 1, cl, f j :: ct, m)) := by
          rcases hop with ⟨hop, rfl⟩ | ⟨hop, rfl⟩ | ⟨hop, rfl⟩
          · have e7 : eKd e.2.1 = 7 := by omega
            have hf := (gA_int (eInt_t0 ((ed_arr b7 (by omega) i1).1 e7)) (b2 j i1)).1
            have n1 : ¬ 8589934592 ≤ c := by omega
            simp only [zOne, hop, ↓reduceIte, Nat.reduceEqDiff, or_self, zNx, if_neg n1, b3]
            rw [if_pos ⟨⟨e7, i1, by omega⟩, hf⟩]
          · have e8 : eKd e.2.1 = 8 := by omega
            have hf := (gA_int (eInt_t0 ((ed_arr b7 (by omega) i1).2.1 e8).1) (b2 j i1)).1
            simp only [zOne, hop, ↓reduceIte, Nat.reduceEqDiff, or_self, zNx, b3]
            rw [if_pos ⟨⟨e8, i1, by omega⟩, hf⟩]
          · simp only [zOne, hop, ↓reduceIte, Nat.reduceEqDiff, or_self, zNx, b3]
            rw [if_pos ⟨by omega, by omega, i1, by omega⟩]
        obtain ⟨ρ2, q1, q2, q3, q4⟩ := eLd_ok hD eKey_le hn hI.2.2.1.2 hI.2.1 (eTyIx_ok h5 gx.1 i3 (b2 j i1)) (fun h0 => by
          obtain ⟨o1, o2⟩ := eObj_ok h0
          obtain ⟨k1, k2⟩ := eKey_ok (by omega) o1 i4 i2 gx
          rw [o2] at h0 ⊢
          rw [k1]
          obtain ⟨n1, n2⟩ := b4 h0
          exact ⟨⟨ge.2.2, k2⟩, gSl_mk n1 a1 (n2.trans a2) a3 b1⟩) he
        exact ⟨_, _, _, _, hz, gOut_n hD hI q1 q2 (gL_ext q1 q2 (Nat.le_refl _) hI.1.2.1) (gL_c q3 (gL_ext q1 q2 (Nat.le_refl _) gt)) q4⟩
      · cases h
  · cases h
theorem ep_ast {kd : Nat} (hD : eDat = true) (hop : (zop w = 27 ∧ kd = 7) ∨ (zop w = 29 ∧ kd = 8) ∨ (zop w = 31 ∧ kd = 9)) (hI : gIn sc Bc ρ fr frs ls st cl cst fs nx m) (h : eoAst W fr i pc ls st fs nx kd = some (k, L)) : gStp sc W Bc ρ nx frs i w pc cl cst m k L := by
  have hn := hI.2.2.1.1
  have hl := (ed_len hD).2.2.1
  unfold eoAst at h
  split at h
  · rename_i v x e st2
    obtain ⟨b, ct1, hct1, gv, gt1⟩ := gL_cons hI.1.2.2
    obtain ⟨j, ct0, hct0, gx, gt0⟩ := gL_cons gt1
    obtain ⟨c, ct, hct, ge, gt⟩ := gL_cons gt0
    subst hct
    subst hct0
    subst hct1
    obtain ⟨h1, h⟩ := cs_and h
    simp only [Bool.and_eq_true, Bool.or_eq_true, nb_eq, nl_le] at h1
    obtain ⟨⟨⟨h2, h3⟩, h4, h5⟩, h6, h7⟩ := h1
    cases h
    obtain ⟨i1, i2, i3, i4, i5⟩ := eIxOk_ok h4 gx.1
    obtain ⟨k0, f, ⟨a1, a2, a3⟩, b1, b2, b3, b4, ⟨b5, b6⟩, b7⟩ := gCell hD h2 ge hI.2.2.1.2 hI.2.2.2
    obtain ⟨q, q1, q2⟩ := eIx_ok h5 gx.1
    have q3 := eAllIx_ok h7 q1
    rw [← q2, ← i3, Nat.add_sub_cancel] at q3
    simp only [Bool.and_eq_true, nl_le] at q3
    have p1 := eSub_ok q3.1 gv.1
    have ek : c - 4294967297 = k0 := by omega
    have hz : zOne sc i w pc cl (b :: j :: c :: ct) m = some (.inl (pc + 1, cl, ct, m.set k0 (eKd e.2.1, eLen e.2.1, zUp f j b))) := by
      rcases hop with ⟨hop, rfl⟩ | ⟨hop, rfl⟩ | ⟨hop, rfl⟩
      · have e7 : eKd e.2.1 = 7 := by omega
        have hf := (gA_int (eInt_t0 ((ed_arr b7 (by omega) i1).1 e7)) p1).1
        simp only [zOne, hop, ↓reduceIte, Nat.reduceEqDiff, or_self, zNx, b3, ek]
        rw [if_pos ⟨⟨e7, i1, by omega⟩, hf⟩]
      · have e8 : eKd e.2.1 = 8 := by omega
        obtain ⟨f1, f2, -⟩ := gA_i0 (eSub_ok ((ed_arr b7 (by omega) i1).2.1 e8).2 p1)
        have f3 := zs_of f1 (by omega)
        simp only [zOne, hop, ↓reduceIte, Nat.reduceEqDiff, or_self, zNx, b3, ek]
        rw [if_pos ⟨⟨e8, i1, by omega⟩, by omega⟩]
      · have e9 := (ed_arr b7 (by omega) i1).2.2 (by omega)
        obtain ⟨k2, c1, c2, c3⟩ := gA_cell e9.1 p1
        obtain ⟨f2, d1, -⟩ := hI.2.2.2.2 k2 c1
        have d2 : zAt m b = some (eKd (eTy e.2.1 j).2.1, eLen (eTy e.2.1 j).2.1, f2) := by
          rw [c2, zAt_cell hD c1, d1, c3]
        simp only [zOne, hop, ↓reduceIte, Nat.reduceEqDiff, or_self, zNx, b3, d2, ek]
        rw [if_pos ⟨⟨by omega, by omega, i1, by omega⟩, e9.2⟩]
    have hset : (m.set k0 (eKd e.2.1, eLen e.2.1, zUp f j b))[k0]? = some (eKd e.2.1, eLen e.2.1, zUp f j b) := List.getElem?_set_self (List.getElem?_eq_some_iff.mp b1).1
    have hw := gOut_w (pc2 := pc + 1) (i := i) (kk := 0) (lo := eLo x - 2147483648) (hi := eHi x - 2147483648) (f2 := zUp f j b) (W := W) (o := eObj (eId e) x) (k1 := eKey1 x) (k2 := eKey2 x) (k3 := eKey3 x) (ty := eTop) hD hI b1 (fun z hz => if_neg (fun ee => hz (by rw [ee]; exact i5))) (by rw [a3]; exact h6) (fun z hz => by
      rw [a3]
      by_cases q : z = j
      · rw [q, show zUp f j b j = b from if_pos rfl]
        exact p1
      · rw [show zUp f j b z = f z from if_neg q]
        exact b2 z hz) gv (fun ee => by cases ee) eKey_le (fun h0 => by
      obtain ⟨o1, o2⟩ := eObj_ok h0
      obtain ⟨n3, n4⟩ := eKey_ok (by omega) o1 i4 i2 gx
      rw [o2] at h0 ⊢
      rw [n3]
      obtain ⟨n1, n2⟩ := b4 h0
      have := gSl_mk (sc := sc) (j := j) n1 a1 (n2.trans a2) rfl hset
      rw [show zUp f j b j = b from if_pos rfl] at this
      exact ⟨⟨ge.2.2, n4⟩, this⟩) gt
    rw [a3] at hw
    exact ⟨_, _, _, _, hz, hw⟩
  · cases h
theorem ep_cpy (hD : eDat = true) (hop : zop w = 44) (hI : gIn sc Bc ρ fr frs ls st cl cst fs nx m) (h : eoCpy W fr i pc ls st fs nx = some (k, L)) : gStp sc W Bc ρ nx frs i w pc cl cst m k L := by
  have hn := hI.2.2.1.1
  unfold eoCpy at h
  split at h
  · rename_i n dp rd sp rs st2
    obtain ⟨cn, ct4, hct4, gn, gt4⟩ := gL_cons hI.1.2.2
    obtain ⟨cdp, ct3, hct3, gdp, gt3⟩ := gL_cons gt4
    obtain ⟨crd, ct2, hct2, grd, gt2⟩ := gL_cons gt3
    obtain ⟨csp, ct1, hct1, gsp, gt1⟩ := gL_cons gt2
    obtain ⟨crs, ct, hct, grs, gt⟩ := gL_cons gt1
    subst hct
    subst hct1
    subst hct2
    subst hct3
    subst hct4
    obtain ⟨h1, h⟩ := cs_and h
    simp only [Bool.and_eq_true, nb_eq, nl_le] at h1
    obtain ⟨⟨⟨u1, ⟨u2, u3⟩, u9⟩, u4, u5, u6⟩, ⟨⟨r1, r2⟩, r3, r4⟩, ⟨v1, v2⟩, v3, v4, v5⟩ := h1
    cases h
    obtain ⟨k0, f, ⟨a1, a2, a3⟩, b1, b2, b3, b4, ⟨b5, b6⟩, b7⟩ := gCell hD r1 grs hI.2.2.1.2 hI.2.2.2
    obtain ⟨k1, g, ⟨c1, c2, c3⟩, d1, d2, d3, d4, ⟨d5, d6⟩, d7⟩ := gCell hD r2 grd hI.2.2.1.2 hI.2.2.2
    obtain ⟨x1, x2, x3⟩ := eLo_cnt u1 gn.1
    obtain ⟨y1, y2, y3⟩ := eLo_cnt u2 gdp.1
    obtain ⟨w1, w2, w3⟩ := eLo_cnt u3 gsp.1
    have en := zs_of x1 (by omega)
    have ed := zs_of y1 (by omega)
    have es := zs_of w1 (by omega)
    have hl := u9
    rw [gL_len gt] at hl
    have ek : crd - 4294967297 = k1 := by omega
    have w4 : csp + cn ≤ eLen rs.2.1 := by omega
    have w5 : cdp + cn ≤ eLen rd.2.1 := by omega
    have hz : zOne sc i w pc cl (cn :: cdp :: crd :: csp :: crs :: ct) m = some (.inl (pc + 3, cl, ct, m.set k1 (eKd rd.2.1, eLen rd.2.1, zCpy f g csp cdp cn))) := by
      simp only [zOne, hop, ↓reduceIte, Nat.reduceEqDiff, or_self, zNx, b3, d3, ek]
      rw [if_pos ⟨⟨r3, r4, w4, w5⟩, by omega, by omega, hl⟩]
    have hf : ∀ j, ¬ (cdp ≤ j ∧ j < cdp + cn) → zCpy f g csp cdp cn j = g j := fun j hj => if_neg hj
    refine ⟨_, _, _, _, hz, _, List.mem_singleton.mpr rfl, ρ, ⟨gAg_rf, Nat.le_refl _⟩, ⟨⟨rfl, rfl⟩, ⟨hI.1.1, hI.1.2.1, gt⟩, ?_, hI.2.2.1⟩, ?_, ?_⟩
    · have := gF_set (sc := sc) (lo := 0) (hi := 4294967296) (f2 := zCpy f g csp cdp cn) d1 (fun j hj => hf j (fun q => hj ⟨Nat.zero_le _, by omega⟩)) hI.2.1
      rw [c3] at this
      exact this
    · refine gM_set hI.2.2.2 (Nat.le_refl _) d1 (fun j hj => ?_)
      rw [c3]
      by_cases q : cdp ≤ j ∧ j < cdp + cn
      · rw [show zCpy f g csp cdp cn j = f (csp + (j - cdp)) from if_pos q]
        have q2 : csp + (j - cdp) < eLen rs.2.1 := by omega
        have t0 := nb_eq.mp (List.all_eq_true.mp v5 _ (List.mem_range.mpr q2))
        have := gA_int (eInt_t0 t0) (b2 _ q2)
        exact eSub_ok (List.all_eq_true.mp v4 _ (List.mem_range.mpr hj)) (eTop_ok this.1)
      · rw [hf j q]
        exact d2 j hj
    · exact gW_set (lo := 0) (hi := eLen rd.2.1 - 1) d1 (fun j hj => hf j (fun q => hj ⟨Nat.zero_le _, by omega⟩)) (by rw [c3]; exact v3)
  · cases h
end EV
