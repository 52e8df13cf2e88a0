/-! ===== the rest of the steps: returns, calls, the walk ===== -/
section ZE
variable {p : Program} {l : Launch} {e : Env} {R : Room} {s : State} {mid : MethodId} {args : Array Value} {below : List Frame} {meth : Method} {c : Code} {Q : State → Prop}
variable {sc : List Nat} {base n0 l0 : Nat} {K : Nat → Nat} {D : va_G} {G : Nat → ClassId} {i pc w pc' v : Nat} {ls st ls' st' : List Nat} {m m' m1 : zM}
theorem zafter {H : Heap} {locs : List Loc} {lsM : Array Slot} {a v1 : Nat} {st0 : List Value} {av : Array Value} {rst : List Nat}
    (hF : zFr base K ls lsM (zMaxL i)) (hS : va_S (fun q : Nat => base ≤ q) s.heap H locs) (hmono : m.length ≤ m1.length ∧ zSl m ≤ zSl m1) (hv1 : v1 < 4294967296) (hn : n0 ≤ m.length ∧ l0 ≤ zSl m)
    (hrun : va_Run p l e R s mid args below meth c H locs (m.length - n0) (zSl m - l0) (m1.length - m.length) (zSl m1 - zSl m) (F0 mid pc lsM st0) (rst.map (zV base K)) (zPost base K D G m1 a v1 av) (fun q : Nat => base ≤ q))
    (kk : zGl p l e R s mid args below meth c Q base n0 l0 K D G i (pc + 3) ls (if zRet a = 0 then rst else v1 :: rst) m1) : W p l e R s mid args below meth c H locs (m.length - n0) (zSl m - l0) Q (F0 mid pc lsM st0) := by
  have e1 : m.length - n0 + (m1.length - m.length) = m1.length - n0 := by omega
  have e2 : zSl m - l0 + (zSl m1 - zSl m) = zSl m1 - l0 := by omega
  by_cases hz : zRet a = 0
  · rw [if_pos hz] at kk
    rw [show zPost base K D G m1 a v1 = va_Qv (fun _ : Unit => True) (fun _ t => zP D G base K m1 t.heap) (fun q : Nat => base ≤ q) from if_pos hz] at hrun
    refine va_callv hrun hS (fun _ _ h => h) (fun _ h => h) (fun u t H1 locs1 ht hal hp hb hz1 hk1 hS1 => ?_)
    rw [e1, e2]
    exact kk H1 locs1 lsM hF ⟨by rw [← ht]; exact hb, hS1⟩
  · rw [if_neg hz] at kk
    rw [show zPost base K D G m1 a v1 = va_Qi (fun (r : Int32) (_ : Unit) => r = nI v1) (fun _ t => zP D G base K m1 t.heap) (fun q : Nat => base ≤ q) from if_neg hz] at hrun
    refine va_calli hrun hS (fun _ _ h => h) (fun _ h => h) (fun r u t H1 locs1 ht hal hp hb hz1 hk1 hS1 => ?_)
    rw [e1, e2]
    have kk := kk H1 locs1 lsM hF ⟨by rw [← ht]; exact hb, hS1⟩
    rw [List.map_cons, zV_int hv1, ← hp] at kk
    exact kk
theorem zPre_at {H : Heap} {locs : List Loc} {as : List Nat} (hKn : zKn D G s) (hSt : zSt sc base K s s.heap) (hR : zRel D G base K s m H locs) (U : State) (hU : U.heap = H) (hW : s.WarmedH U.vm) : zPre sc base K D G m as (as.map (zV base K)).toArray U :=
  ⟨rfl, by rw [hU]; exact hR.1, zKn_moved hW hKn, by rw [hU]; exact zSt_kept (zSt_moved hW.alike hSt) hR.2.2.1⟩
set_option maxHeartbeats 2000000 in
theorem zs_call (hc : zCtx sc p R s mid args meth c base K D G i) (hcall : zIsC w = true) (hok : zOkI i pc w = true) (hcok : zCOk w st m = true) {v1 : Nat} (hwk : zWk sc l (za w) 0 (zEn (za w) (zb w) st) [] m v1 m1) (hmono : m.length ≤ m1.length ∧ zSl m ≤ zSl m1) (hv1 : v1 < 4294967296) (hn : n0 ≤ m.length ∧ l0 ≤ zSl m) (hr : m1.length - n0 ≤ R.cells ∧ zSl m1 - l0 ≤ R.slots)
    (kk : zGl p l e R s mid args below meth c Q base n0 l0 K D G i (pc + 3) ls (if zRet (za w) = 0 then st.drop (zb w) else v1 :: st.drop (zb w)) m1) : zGl p l e R s mid args below meth c Q base n0 l0 K D G i pc ls st m := by
  obtain ⟨⟨hx, hb, hml⟩, ⟨hrt, hlk⟩, ⟨hown, hnm⟩, hts, ⟨hKn, hSt⟩, hfr, hlo⟩ := hc
  intro H locs lsM hF hR
  generalize ha : za w = a at *
  generalize hnb : zb w = nb at *
  unfold zCOk at hcok
  rw [ha, hnb] at hcok
  simp only [Bool.and_eq_true, decide_eq_true_eq] at hcok
  obtain ⟨⟨hl1, hl8⟩, hrcv, hall, hnL⟩ := hcok
  have hlen : ((st.take nb).reverse).length = nb := by rw [List.length_reverse, List.length_take]; omega
  have hrest : ((st.drop nb).map (zV base K)).length ≤ 8 := by rw [List.length_map, List.length_drop]; omega
  have hsum : ((((st.drop nb).map (zV base K))).map fun v => v.category).sum ≤ 8 := by
    rw [zV_sum, List.length_drop]
    omega
  have hstk : st.map (zV base K) = (((st.take nb).reverse).map (zV base K)).reverse ++ (st.drop nb).map (zV base K) := by
    rw [List.map_reverse, List.reverse_reverse, ← List.map_append, List.take_append_drop]
  unfold zEn at hwk
  have hwk2 : zWk sc l a 0 ((st.take nb).reverse ++ List.replicate (zMaxL a - ((st.take nb).reverse).length) 1099511627776) [] m v1 m1 := by rw [hlen]; exact hwk
  have hCF : CallFix p mid c (zCode i) (zMaxL i) s args zWT (zOwn i) := ⟨hx, hb, hml, hown, hts⟩
  have hroom : m.length - n0 + (m1.length - m.length) ≤ R.cells ∧ zSl m - l0 + (zSl m1 - zSl m) ≤ R.slots := by omega
  have hop : zop w = 37 ∨ zop w = 38 ∨ zop w = 39 ∨ zop w = 40 ∨ zop w = 41 := by
    unfold zIsC at hcall
    simp only [Bool.and_eq_true, decide_eq_true_eq] at hcall
    omega
  have hinst : ∀ r : Nat, st[nb - 1]? = some r → 0 < nb → ∃ as' : List Nat, (st.take nb).reverse = r :: as' ∧ as'.length + 1 = nb := by
    intro r h1 h2
    cases hq : (st.take nb).reverse with
    | nil => rw [hq] at hlen; simp at hlen; omega
    | cons r' as' =>
      refine ⟨as', ?_, by rw [hq] at hlen; simpa using hlen⟩
      have h3 : ((st.take nb).reverse)[0]? = some r' := by rw [hq]; rfl
      rw [List.getElem?_reverse (by rw [List.length_take]; omega), List.length_take, show min nb st.length - 1 - 0 = nb - 1 by omega, List.getElem?_take, if_pos (by omega), h1] at h3
      cases h3
      rfl
  rcases hop with hop | hop | hop | hop | hop
  · simp only [zOkI, zOkD, hop, ↓reduceIte, Nat.reduceEqDiff, Bool.and_eq_true, decide_eq_true_eq, ha, hnb] at hok
    obtain ⟨hdg, hlnk, hnp, hst8, hni, hf1, hl1', ha8⟩ := hok
    obtain ⟨⟨hcode, hkind⟩, ⟨hsel, hini⟩, ⟨⟨hcn, hc7⟩, hpl⟩, hmh, hvh, hpar⟩ := zk_meth ha8
    have hc7 := hc7.resolve_right (by omega)
    rw [if_neg (by omega)] at hkind
    have hsel := (hsel.resolve_left (by omega)).resolve_left hni
    simp only [zRcv, hop, ↓reduceIte, ha, hnb] at hrcv
    split at hrcv
    · rename_i r hr1
      split at hrcv
      · rename_i kd n f hat
        simp only [Bool.and_eq_true, decide_eq_true_eq] at hrcv
        obtain ⟨rfl, hnb0⟩ := hrcv
        obtain ⟨as', has, hasl⟩ := hinst r hr1 hnb0
        obtain ⟨hvv, hn7, cellV, g1, g2, g3, -⟩ := zP_obj hR.1 hat hc7
        have hcls := (hKn.1.1 (zMtf a 0) _ (zcl hc7)).2
        have hM := zMet ha8 (by rw [hlen]; exact hnL) hwk2 base K D G
        rw [has] at hM hstk
        have hrun := va_runV (l := l) (R := R) (e := e) (below := below) (meth := meth) (H := H) (locs := locs) (cells := m.length - n0) (slots := zSl m - l0) (C := zOwn a) (As := as'.map (zV base K)) (b := base + (r - 4294967297)) (rest := (st.drop nb).map (zV base K)) (g := F0 mid pc lsM (st.map (zV base K))) (index := zd w) (n := zNp a)
          hCF hM ⟨callB_of (zNp a) hts (zWs_good ha8) rfl rfl rfl (hts _ hini) (hts _ (zHas_in hlnk)) ⟨hmh, hvh, hpar⟩ ⟨by show zNf a + 1 ≤ _; omega, by show 8 + (zMaxL a + 11) + zNl a ≤ _; omega⟩, hts _ hkind, hts _ hsel⟩
          ⟨zPre_blind, ⟨cellV, g1, by rw [g3]; rfl, by rw [g2, hcn]; exact hcls.1⟩, fun U hU hW => by
            have := zPre_at (as := r :: as') hKn hSt hR U hU hW
            rw [List.map_cons, hvv] at this
            exact this⟩
          rfl (by rw [List.length_map]; omega) hF.2.1 (by show st.map (zV base K) = _; rw [hstk, List.map_cons, List.reverse_cons, hvv, List.append_assoc]; rfl) (lv_room hsum) hdg hroom
        exact zafter hF hR.2 hmono hv1 hn hrun kk
      · cases hrcv
    · cases hrcv
  · simp only [zOkI, zOkD, hop, ↓reduceIte, Nat.reduceEqDiff, Bool.and_eq_true, decide_eq_true_eq, ha, hnb] at hok
    obtain ⟨hdg, hlnk, hnp, hst8, hf1, hl1', ha8⟩ := hok
    obtain ⟨⟨hcode, hkind⟩, ⟨hsel, hini⟩, ⟨⟨hcn, hc7⟩, hpl⟩, hmh, hvh, hpar⟩ := zk_meth ha8
    rw [if_pos hst8] at hkind
    have hM := zMet ha8 (by rw [hlen]; exact hnL) hwk2 base K D G
    have hrun := va_runS (l := l) (R := R) (e := e) (below := below) (meth := meth) (H := H) (locs := locs) (cells := m.length - n0) (slots := zSl m - l0) (As := ((st.take nb).reverse).map (zV base K)) (rest := (st.drop nb).map (zV base K)) (g := F0 mid pc lsM (st.map (zV base K))) (index := zd w) (n := zNp a)
      hCF hM ⟨callB_of (zNp a) hts (zWs_good ha8) rfl rfl rfl (hts _ hini) (hts _ (zHas_in hlnk)) ⟨hmh, hvh, hpar⟩ ⟨by show zNf a + 1 ≤ _; omega, by show 8 + (zMaxL a + 11) + zNl a ≤ _; omega⟩, hts _ hkind⟩
      ⟨zPre_blind, fun U hU hW => zPre_at hKn hSt hR U hU hW⟩
      rfl (by rw [List.length_map]; omega) hF.2.1 hstk (lv_room hsum) hdg hroom
    exact zafter hF hR.2 hmono hv1 hn hrun kk
  · simp only [zOkI, zOkD, hop, ↓reduceIte, Nat.reduceEqDiff, Bool.and_eq_true, decide_eq_true_eq, ha, hnb] at hok
    obtain ⟨hdg, hlnk, hnp, hst8, hni, hret, hf1, hl1', ha8⟩ := hok
    obtain ⟨⟨hcode, hkind⟩, ⟨hsel, hini⟩, ⟨⟨hcn, hc7⟩, hpl⟩, hmh, hvh, hpar⟩ := zk_meth ha8
    rw [if_neg (by omega)] at hkind
    simp only [zRcv, hop, ↓reduceIte, Nat.reduceEqDiff, true_or, ha, hnb] at hrcv
    split at hrcv
    · rename_i r hr1
      simp only [Bool.and_eq_true, decide_eq_true_eq] at hrcv
      obtain ⟨hrb, hnb0⟩ := hrcv
      obtain ⟨as', has, hasl⟩ := hinst r hr1 hnb0
      obtain ⟨x, ex⟩ := zV_ref (base := base) (K := K) hrb.1
      have hM := zMet ha8 (by rw [hlen]; exact hnL) hwk2 base K D G
      rw [has] at hM hstk
      have hrt0 : zRt a = none := by simp [zRt, hret]
      have hrun := va_runI (l := l) (R := R) (e := e) (below := below) (meth := meth) (H := H) (locs := locs) (cells := m.length - n0) (slots := zSl m - l0) (As := as'.map (zV base K)) (b := x) (rest := (st.drop nb).map (zV base K)) (g := F0 mid pc lsM (st.map (zV base K))) (index := zd w) (n := zNp a)
        hCF hM ⟨callB_of (bytes := zCode a) (maxL := zMaxL a) (zNp a) hts (zWs_good ha8) (by unfold zWs; rw [hrt0]) rfl rfl (hts _ hini) (hts _ (zHas_in hlnk)) ⟨hmh, hvh, hpar⟩ ⟨by show zNf a + 1 ≤ _; omega, by show 8 + (zMaxL a + 11) + zNl a ≤ _; omega⟩, hni, hts _ hkind⟩
        ⟨zPre_blind, fun U hU hW => by
            have := zPre_at (as := r :: as') hKn hSt hR U hU hW
            rw [List.map_cons, ex] at this
            exact this⟩
        rfl (by rw [List.length_map]; omega) hF.2.1 (by show st.map (zV base K) = _; rw [hstk, List.map_cons, List.reverse_cons, ex, List.append_assoc]; rfl) (lv_room hsum) hdg hroom
      exact zafter hF hR.2 hmono hv1 hn hrun kk
    · cases hrcv
  · simp only [zOkI, zOkD, hop, ↓reduceIte, Nat.reduceEqDiff, Bool.and_eq_true, decide_eq_true_eq, ha, hnb] at hok
    obtain ⟨hdg, hlnk, hnp, hst8, hf1, hl1', ha8⟩ := hok
    obtain ⟨⟨hcode, hkind⟩, ⟨hsel, hini⟩, ⟨⟨hcn, hc7⟩, hpl⟩, hmh, hvh, hpar⟩ := zk_meth ha8
    rw [if_pos hst8] at hkind
    have hM := zMet ha8 (by rw [hlen]; exact hnL) hwk2 base K D G
    have hrun := va_runSN (l := l) (R := R) (e := e) (below := below) (meth := meth) (H := H) (locs := locs) (cells := m.length - n0) (slots := zSl m - l0) (As := ((st.take nb).reverse).map (zV base K)) (rest := (st.drop nb).map (zV base K)) (g := F0 mid pc lsM (st.map (zV base K))) (index := zd w) (n := zNp a)
      hCF hM ⟨va_cnB (zNp a) hts (zWs_good ha8) rfl rfl rfl (hKn.2.2 _ (zHasN_in hlnk) rfl) (hts _ hini) ⟨hmh, hvh, hpar⟩ ⟨by show zNf a + 1 ≤ _; omega, by show 8 + (zMaxL a + 11) + zNl a ≤ _; omega⟩, hts _ hkind, trivial⟩
      ⟨zPre_blind, fun U hU hW => zPre_at hKn hSt hR U hU hW⟩
      rfl (by rw [List.length_map]; omega) hF.2.1 hstk (lv_room hsum) hdg hroom
    exact zafter hF hR.2 hmono hv1 hn hrun kk
  · simp only [zOkI, zOkD, hop, ↓reduceIte, Nat.reduceEqDiff, Bool.and_eq_true, decide_eq_true_eq, ha, hnb] at hok
    obtain ⟨hdg, hlnk, hnp, hst8, hni, hret, hf1, hl1', ha8⟩ := hok
    obtain ⟨⟨hcode, hkind⟩, ⟨hsel, hini⟩, ⟨⟨hcn, hc7⟩, hpl⟩, hmh, hvh, hpar⟩ := zk_meth ha8
    rw [if_neg (by omega)] at hkind
    simp only [zRcv, hop, ↓reduceIte, Nat.reduceEqDiff, or_true, ha, hnb] at hrcv
    split at hrcv
    · rename_i r hr1
      simp only [Bool.and_eq_true, decide_eq_true_eq] at hrcv
      obtain ⟨hrb, hnb0⟩ := hrcv
      obtain ⟨as', has, hasl⟩ := hinst r hr1 hnb0
      obtain ⟨x, ex⟩ := zV_ref (base := base) (K := K) hrb.1
      have hM := zMet ha8 (by rw [hlen]; exact hnL) hwk2 base K D G
      rw [has] at hM hstk
      have hrt0 : zRt a = none := by simp [zRt, hret]
      have hrun := va_runIN (l := l) (R := R) (e := e) (below := below) (meth := meth) (H := H) (locs := locs) (cells := m.length - n0) (slots := zSl m - l0) (As := as'.map (zV base K)) (b := x) (rest := (st.drop nb).map (zV base K)) (g := F0 mid pc lsM (st.map (zV base K))) (index := zd w) (n := zNp a)
        hCF hM ⟨va_cnB (bytes := zCode a) (maxL := zMaxL a) (zNp a) hts (zWs_good ha8) (by unfold zWs; rw [hrt0]) rfl rfl (hKn.2.2 _ (zHasN_in hlnk) rfl) (hts _ hini) ⟨hmh, hvh, hpar⟩ ⟨by show zNf a + 1 ≤ _; omega, by show 8 + (zMaxL a + 11) + zNl a ≤ _; omega⟩, hni, hts _ hkind⟩
        ⟨zPre_blind, fun U hU hW => by
            have := zPre_at (as := r :: as') hKn hSt hR U hU hW
            rw [List.map_cons, ex] at this
            exact this⟩
        rfl (by rw [List.length_map]; omega) hF.2.1 (by show st.map (zV base K) = _; rw [hstk, List.map_cons, List.reverse_cons, ex, List.append_assoc]; rfl) (lv_room hsum) hdg hroom
      exact zafter hF hR.2 hmono hv1 hn hrun kk
    · cases hrcv
theorem zs_all (hc : zCtx sc p R s mid args meth c base K D G i) (hok : zop w ≠ 0 → zOkI i pc w = true) (hn : n0 ≤ m.length ∧ l0 ≤ zSl m) (hr : m'.length - n0 ≤ R.cells ∧ zSl m' - l0 ≤ R.slots) (h : zOne sc i w pc ls st m = some (.inl (pc', ls', st', m'))) (kk : zGl p l e R s mid args below meth c Q base n0 l0 K D G i pc' ls' st' m') : zGl p l e R s mid args below meth c Q base n0 l0 K D G i pc ls st m := by
  have hz : zop w ≠ 0 := by
    intro hz
    simp [zOne, hz] at h
  have hok := hok hz
  by_cases h1 : zop w = 1
  · exact zs_1 hc h1 hok hn hr h kk
  by_cases h2 : zop w = 2
  · exact zs_2 hc h2 hok hn hr h kk
  by_cases h3 : zop w = 3
  · exact zs_3 hc h3 hok hn hr h kk
  by_cases h4 : zop w = 4
  · exact zs_4 hc h4 hok hn hr h kk
  by_cases h5 : zop w = 5
  · exact zs_5 hc h5 hok hn hr h kk
  by_cases h6 : zop w = 6
  · exact zs_6 hc h6 hok hn hr h kk
  by_cases h7 : zop w = 7
  · exact zs_7 hc h7 hok hn hr h kk
  by_cases h8 : zop w = 8
  · exact zs_8 hc h8 hok hn hr h kk
  by_cases h9 : zop w = 9
  · exact zs_9 hc h9 hok hn hr h kk
  by_cases h10 : zop w = 10
  · exact zs_10 hc h10 hok hn hr h kk
  by_cases h11 : zop w = 11
  · exact zs_11 hc h11 hok hn hr h kk
  by_cases h12 : zop w = 12
  · exact zs_12 hc h12 hok hn hr h kk
  by_cases h47 : zop w = 47
  · exact zs_47 hc h47 hok hn hr h kk
  by_cases h13 : zop w = 13
  · exact zs_13 hc h13 hok hn hr h kk
  by_cases h14 : zop w = 14
  · exact zs_14 hc h14 hok hn hr h kk
  by_cases h15 : zop w = 15
  · exact zs_15 hc h15 hok hn hr h kk
  by_cases h16 : zop w = 16
  · exact zs_16 hc h16 hok hn hr h kk
  by_cases h17 : zop w = 17
  · exact zs_17 hc h17 hok hn hr h kk
  by_cases h18 : zop w = 18
  · exact zs_18 hc h18 hok hn hr h kk
  by_cases h19 : zop w = 19
  · exact zs_19 hc h19 hok hn hr h kk
  by_cases h20 : zop w = 20
  · exact zs_20 hc h20 hok hn hr h kk
  by_cases h21 : zop w = 21
  · exact zs_21 hc h21 hok hn hr h kk
  by_cases h22 : zop w = 22
  · exact zs_22 hc h22 hok hn hr h kk
  by_cases h23 : zop w = 23
  · exact zs_23 hc h23 hok hn hr h kk
  by_cases h24 : zop w = 24
  · exact zs_24 hc h24 hok hn hr h kk
  by_cases h25 : zop w = 25
  · exact zs_25 hc h25 hok hn hr h kk
  by_cases h26 : zop w = 26
  · exact zs_26 hc h26 hok hn hr h kk
  by_cases h27 : zop w = 27
  · exact zs_27 hc h27 hok hn hr h kk
  by_cases h28 : zop w = 28
  · exact zs_28 hc h28 hok hn hr h kk
  by_cases h29 : zop w = 29
  · exact zs_29 hc h29 hok hn hr h kk
  by_cases h30 : zop w = 30
  · exact zs_30 hc h30 hok hn hr h kk
  by_cases h31 : zop w = 31
  · exact zs_31 hc h31 hok hn hr h kk
  by_cases h32 : zop w = 32
  · exact zs_32 hc h32 hok hn hr h kk
  by_cases h33 : zop w = 33
  · exact zs_33 hc h33 hok hn hr h kk
  by_cases h34 : zop w = 34
  · exact zs_34 hc h34 hok hn hr h kk
  by_cases h35 : zop w = 35
  · exact zs_35 hc h35 hok hn hr h kk
  by_cases h36 : zop w = 36
  · exact zs_36 hc h36 hok hn hr h kk
  by_cases h42 : zop w = 42
  · exact zs_42 hc h42 hok hn hr h kk
  by_cases h43 : zop w = 43
  · exact zs_43 hc h43 hok hn hr h kk
  by_cases h44 : zop w = 44
  · exact zs_44 hc h44 hok hn hr h kk
  exfalso
  by_cases h45 : zop w = 45
  · simp only [zOne, h45, ↓reduceIte, Nat.reduceEqDiff, zNx, or_true, true_or, or_false, false_or, or_self] at h
    repeat' split at h
    all_goals cases h
  by_cases h46 : zop w = 46
  · simp only [zOne, h46, ↓reduceIte, Nat.reduceEqDiff, zNx, or_true, true_or, or_false, false_or, or_self] at h
    repeat' split at h
    all_goals cases h
  simp only [zOne, h1, h2, h3, h4, h5, h6, h7, h8, h9, h10, h11, h12, h47, h13, h14, h15, h16, h17, h18, h19, h20, h21, h22, h23, h24, h25, h26, h27, h28, h29, h30, h31, h32, h33, h34, h35, h36, h42, h43, h44, h45, h46, ↓reduceIte, or_self] at h
  cases h
end ZE
theorem zWalk (sc : List Nat) (l : Launch) : ∀ (n i pc : Nat) (ls st : List Nat) (m : zM) (v : Nat) (m' : zM), zGo sc n i pc ls st m = some (v, m') → zWk sc l i pc ls st m v m' := by
  intro n
  induction n with
  | zero => intro i pc ls st m v m' h; cases h
  | succ n ih =>
    intro i pc ls st m v m' h p e R s mid args below meth c Q base n0 l0 K D G hc hn hr hret
    unfold zGo at h
    split at h
    · rename_i hcall
      split at h
      · rename_i hcok
        split at h
        · rename_i v1 m1 hgo
          have h1 := zGo_mono n hgo
          have h2 := zGo_mono n h
          have hne : zop (zI i pc) ≠ 0 := by
            unfold zIsC at hcall
            simp only [Bool.and_eq_true, decide_eq_true_eq] at hcall
            omega
          exact zs_call hc hcall (zk_ok hne).2 hcok (ih _ _ _ _ _ _ _ hgo) h1.1 h1.2 hn ⟨by omega, by omega⟩ (ih _ _ _ _ _ _ _ h p e R s mid args below meth c Q base n0 l0 K D G hc ⟨by omega, by omega⟩ hr hret)
        · cases h
      · cases h
    · split at h
      · rename_i pc' ls' st' m1 hone
        have h1 := zOne_mono hone
        have h2 := zGo_mono n h
        exact zs_all hc (fun hz => (zk_ok hz).2) hn ⟨by omega, by omega⟩ hone (ih _ _ _ _ _ _ _ h p e R s mid args below meth c Q base n0 l0 K D G hc ⟨by omega, by omega⟩ hr hret)
      · rename_i v1 hone
        cases h
        refine hret pc ls st (zk_ok ?_).2 hone
        rcases zOne_ret hone with h | h <;> omega
      · cases h
