/-! THE CLAIM OUT OF ONE WALK OF THE LAW'S BODY. Your part is whole_start (and what it stands on); all else here is the same for every law, but numbers. -/
def R_law : String := "LentArmsLaw"
def lw_P (b : Addr) (xs : List Int32) (args : Array Value) (s : State) : Prop := args = #[.ref b] ∧ s.IntsAt b xs ∧ xs.length ≤ 260 ∧ (Jvm.Cond.and given_1 narrow_1).before args s = true
def lw_Q (_ : Array Value) (s : State) (o : Outcome) (t : State) : Prop := o = .returned (some (.int 1)) ∧ Framed s o t [] 600000 7302250
def lw_Z (below : List Frame) (a : Array Value) (s : State) : State → Prop := fun t => ∃ o, t.status = .running ∧ Ended t below o ∧ lw_Q a s o t
/-- the law's own end, with 1 on the stack, nothing written that was there before, its room as the claim has it -/
theorem lw_ret {p : Program} {l : Launch} {e : Env} {s : State} {m : MethodId} {below : List Frame} {meth : Method} {c : Code} {b : Nat} (hx : p.tables.exec = Jvm.exec) (hb : c.code = code) (hr : meth.sig.returnType = ret) (hlocks : meth.locks = false) {pc : Nat} {H : Heap} {ls : Array Slot} (hdg : decode code pc = .ok (.ireturn, 1)) : W p l e room_1 s m #[Value.ref b] below meth c H [] 600000 7302250 (lw_Z below #[Value.ref b] s) (F0 m pc ls [.int 1]) := by
  intro T hT X
  obtain ⟨fs, hret, hrun, hended, hW, hframe⟩ := X.leave (v := some (.int 1)) (hlocks := hlocks) (fun h => by rw [hr] at h; cases h)
  have hmeth' : T.vm.method? m = some meth := X.method'
  refine ⟨T.setFrames fs, ?_, .returned (some (.int 1)), hrun, hended, rfl, ⟨_, rfl⟩, hW, hframe⟩
  jvm_step X.here [X.here.top, hx, hb, hdg, hmeth', hr, ret, narrow_b1]
  (try refine ⟨rfl, ?_⟩); (try refine ⟨rfl, ?_⟩)
  first | (intro acts; rw [hret _ acts rfl rfl rfl]) | rw [hret _ _ rfl rfl rfl]
  exact Steps.refl _
/-- what holds at the law's entry: the machine, the code, the tables' words (any of lw_tbl by 'hts w (by decide +kernel)'), the script of L ints xs at the cell b, what the Statement gives of the start (any of its parts by flat_of_before) -/
def lw_At (p : Program) (s : State) (m : MethodId) (meth : Method) (c : Code) (b L : Nat) (xs : Nat → Int32) : Prop :=
  p.tables.exec = Jvm.exec ∧ c.code = code ∧ meth.sig.returnType = ret ∧ c.maxLocals = 21 ∧ s.vm.findClass R_law = some m.cls ∧ (∀ w ∈ lw_tbl, w.before #[Value.ref b] s = true) ∧ va_X b L xs s s.heap ∧ b < s.heap.size ∧ meth.locks = false ∧ (Jvm.Cond.and given_1 narrow_1).before #[Value.ref b] s = true
/-! ===== out of the start: what the pure machine wants ===== -/
def zCd (x : Int32) : Nat := x.toBitVec.toNat
theorem zCd_lt (x : Int32) : zCd x < 4294967296 := x.toBitVec.isLt
theorem zCd_nI (x : Int32) : nI (zCd x) = x := by
  apply Int32.toBitVec_inj.mp
  show BitVec.ofNat 32 x.toBitVec.toNat = x.toBitVec
  rw [BitVec.ofNat_toNat, BitVec.setWidth_eq]
def zScr (L : Nat) (xs : Nat → Int32) : List Nat := (List.range L).map (fun j => zCd (xs j))
theorem zScr_len (L : Nat) (xs : Nat → Int32) : (zScr L xs).length = L := by simp [zScr]
theorem zScr_lt {L : Nat} {xs : Nat → Int32} : ∀ c ∈ zScr L xs, c < 4294967296 := by
  intro c hc
  obtain ⟨j, -, rfl⟩ := List.mem_map.mp hc
  exact zCd_lt _
theorem zScr_get {L : Nat} {xs : Nat → Int32} {j : Nat} (h : j < L) : nI ((zScr L xs).getD j 0) = xs j := by
  rw [List.getD_eq_getElem?_getD, zScr, List.getElem?_map, List.getElem?_range h]
  exact zCd_nI _
set_option maxRecDepth 100000 in
theorem zNar_in : (List.range 3).all (fun j => (decide (Cond.arrayOf (.static RX5 (zSn j) "[I") .int ∈ flatC (Jvm.Cond.and given_1 narrow_1)) && decide (Cond.eq (.length (.static RX5 (zSn j) "[I")) (.int (Int32.ofNat 5)) ∈ flatC (Jvm.Cond.and given_1 narrow_1))) && ((List.range 5).all (fun k => decide (Cond.eq (.elem (.static RX5 (zSn j) "[I") (.int (Int32.ofNat k))) (.int (nI ((zCT j).getD k 0))) ∈ flatC (Jvm.Cond.and given_1 narrow_1))) && (decide (Cond.laysStatic RX5 (zSn j) "[I" ∈ lw_tbl) && decide (Cond.initialized RX5 ∈ lw_tbl)))) = true := by decide +kernel
theorem zArrT {s : State} {cA : ClassId} {kA : Class} {comp : ClassId} {ty : FieldType} (h2 : s.vm.classes[cA]? = some kA) (h3 : kA.kind = .array comp ty) : ArrOfT s cA ty := fun N z => ⟨(fun k h => by cases h), kA, h2, comp, h3⟩
theorem zArrP {s : State} {args : Array Value} {ty : FieldType} (hn : ∀ C, ty ≠ .object C) (h : (Cond.arrayClass ty).before args s = true) : ∃ cA, ArrOfT s cA ty ∧ va_RA s cA ty := by
  obtain ⟨cA, kA, comp, h1, h2, h3⟩ := Cond.arrayClass_spec h
  refine ⟨cA, zArrT h2 h3, ?_⟩
  cases ty <;> first | exact h1 | exact absurd rfl (hn _)
theorem zArrO {s : State} {args : Array Value} {C : String} (h : (Cond.arrayOver (.object C)).before args s = true) : ∃ cA, ArrOfT s cA (.object C) ∧ va_RA s cA (.object C) := by
  obtain ⟨comp, cA, kA, h1, -, h2, h3, h4⟩ := Cond.arrayOver_spec h
  exact ⟨cA, zArrT h2 h3, kA, comp, h2, h3, h1, h4⟩
set_option maxRecDepth 100000 in
theorem zStart_in : ((List.range 6).all (fun ci => (u_ws (zCn ci) (zTT ci) (zNF ci)).all (fun w => decide (w ∈ lw_tbl)) && decide (Cond.instantiable (zCn ci) (zNF ci) ∈ lw_tbl)) && ((decide (Cond.arrayClass .int ∈ lw_tbl) && decide (Cond.arrayClass .char ∈ lw_tbl)) && (decide (Cond.arrayOver (.object RX0) ∈ lw_tbl) && (decide (Cond.arrayOver (.object RX1) ∈ lw_tbl) && decide (Cond.arrayOver (.object RX2) ∈ lw_tbl))))) = true := by decide +kernel
theorem zFixed : zCode 65 = code ∧ zRt 65 = ret ∧ zMaxL 65 = 21 ∧ zOwn 65 = R_law ∧ zNf 65 ≤ room_1.frames ∧ zNl 65 ≤ room_1.locals ∧ (zY 65).name ≠ "<init>" ∧ zRet 65 = 2 := by
  refine ⟨rfl, by decide +kernel, by decide +kernel, by decide +kernel, by decide +kernel, by decide +kernel, by decide +kernel, by decide +kernel⟩
theorem zKn_start {s : State} {args : Array Value} (hts : ∀ w ∈ lw_tbl, w.before args s = true) : ∃ (D : va_G) (G : Nat → ClassId), zKn D G s := by
  have h0 := zStart_in
  simp only [Bool.and_eq_true, decide_eq_true_eq] at h0
  obtain ⟨hcl, ⟨hi, hch⟩, hA, hH, hL⟩ := h0
  have hk : ∀ c : Nat, ∃ cC : ClassId, ∃ iS : Nat → Nat, c < 6 → u_Kn s (zCn c) (zTT c) (zNF c) cC iS := by
    intro c
    by_cases hc : c < 6
    · have h1 := List.all_eq_true.mp hcl c (List.mem_range.mpr hc)
      simp only [Bool.and_eq_true, decide_eq_true_eq] at h1
      obtain ⟨cC, iS, h2⟩ := u_known (ws := lw_tbl) hts (fun w hw => by
        have := List.all_eq_true.mp h1.1 w hw
        simpa using this) (hts _ h1.2)
      exact ⟨cC, iS, fun _ => h2⟩
    · exact ⟨0, fun _ => 0, fun h => absurd h hc⟩
  rw [Classical.skolem] at hk
  obtain ⟨d1, hk⟩ := hk
  rw [Classical.skolem] at hk
  obtain ⟨d2, hk⟩ := hk
  obtain ⟨a7, b7⟩ := zArrP (by intro C h; cases h) (hts _ hi)
  obtain ⟨a8, b8⟩ := zArrP (by intro C h; cases h) (hts _ hch)
  obtain ⟨a9, b9⟩ := zArrO (hts _ hA)
  obtain ⟨a10, b10⟩ := zArrO (hts _ hL)
  obtain ⟨a11, b11⟩ := zArrO (hts _ hH)
  refine ⟨(d1, d2), (fun k => match k with | 7 => a7 | 8 => a8 | 9 => a9 | 10 => a10 | _ => a11), ⟨⟨fun c q hq => ?_, fun k q hq => ?_⟩, ⟨va_AO.of (hts _ hA), va_AO.of (hts _ hH), va_AO.of (hts _ hL)⟩, fun w hw hn => ?_⟩⟩
  · have hc : c < 6 := by
      have := (List.getElem?_eq_some_iff.mp hq).1
      simpa [vwCl] using this
    rw [zcl hc] at hq
    cases hq
    exact hk c hc
  · rcases (show k = 0 ∨ k = 1 ∨ k = 2 ∨ k = 3 ∨ k = 4 by
      have := (List.getElem?_eq_some_iff.mp hq).1
      simp at this
      omega) with rfl | rfl | rfl | rfl | rfl <;> cases hq
    · exact b7
    · exact b8
    · exact b9
    · exact b10
    · exact b11
  · cases w <;> first | exact va_Nw.of rfl (hts _ hw) | exact absurd hn (by simp [zNs])
theorem zSt_start {s : State} {b L : Nat} {xs : Nat → Int32} (hL : L < 2147483648) (hts : ∀ w ∈ lw_tbl, w.before #[Value.ref b] s = true) (hgv : (Jvm.Cond.and given_1 narrow_1).before #[Value.ref b] s = true) (hX : va_X b L xs s s.heap) (hbl : b < s.heap.size) : ∃ K : Nat → Nat, K 3 = b ∧ zSt (zScr L xs) s.heap.size K s s.heap := by
  have hs := flat_of_before _ hgv
  have hA : ∀ a : Nat, a < s.heap.size → ¬ s.heap.size ≤ a := fun a h => by omega
  have hk : ∀ j : Nat, ∃ t : Nat, j < 3 → va_Z RX5 (zSn j) "[I" (.ref t) (fun q => s.heap.size ≤ q) s s.heap ∧ va_T .int t 5 (fun k => .int (nI ((zCT j).getD k 0))) (fun q => s.heap.size ≤ q) s s.heap := by
    intro j
    by_cases hj : j < 3
    · have h1 := List.all_eq_true.mp zNar_in j (List.mem_range.mpr hj)
      simp only [Bool.and_eq_true, decide_eq_true_eq] at h1
      obtain ⟨⟨h1, h2⟩, h3, h4, h5⟩ := h1
      obtain ⟨t, ht, hT⟩ := va_Tof (N := 5) (f := fun k => .int (nI ((zCT j).getD k 0))) (A := fun q => s.heap.size ≤ q) (by decide) (hs _ h1) (va_eqt (hs _ h2)) (fun k hk => by
        have := List.all_eq_true.mp h3 k (List.mem_range.mpr hk)
        simp only [decide_eq_true_eq] at this
        exact va_eqt (hs _ this)) hA
      exact ⟨t, fun _ => ⟨va_Zref (hts _ h4) (hts _ h5) ht hA, hT⟩⟩
    · exact ⟨0, fun h => absurd h hj⟩
  rw [Classical.skolem] at hk
  obtain ⟨K, hk⟩ := hk
  refine ⟨fun j => if j = 3 then b else K j, rfl, fun j hj => ?_, ?_⟩
  · show va_Z RX5 (zSn j) "[I" (.ref (if j = 3 then b else K j)) _ s s.heap ∧ va_T .int (if j = 3 then b else K j) 5 _ _ s s.heap
    rw [if_neg (by omega)]
    exact hk j hj
  · obtain ⟨scr, h1, h2, h3, h4, h5⟩ := hX
    rw [zScr_len]
    refine ⟨scr, h1, h2, h3, Nat.le_of_eq h4.symm, congrArg Nat.toInt32 h4, fun j hj => ?_, hA b hbl⟩
    show scr.slots[j]? = some (Value.int (nI ((zScr L xs).getD j 0)))
    rw [zScr_get hj]
    exact h5 j hj
/-- THE CLAIM'S WALK OUT OF THE PURE MACHINE'S RUN -/
theorem zStart {p : Program} {e : Env} {s : State} {m : MethodId} {below : List Frame} {meth : Method} {c : Code} (l : Launch) {b L : Nat} {xs : Nat → Int32} (hL : L < 2147483648) (C0 : lw_At p s m meth c b L xs) {n : Nat} {m' : zM} (hgo : zGo (zScr L xs) n 65 0 ([8589934595] ++ List.replicate 20 1099511627776) [] [] = some (1, m')) (hcells : m'.length ≤ 600000) (hslots : zSl m' ≤ 7302250) : W p l e room_1 s m #[Value.ref b] below meth c s.heap [] 0 0 (lw_Z below #[Value.ref b] s) (entryFrame m ([Value.ref b] : List Value).toArray 21) := by
  obtain ⟨hx, hb, hr, hml, hown, hts, hX, hbl, hlk, hgv⟩ := C0
  obtain ⟨D, G, hKn⟩ := zKn_start hts
  obtain ⟨K, hK3, hSt⟩ := zSt_start hL hts hgv hX hbl
  obtain ⟨f1, f2, f3, f4, f5, f6, f7, f8⟩ := zFixed
  have hctx : zCtx (zScr L xs) p room_1 s m #[Value.ref b] meth c s.heap.size K D G 65 := ⟨⟨hx, hb.trans f1.symm, hml.trans f3.symm⟩, ⟨hr.trans f2.symm, hlk⟩, ⟨by rw [f4]; exact hown, fun h => absurd h f7⟩, fun w hw => hts w (List.mem_filter.mp hw).1, ⟨hKn, hSt⟩, f5, f6⟩
  have hv : zV s.heap.size K 8589934595 = .ref b := by
    rw [zV_st (by decide)]
    show Value.ref (K 3) = _
    rw [hK3]
  have hfr := zFr_entry (base := s.heap.size) (K := K) (as := [8589934595]) (n := 21) (by decide)
  have hrel : zRel D G s.heap.size K s [] s.heap [] := ⟨⟨rfl, fun k x h => by simp at h⟩, va_S.rf⟩
  have hgo2 := zWalk (zScr L xs) l n 65 0 _ [] [] 1 m' hgo p e room_1 s m #[Value.ref b] below meth c (lw_Z below #[Value.ref b] s) s.heap.size 0 0 K D G hctx ⟨Nat.zero_le _, Nat.zero_le _⟩ ⟨by show m'.length - 0 ≤ 600000; omega, by show zSl m' - 0 ≤ 7302250; omega⟩ (fun pc' ls' st' hok hone H locs lsM hF hR => by
    rcases zOne_ret hone with ⟨hop, rfl, h1, h2⟩ | ⟨hop, -, -, h2⟩
    · simp only [zOkI, hop, ↓reduceIte, Nat.reduceEqDiff, decide_eq_true_eq] at hok
      rw [f1] at hok
      refine W.widen (k := 600000) (n := 7302250) (by omega) (by omega) ?_
      refine va_forget hR.2.2.2 ?_
      rw [List.map_cons, List.map_nil, zV_int h1]
      exact lw_ret hx hb hr hlk hok
    · rw [f8] at h2
      cases h2) s.heap [] _ (by rw [f3]; exact hfr) hrel
  rw [lg_entry_eq]
  rw [List.map_cons, List.map_nil, hv] at hgo2
  exact hgo2
