/-! ===== what is known of a state's tables, and of a method's walk ===== -/
def zNs (w : Cond) : Bool := match w with
  | .methodLinkNest _ _ _ _ => true
  | .fieldLinkNest _ _ _ _ _ _ => true
  | _ => false
def zKn (D : va_G) (G : Nat → ClassId) (U : State) : Prop := va_K D vwCl [(G 7, .int), (G 8, .char), (G 9, .object RX0), (G 10, .object RX2), (G 11, .object RX1)] U ∧ (va_AO RX0 U ∧ va_AO RX1 U ∧ va_AO RX2 U) ∧ ∀ w ∈ lw_tbl, zNs w = true → va_Nw w U
theorem zKn_moved {D : va_G} {G : Nat → ClassId} {s U : State} (hW : s.WarmedH U.vm) (h : zKn D G s) : zKn D G U := by
  refine ⟨va_K.moved hW.alike h.1, ⟨h.2.1.1.moved hW.alike, h.2.1.2.1.moved hW.alike, h.2.1.2.2.moved hW.alike⟩, fun w hw hn => ?_⟩
  have hz := h.2.2 w hw hn
  cases w <;> first | exact va_Nw.warmM hW hz | exact va_Nw.warmF hW hz | exact absurd hn (by simp [zNs])
theorem zKn_same {D : va_G} {G : Nat → ClassId} {s U : State} (hv : s.vm = U.vm) (h : zKn D G s) : zKn D G U := by
  have ha : s.vm.Alike U.vm := by rw [hv]; exact Vm.Alike.refl U.vm
  refine ⟨va_K.moved ha h.1, ⟨h.2.1.1.moved ha, h.2.1.2.1.moved ha, h.2.1.2.2.moved ha⟩, fun w hw hn => ?_⟩
  have hz := h.2.2 w hw hn
  cases w <;> first | exact va_Nw.same rfl hv hz | exact absurd hn (by simp [zNs])
def zSt (sc : List Nat) (base : Nat) (K : Nat → Nat) (U : State) (H : Heap) : Prop := (∀ j, j < 3 → va_Z RX5 (zSn j) "[I" (.ref (K j)) (fun q => base ≤ q) U H ∧ va_T .int (K j) 5 (fun k => .int (nI ((zCT j).getD k 0))) (fun q => base ≤ q) U H) ∧ va_T .int (K 3) sc.length (fun k => .int (nI (sc.getD k 0))) (fun q => base ≤ q) U H
theorem zSt_moved {sc : List Nat} {base : Nat} {K : Nat → Nat} {s U : State} {H : Heap} (ha : s.vm.Alike U.vm) (h : zSt sc base K s H) : zSt sc base K U H := ⟨fun j hj => ⟨va_Z.moved ha (h.1 j hj).1, va_T.moved ha (h.1 j hj).2⟩, va_T.moved ha h.2⟩
theorem zSt_kept {sc : List Nat} {base : Nat} {K : Nat → Nat} {U : State} {H H1 : Heap} (h : zSt sc base K U H) (hq : ∀ a : Nat, a < H.size → ¬ base ≤ a → H1[a]? = H[a]?) : zSt sc base K U H1 := ⟨fun j hj => ⟨va_Z.kept (h.1 j hj).1 hq, va_T.kept (h.1 j hj).2 hq⟩, va_T.kept h.2 hq⟩
def zCtx (sc : List Nat) (p : Program) (R : Room) (s : State) (mid : MethodId) (args : Array Value) (meth : Method) (c : Code) (base : Nat) (K : Nat → Nat) (D : va_G) (G : Nat → ClassId) (i : Nat) : Prop :=
  (p.tables.exec = Jvm.exec ∧ c.code = zCode i ∧ c.maxLocals = zMaxL i) ∧ (meth.sig.returnType = zRt i ∧ meth.locks = false) ∧ (s.vm.findClass (zOwn i) = some mid.cls ∧ ((zY i).name = "<init>" → meth.name = "<init>")) ∧ (∀ w ∈ zWT, w.before args s = true) ∧ (zKn D G s ∧ zSt sc base K s s.heap) ∧ (zNf i ≤ R.frames ∧ zNl i ≤ R.locals)
def zRel (D : va_G) (G : Nat → ClassId) (base : Nat) (K : Nat → Nat) (s : State) (m : zM) (H : Heap) (locs : List Loc) : Prop := zP D G base K m H ∧ va_S (fun q : Nat => base ≤ q) s.heap H locs
/-! ===== small rows of the steps ===== -/
theorem z78a : 7 ≤ 7 ∧ 7 ≤ 8 := by decide
theorem z78b : 7 ≤ 8 ∧ 8 ≤ 8 := by decide
theorem zc_eq {a b : Nat} (ha : a < 4294967296) (hb : b < 4294967296) : nI a = nI b ↔ zCmp 0 a b = true := by
  rw [zn_eq ha hb]
  simp [zCmp]
theorem zc_ne {a b : Nat} (ha : a < 4294967296) (hb : b < 4294967296) : ¬ nI a = nI b ↔ zCmp 1 a b = true := by
  rw [zn_eq ha hb]
  simp [zCmp]
theorem zc_lt {a b : Nat} (ha : a < 4294967296) (hb : b < 4294967296) : nI a < nI b ↔ zCmp 2 a b = true := zn_lt ha hb
theorem zc_ge {a b : Nat} (ha : a < 4294967296) (hb : b < 4294967296) : nI b ≤ nI a ↔ zCmp 3 a b = true := by
  rw [zn_le hb ha]
  simp [zCmp]
theorem zc_gt {a b : Nat} (ha : a < 4294967296) (hb : b < 4294967296) : nI b < nI a ↔ zCmp 4 a b = true := zn_lt hb ha
theorem zc_le {a b k : Nat} (ha : a < 4294967296) (hb : b < 4294967296) : nI a ≤ nI b ↔ zCmp (k + 5) a b = true := by
  rw [zn_le ha hb]
  simp [zCmp]
theorem zSwt_get : ∀ (t : List (Nat × Nat)) (d k : Nat), t.map (fun q => q.1) = List.range' k t.length → ∀ x : Nat, zSwt x t d = if k ≤ x then ((t[x - k]?).map (fun q => q.2)).getD d else d := by
  intro t
  induction t with
  | nil =>
    intro d k _ x
    simp [zSwt]
  | cons q t ih =>
    intro d k h x
    rw [List.map_cons, List.length_cons, List.range'_succ] at h
    injection h with h1 h2
    unfold zSwt
    by_cases hx : x = q.1
    · rw [if_pos hx, if_pos (by omega), show x - k = 0 by omega]
      rfl
    · rw [if_neg hx, ih d (k + 1) h2 x]
      by_cases hk : k + 1 ≤ x
      · rw [if_pos hk, if_pos (by omega), show x - k = (x - (k + 1)) + 1 by omega, List.getElem?_cons_succ]
      · rw [if_neg hk, if_neg (by omega)]
theorem zn_toSg {a : Nat} (ha : a < 4294967296) : (nI a).toInt = zSg a := zn_toInt ha
theorem zSg_inj {a b : Nat} (ha : a < 4294967296) (hb : b < 4294967296) : zSg a = zSg b ↔ a = b := by
  unfold zSg
  split <;> split <;> omega
theorem zSwt_look : ∀ (t : List (Nat × Nat)) (df : Nat) (d : Int) (pc : Nat), (pc : Int) + d = (df : Int) → ∀ {a : Nat}, a < 4294967296 → (∀ q ∈ t, q.1 < 4294967296) → (pc : Int) + Op.lookupswitch.offset (t.map (fun q => (zSg q.1, (q.2 : Int) - (pc : Int)))) d (nI a).toInt = (zSwt a t df : Int) := by
  intro t
  induction t with
  | nil =>
    intro df d pc h a _ _
    exact h
  | cons q t ih =>
    intro df d pc h a ha hq
    rw [List.map_cons, Op.lookupswitch.offset_cons, zn_toSg ha]
    unfold zSwt
    have hq1 := hq q List.mem_cons_self
    by_cases hx : a = q.1
    · rw [if_pos hx, if_pos ((zSg_inj hq1 ha).mpr hx.symm)]
      omega
    · rw [if_neg hx, if_neg (fun z => hx ((zSg_inj hq1 ha).mp z).symm), ← zn_toSg ha]
      exact ih df d pc h ha (fun r hr => hq r (List.mem_cons_of_mem _ hr))
section ZB
variable {D : va_G} {G : Nat → ClassId} {base : Nat} {K : Nat → Nat} {m : zM} {H : Heap} {r kd n : Nat} {f : Nat → Nat}
theorem zP_obj (h : zP D G base K m H) (ha : zAt m r = some (kd, n, f)) (hk : kd < 6) : zV base K r = .ref (base + (r - 4294967297)) ∧ n = zNF kd ∧ t_OB (base + (r - 4294967297)) (D.1 kd) n (D.2 kd) H (fun j => zV base K (f j)) := by
  obtain ⟨hb, hm⟩ := zAt_some ha
  refine ⟨zV_cell hb, ?_⟩
  rcases h.2 _ _ hm with ⟨-, b, c⟩ | ⟨a, -⟩ | ⟨a, -⟩
  · exact ⟨b, c⟩
  · exact absurd a.1 (by show ¬ 7 ≤ kd; omega)
  · exact absurd a.1 (by show ¬ 9 ≤ kd; omega)
theorem zP_int (h : zP D G base K m H) (ha : zAt m r = some (kd, n, f)) (hk : 7 ≤ kd ∧ kd ≤ 8) : zV base K r = .ref (base + (r - 4294967297)) ∧ H[base + (r - 4294967297)]? = some (arrV (G kd) n (fun j => .int (nI (f j)))) := by
  obtain ⟨hb, hm⟩ := zAt_some ha
  refine ⟨zV_cell hb, ?_⟩
  rcases h.2 _ _ hm with ⟨a, -⟩ | ⟨a, b⟩ | ⟨a, -⟩
  · exact absurd a (by show ¬ kd < 6; omega)
  · exact b
  · exact absurd a.1 (by show ¬ 9 ≤ kd; omega)
theorem zP_refs (h : zP D G base K m H) (ha : zAt m r = some (kd, n, f)) (hk : 9 ≤ kd ∧ kd ≤ 11) : zV base K r = .ref (base + (r - 4294967297)) ∧ H[base + (r - 4294967297)]? = some (arrV (G kd) n (fun j => zV base K (f j))) := by
  obtain ⟨hb, hm⟩ := zAt_some ha
  refine ⟨zV_cell hb, ?_⟩
  rcases h.2 _ _ hm with ⟨a, -⟩ | ⟨a, b⟩ | ⟨a, b⟩
  · exact absurd a (by show ¬ kd < 6; omega)
  · exact absurd a.2 (by show ¬ kd ≤ 8; omega)
  · exact b
theorem zup_obj {v k : Nat} (j : Nat) : updV (fun j => zV base K (f j)) k (zV base K v) j = zV base K (zUp f k v j) := by
  unfold updV zUp
  by_cases h : j = k
  · rw [if_pos h, if_pos h]
  · rw [if_neg h, if_neg h]
theorem zup_int {v k : Nat} : updV (fun j => Value.int (nI (f j))) k (.int (nI v)) = fun j => Value.int (nI (zUp f k v j)) := by
  funext j
  unfold updV zUp
  by_cases h : j = k
  · rw [if_pos h, if_pos h]
  · rw [if_neg h, if_neg h]
theorem zup_ref {v k : Nat} : updV (fun j => zV base K (f j)) k (zV base K v) = fun j => zV base K (zUp f k v j) := funext fun j => zup_obj j
theorem zV_new (h : m.length < 100000) : zV base K (4294967297 + m.length) = .ref (base + m.length) := by
  rw [zV_cell (by omega), show 4294967297 + m.length - 4294967297 = m.length by omega]
theorem zlen_push {x : Nat × Nat × (Nat → Nat)} {n0 : Nat} (h : n0 ≤ m.length) : (m ++ [x]).length - n0 = m.length - n0 + 1 := by
  rw [List.length_append]
  show m.length + 1 - n0 = _
  omega
theorem zsl_push {x : Nat × Nat × (Nat → Nat)} {l0 : Nat} (h : l0 ≤ zSl m) : zSl (m ++ [x]) - l0 = zSl m - l0 + x.2.1 := by
  rw [zSl_push]
  omega
end ZB
theorem zcl {ci : Nat} (h : ci < 6) : vwCl[ci]? = some (zCn ci, zTT ci, zNF ci) := by
  rcases (show ci = 0 ∨ ci = 1 ∨ ci = 2 ∨ ci = 3 ∨ ci = 4 ∨ ci = 5 by omega) with rfl | rfl | rfl | rfl | rfl | rfl <;> rfl
theorem zTy_ok {ci k : Nat} (h : ci < 6) (hk : k < zNF ci) : parseFieldDescriptor (zTT ci k).2.2.1 = some (zTy ci k) := by
  rcases (show ci = 0 ∨ ci = 1 ∨ ci = 2 ∨ ci = 3 ∨ ci = 4 ∨ ci = 5 by omega) with rfl | rfl | rfl | rfl | rfl | rfl
  · exact tyX0_ok k hk
  · exact tyX1_ok k hk
  · exact tyX2_ok k hk
  · exact tyX3_ok k hk
  · exact tyX4_ok k hk
  · exact tyX5_ok k hk
theorem znm {ci : Nat} (h : ci < 6) : ∀ a, a < zNF ci → ∀ b, b < zNF ci → a ≠ b → (zTT ci a).2.1 ≠ (zTT ci b).2.1 := by
  rcases (show ci = 0 ∨ ci = 1 ∨ ci = 2 ∨ ci = 3 ∨ ci = 4 ∨ ci = 5 by omega) with rfl | rfl | rfl | rfl | rfl | rfl
  · exact nmX0
  · exact nmX1
  · exact nmX2
  · exact nmX3
  · exact nmX4
  · exact nmX5
theorem zapart {D : va_G} {tys : List (ClassId × FieldType)} {s : State} {args : Array Value} {ci : Nat} (hts : ∀ w ∈ zWT, w.before args s = true) (hK : va_K D vwCl tys s) (h : ci < 6) : ∀ x y, x < zNF ci → y < zNF ci → x ≠ y → (D.2 ci) x ≠ (D.2 ci) y :=
  va_apart (own := "") hts (zk_ws h) (zTy ci) (fun _ hk => zTy_ok h hk) (znm h) hK (zcl h)
theorem zTy_sh (ci k : Nat) : (zTag (zTy ci k) = 0 ∧ zTy ci k = .int) ∨ (zTag (zTy ci k) = 1 ∧ zTy ci k = .boolean) ∨ (zTag (zTy ci k) = 2 ∧ ((∃ t, zTy ci k = .array t) ∨ ∃ t, zTy ci k = .object t)) := by
  unfold zTy
  split
  · unfold tyX0; split <;> first | exact Or.inl ⟨rfl, rfl⟩ | exact Or.inr (Or.inl ⟨rfl, rfl⟩) | exact Or.inr (Or.inr ⟨rfl, Or.inl ⟨_, rfl⟩⟩) | exact Or.inr (Or.inr ⟨rfl, Or.inr ⟨_, rfl⟩⟩)
  · unfold tyX1; split <;> first | exact Or.inl ⟨rfl, rfl⟩ | exact Or.inr (Or.inl ⟨rfl, rfl⟩) | exact Or.inr (Or.inr ⟨rfl, Or.inl ⟨_, rfl⟩⟩) | exact Or.inr (Or.inr ⟨rfl, Or.inr ⟨_, rfl⟩⟩)
  · unfold tyX2; split <;> first | exact Or.inl ⟨rfl, rfl⟩ | exact Or.inr (Or.inl ⟨rfl, rfl⟩) | exact Or.inr (Or.inr ⟨rfl, Or.inl ⟨_, rfl⟩⟩) | exact Or.inr (Or.inr ⟨rfl, Or.inr ⟨_, rfl⟩⟩)
  · unfold tyX3; split <;> first | exact Or.inl ⟨rfl, rfl⟩ | exact Or.inr (Or.inl ⟨rfl, rfl⟩) | exact Or.inr (Or.inr ⟨rfl, Or.inl ⟨_, rfl⟩⟩) | exact Or.inr (Or.inr ⟨rfl, Or.inr ⟨_, rfl⟩⟩)
  · unfold tyX4; split <;> first | exact Or.inl ⟨rfl, rfl⟩ | exact Or.inr (Or.inl ⟨rfl, rfl⟩) | exact Or.inr (Or.inr ⟨rfl, Or.inl ⟨_, rfl⟩⟩) | exact Or.inr (Or.inr ⟨rfl, Or.inr ⟨_, rfl⟩⟩)
  · unfold tyX5; split <;> first | exact Or.inl ⟨rfl, rfl⟩ | exact Or.inr (Or.inl ⟨rfl, rfl⟩) | exact Or.inr (Or.inr ⟨rfl, Or.inl ⟨_, rfl⟩⟩) | exact Or.inr (Or.inr ⟨rfl, Or.inr ⟨_, rfl⟩⟩)
  · unfold tyX6; split <;> first | exact Or.inl ⟨rfl, rfl⟩ | exact Or.inr (Or.inl ⟨rfl, rfl⟩) | exact Or.inr (Or.inr ⟨rfl, Or.inl ⟨_, rfl⟩⟩) | exact Or.inr (Or.inr ⟨rfl, Or.inr ⟨_, rfl⟩⟩)
theorem zNar {base : Nat} {K : Nat → Nat} {ci k v : Nat} (h : zOkV (zTag (zTy ci k)) v = true) : narrow (zTy ci k) (zV base K v) = zV base K v ∧ fits (zTy ci k) (zV base K v) = true := by
  rcases zTy_sh ci k with ⟨e, t⟩ | ⟨e, t⟩ | ⟨e, t⟩
  · rw [e] at h
    rw [t, zV_int (of_decide_eq_true h)]
    exact ⟨rfl, rfl⟩
  · rw [e] at h
    have hv : v < 2 := of_decide_eq_true h
    rw [t, zV_int (by omega)]
    rcases (show v = 0 ∨ v = 1 by omega) with rfl | rfl
    · exact ⟨rfl, rfl⟩
    · exact ⟨rfl, rfl⟩
  · rw [e] at h
    simp only [zOkV, Bool.and_eq_true, decide_eq_true_eq] at h
    have hs : zV base K v = .null ∨ ∃ a, zV base K v = .ref a := by
      by_cases hv : v = 4294967296
      · rw [hv]
        exact Or.inl zV_null
      · exact Or.inr (zV_ref (by omega))
    rcases t with ⟨t, ht⟩ | ⟨t, ht⟩ <;> rcases hs with hs | ⟨a, hs⟩ <;> rw [ht, hs] <;> exact ⟨rfl, rfl⟩
theorem zDf_ok {base : Nat} {K : Nat → Nat} {ci : Nat} (k : Nat) : defaultValue (zTy ci k) = zV base K (zDf ci k) := by
  unfold zDf
  rcases zTy_sh ci k with ⟨e, t⟩ | ⟨e, t⟩ | ⟨e, t⟩
  · rw [e, t]
    rfl
  · rw [e, t]
    rfl
  · rw [e]
    rcases t with ⟨t, ht⟩ | ⟨t, ht⟩ <;> rw [ht] <;> rfl
theorem zCT_lt (j k : Nat) : (zCT j).getD k 0 < 4294967296 := by
  have h : ∀ x ∈ zCT j, x < 4294967296 := by
    unfold zCT
    split <;> decide
  rw [List.getD_eq_getElem?_getD]
  cases hq : (zCT j)[k]? with
  | none => exact (by decide : (0 : Nat) < 4294967296)
  | some x => exact h x (List.mem_of_getElem? hq)
theorem zKq (G : Nat → ClassId) {kd : Nat} (h9 : 9 ≤ kd) (h11 : kd ≤ 11) : [(G 7, FieldType.int), (G 8, FieldType.char), (G 9, FieldType.object RX0), (G 10, FieldType.object RX2), (G 11, FieldType.object RX1)][kd - 7]? = some (G kd, FieldType.object (zCn (zEl kd))) := by
  rcases (show kd = 9 ∨ kd = 10 ∨ kd = 11 by omega) with rfl | rfl | rfl <;> rfl
theorem zEl_lt (kd : Nat) : zEl kd < 6 := by
  unfold zEl
  split <;> decide
theorem zAO {s : State} {kd : Nat} (h : va_AO RX0 s ∧ va_AO RX1 s ∧ va_AO RX2 s) (h9 : 9 ≤ kd) (h11 : kd ≤ 11) : va_AO (zCn (zEl kd)) s := by
  rcases (show kd = 9 ∨ kd = 10 ∨ kd = 11 by omega) with rfl | rfl | rfl
  · exact h.1
  · exact h.2.2
  · exact h.2.1
theorem zIni_in {C : String} (h : Cond.initialized C ∈ lw_tbl) : Cond.initialized C ∈ zWT := List.mem_filter.mpr ⟨h, rfl⟩
section ZW
variable {p : Program} {l : Launch} {e : Env} {R : Room} {s : State} {m : MethodId} {args : Array Value} {below : List Frame} {meth : Method} {c : Code} {H : Heap} {locs : List Loc} {cells slots : Nat} {Q : State → Prop}
variable {pc : Nat} {ls : Array Slot} {rest : List Value}
theorem zNFW : nativeFrameWords "java/lang/System" "arraycopy" 5 = 7 := by decide +kernel
/-- a copy from one int array to another, whatever else the heap holds -/
theorem zW_copy {cc : ByteArray} (hexec : p.tables.exec = Jvm.exec) (hb : c.code = cc) (hml : c.maxLocals = ls.size) {own : String} {index : Nat} (hown : s.vm.findClass own = some m.cls) (hlink : (Cond.methodLink own index arraycopyName).before args s = true) (hnat : (Cond.native arraycopyName).before args s = true) (hstat : (Cond.static arraycopyName).before args s = true) (hini : (Cond.initialized "java/lang/System").before args s = true)
    {a0 a : Nat} {c0 c1 : ClassId} {n0 n1 : Nat} {f g : Nat → Int32} (hc0 : H[a0]? = some (arrV c0 n0 (fun j => .int (f j)))) (hc1 : H[a]? = some (arrV c1 n1 (fun j => .int (g j)))) (hA0 : ArrOfT s c0 .int) (hA1 : ArrOfT s c1 .int)
    {sp dp n : Int32} (h1 : ¬ sp < 0) (h2 : ¬ dp < 0) (h3 : ¬ n < 0) (h4 : sp.toNatClampNeg + n.toNatClampNeg ≤ n0) (h5 : dp.toNatClampNeg + n.toNatClampNeg ≤ n1)
    (hframes : 1 ≤ R.frames) (hlocals : (rest.map fun v => v.category).sum + (nativeFrameWords "java/lang/System" "arraycopy" 5 + 11) ≤ R.locals) (hdg : decode cc pc = .ok (.invokestatic index, 3))
    (kk : ∀ (H1 : Heap) (locs1 : List Loc), H1.size = H.size → H1[a]? = some (arrV c1 n1 (fun j => .int (va_cpy f g sp.toNatClampNeg dp.toNatClampNeg n.toNatClampNeg j))) → (∀ q : Nat, q ≠ a → H1[q]? = H[q]?) → (∀ q ∈ locs1, q ∈ locs ∨ q.base = a) → W p l e R s m args below meth c H1 locs1 cells slots Q (F0 m (pc + 3) ls rest)) : W p l e R s m args below meth c H locs cells slots Q (F0 m pc ls (.int n :: .int dp :: .ref a :: .int sp :: .ref a0 :: rest)) := by
  have nn : ∀ z : Int32, ¬ z < 0 → z.toInt = (z.toNatClampNeg : Int) := by
    intro z hz
    have hz0 : (0 : Int) ≤ z.toInt := by
      have := Int32.not_lt.mp hz
      simpa using Int32.le_iff_toInt_le.mp this
    show z.toInt = ((z.toInt.toNat : Nat) : Int)
    omega
  intro T hT X
  obtain ⟨-, k0, hk0, cm0, hkk0⟩ := hA0 n0 (fun j => .int (f j))
  obtain ⟨-, k1, hk1, cm1, hkk1⟩ := hA1 n1 (fun j => .int (g j))
  obtain ⟨vm', X', step⟩ := X.arraycopy hexec hown hlink hnat hstat hini (src := a0) (dst := a) (cs := arrV c0 n0 (fun j => .int (f j))) (cd := arrV c1 n1 (fun j => .int (g j))) (srcPos := sp) (destPos := dp) (n := n) (by rw [hT]; exact hc0) (by rw [hT]; exact hc1)
    (fun _ h => by cases h) (fun _ h => by cases h) (fun h => by cases h) (fun h => by cases h) hk0 hk1 hkk0 hkk1 (by simp [show refKind FieldType.int = false from rfl]) h1 h2 h3
    (by rw [nn sp h1, nn n h3]; show ¬ _ > ((arrV c0 n0 (fun j => .int (f j))).slots.size : Int); rw [arrV_size]; omega)
    (by rw [nn dp h2, nn n h3]; show ¬ _ > ((arrV c1 n1 (fun j => .int (g j))).slots.size : Int); rw [arrV_size]; omega)
    (fun vm₁ _ i hi => by
      have e : (arrV c0 n0 (fun j => .int (f j))).slots.getD (sp.toNatClampNeg + i) .null = .int (f (sp.toNatClampNeg + i)) := by
        rw [Array.getD_eq_getD_getElem?, arrV_read _ _ (by omega)]
        rfl
      refine ⟨?_, ?_⟩
      · rw [e]
        rfl
      · rw [e]
        exact trivial)
    (g := F0 m pc ls (.int n :: .int dp :: .ref a :: .int sp :: .ref a0 :: rest)) rfl (by rw [hml]) (rest := rest) rfl (by rw [hb]; exact hdg) hframes (by show 2 * 0 + _ + _ ≤ _; omega)
  have e1 : copied (arrV c0 n0 (fun j => .int (f j))) (arrV c1 n1 (fun j => .int (g j))) sp dp n = arrV c1 n1 (fun j => .int (va_cpy f g sp.toNatClampNeg dp.toNatClampNeg n.toNatClampNeg j)) := va_copied (fun z => .int z) c0 c1 f g h4
  rw [e1] at X' step
  have hl : a < H.size := (Array.getElem?_eq_some_iff.mp hc1).1
  have hheap : ((T.setVm vm').setCell a (arrV c1 n1 (fun j => .int (va_cpy f g sp.toNatClampNeg dp.toNatClampNeg n.toNatClampNeg j)))).heap = H.setIfInBounds a (arrV c1 n1 (fun j => .int (va_cpy f g sp.toNatClampNeg dp.toNatClampNeg n.toNatClampNeg j))) := by rw [← hT]; rfl
  obtain ⟨t, a1, b1⟩ := kk _ _ (by simp) (show (H.setIfInBounds a _)[a]? = some _ by simp [Array.getElem?_setIfInBounds, hl]) (fun q hq => by simp [Array.getElem?_setIfInBounds, Ne.symm hq]) (fun q hq => by
      rcases List.mem_append.mp hq with h | h
      · exact Or.inl h
      · obtain ⟨z, -, hz⟩ := List.mem_map.mp h
        exact Or.inr (by rw [← hz])) _ hheap X'
  exact ⟨t, step t a1, b1⟩
end ZW
theorem zcpy_eq {f g : Nat → Nat} {sp dp n j : Nat} : nI (zCpy f g sp dp n j) = va_cpy (fun j => nI (f j)) (fun j => nI (g j)) sp dp n j := by
  unfold zCpy va_cpy
  by_cases h : dp ≤ j ∧ j < dp + n
  · rw [if_pos h, if_pos h]
  · rw [if_neg h, if_neg h]
def zGl (p : Program) (l : Launch) (e : Env) (R : Room) (s : State) (mid : MethodId) (args : Array Value) (below : List Frame) (meth : Method) (c : Code) (Q : State → Prop) (base n0 l0 : Nat) (K : Nat → Nat) (D : va_G) (G : Nat → ClassId) (i pc : Nat) (ls st : List Nat) (m : zM) : Prop :=
  ∀ (H : Heap) (locs : List Loc) (lsM : Array Slot), zFr base K ls lsM (zMaxL i) → zRel D G base K s m H locs → W p l e R s mid args below meth c H locs (m.length - n0) (zSl m - l0) Q (F0 mid pc lsM (st.map (zV base K)))
section ZA
variable {p : Program} {l : Launch} {e : Env} {R : Room} {s : State} {mid : MethodId} {args : Array Value} {below : List Frame} {meth : Method} {c : Code} {Q : State → Prop}
variable {sc : List Nat} {base n0 l0 : Nat} {K : Nat → Nat} {D : va_G} {G : Nat → ClassId} {i pc w pc' : Nat} {ls st ls' st' : List Nat} {m m' : zM}
theorem zs_1 (hc : zCtx sc p R s mid args meth c base K D G i) (hop : zop w = 1) (hok : zOkI i pc w = true) (hn : n0 ≤ m.length ∧ l0 ≤ zSl m) (hr : m'.length - n0 ≤ R.cells ∧ zSl m' - l0 ≤ R.slots) (h : zOne sc i w pc ls st m = some (.inl (pc', ls', st', m'))) (kk : zGl p l e R s mid args below meth c Q base n0 l0 K D G i pc' ls' st' m') : zGl p l e R s mid args below meth c Q base n0 l0 K D G i pc ls st m := by
  obtain ⟨⟨hx, hb, hml⟩, ⟨hrt, hlk⟩, ⟨hown, hnm⟩, hts, ⟨hKn, hSt⟩, hfr, hlo⟩ := hc
  intro H locs lsM hF hR
  simp only [zOne, hop, ↓reduceIte, Nat.reduceEqDiff, zNx, or_true, true_or, or_false, false_or, or_self] at h
  cases h
  have kk := kk H locs lsM hF hR
  rw [List.map_cons, zV_int (za_lt w)] at kk
  simp only [zOkI, hop, ↓reduceIte] at hok
  split at hok
  · simp only [Bool.and_eq_true, decide_eq_true_eq] at hok
    obtain ⟨h1, h2, h3⟩ := hok
    rw [h2] at kk
    exact lv_iconst hx hb h1 h3 kk
  · simp only [Bool.and_eq_true, decide_eq_true_eq] at hok
    obtain ⟨h1, h2, h3⟩ := hok
    rw [h2] at kk
    exact lv_bipush hx hb h1 h3 kk
  · simp only [Bool.and_eq_true, decide_eq_true_eq] at hok
    obtain ⟨h1, h2, h3⟩ := hok
    rw [h2] at kk
    exact lv_sipush hx hb h1 h3 kk
  · simp only [Bool.and_eq_true, decide_eq_true_eq] at hok
    obtain ⟨h1, h2, h3⟩ := hok
    rw [h2] at kk
    exact lv_ldc hx hb hown (hts _ (zHas_in h3)) h1 kk
theorem zs_2 (hc : zCtx sc p R s mid args meth c base K D G i) (hop : zop w = 2) (hok : zOkI i pc w = true) (hn : n0 ≤ m.length ∧ l0 ≤ zSl m) (hr : m'.length - n0 ≤ R.cells ∧ zSl m' - l0 ≤ R.slots) (h : zOne sc i w pc ls st m = some (.inl (pc', ls', st', m'))) (kk : zGl p l e R s mid args below meth c Q base n0 l0 K D G i pc' ls' st' m') : zGl p l e R s mid args below meth c Q base n0 l0 K D G i pc ls st m := by
  obtain ⟨⟨hx, hb, hml⟩, ⟨hrt, hlk⟩, ⟨hown, hnm⟩, hts, ⟨hKn, hSt⟩, hfr, hlo⟩ := hc
  intro H locs lsM hF hR
  simp only [zOne, hop, ↓reduceIte, Nat.reduceEqDiff, zNx, or_true, true_or, or_false, false_or, or_self] at h
  split at h
  · rename_i v hv
    split at h
    · rename_i hlt
      cases h
      have kk := kk H locs lsM hF hR
      have hat := zFr_at hF hv (by omega)
      rw [zV_int hlt] at hat
      rw [List.map_cons, zV_int hlt] at kk
      simp only [zOkI, hop, ↓reduceIte, Nat.reduceEqDiff] at hok
      split at hok
      · simp only [Bool.and_eq_true, decide_eq_true_eq] at hok
        obtain ⟨h1, h2, h3⟩ := hok
        rw [h2] at kk
        exact lv_iload_n hx hb h1 (Nat.mod_eq_of_lt h3) hat kk
      · simp only [Bool.and_eq_true, decide_eq_true_eq] at hok
        obtain ⟨h1, h2⟩ := hok
        rw [h2] at kk
        exact lv_iload hx hb h1 hat kk
    · cases h
  · cases h
theorem zs_3 (hc : zCtx sc p R s mid args meth c base K D G i) (hop : zop w = 3) (hok : zOkI i pc w = true) (hn : n0 ≤ m.length ∧ l0 ≤ zSl m) (hr : m'.length - n0 ≤ R.cells ∧ zSl m' - l0 ≤ R.slots) (h : zOne sc i w pc ls st m = some (.inl (pc', ls', st', m'))) (kk : zGl p l e R s mid args below meth c Q base n0 l0 K D G i pc' ls' st' m') : zGl p l e R s mid args below meth c Q base n0 l0 K D G i pc ls st m := by
  obtain ⟨⟨hx, hb, hml⟩, ⟨hrt, hlk⟩, ⟨hown, hnm⟩, hts, ⟨hKn, hSt⟩, hfr, hlo⟩ := hc
  intro H locs lsM hF hR
  simp only [zOne, hop, ↓reduceIte, Nat.reduceEqDiff, zNx, or_true, true_or, or_false, false_or, or_self] at h
  split at h
  · rename_i v hv
    split at h
    · rename_i hlt
      cases h
      have kk := kk H locs lsM hF hR
      have hat := zFr_at hF hv (by omega)
      obtain ⟨x, ex⟩ := zV_ref (base := base) (K := K) hlt.1
      rw [ex] at hat
      rw [List.map_cons, ex] at kk
      simp only [zOkI, hop, ↓reduceIte, Nat.reduceEqDiff] at hok
      split at hok
      · simp only [Bool.and_eq_true, decide_eq_true_eq] at hok
        obtain ⟨h1, h2, h3⟩ := hok
        rw [h2] at kk
        exact lv_aload_n hx hb h1 (Nat.mod_eq_of_lt h3) hat kk
      · simp only [Bool.and_eq_true, decide_eq_true_eq] at hok
        obtain ⟨h1, h2⟩ := hok
        rw [h2] at kk
        exact lv_aload hx hb h1 hat kk
    · cases h
  · cases h
theorem zs_4 (hc : zCtx sc p R s mid args meth c base K D G i) (hop : zop w = 4) (hok : zOkI i pc w = true) (hn : n0 ≤ m.length ∧ l0 ≤ zSl m) (hr : m'.length - n0 ≤ R.cells ∧ zSl m' - l0 ≤ R.slots) (h : zOne sc i w pc ls st m = some (.inl (pc', ls', st', m'))) (kk : zGl p l e R s mid args below meth c Q base n0 l0 K D G i pc' ls' st' m') : zGl p l e R s mid args below meth c Q base n0 l0 K D G i pc ls st m := by
  obtain ⟨⟨hx, hb, hml⟩, ⟨hrt, hlk⟩, ⟨hown, hnm⟩, hts, ⟨hKn, hSt⟩, hfr, hlo⟩ := hc
  intro H locs lsM hF hR
  rcases st with _ | ⟨a, st⟩
  · simp [zOne, hop] at h
  simp only [zOne, hop, ↓reduceIte, Nat.reduceEqDiff, zNx, or_true, true_or, or_false, false_or, or_self] at h
  split at h
  · rename_i hlt
    cases h
    have hlz := hlt.2
    rw [hF.1] at hlz
    rw [List.map_cons, zV_int hlt.1]
    simp only [zOkI, hop, ↓reduceIte, Nat.reduceEqDiff] at hok
    split at hok
    · simp only [Bool.and_eq_true, decide_eq_true_eq] at hok
      obtain ⟨h1, h2, h3⟩ := hok
      rw [h2] at kk
      exact lv_istore_n hx hb h1 (Nat.mod_eq_of_lt h3) hF.2 hlz rfl (fun ls' h' => kk H locs ls' (zFr_set hF (by rw [zV_int hlt.1]; exact h')) hR)
    · simp only [Bool.and_eq_true, decide_eq_true_eq] at hok
      obtain ⟨h1, h2⟩ := hok
      rw [h2] at kk
      exact lv_istore hx hb h1 hF.2 hlz rfl (fun ls' h' => kk H locs ls' (zFr_set hF (by rw [zV_int hlt.1]; exact h')) hR)
  · cases h
theorem zs_5 (hc : zCtx sc p R s mid args meth c base K D G i) (hop : zop w = 5) (hok : zOkI i pc w = true) (hn : n0 ≤ m.length ∧ l0 ≤ zSl m) (hr : m'.length - n0 ≤ R.cells ∧ zSl m' - l0 ≤ R.slots) (h : zOne sc i w pc ls st m = some (.inl (pc', ls', st', m'))) (kk : zGl p l e R s mid args below meth c Q base n0 l0 K D G i pc' ls' st' m') : zGl p l e R s mid args below meth c Q base n0 l0 K D G i pc ls st m := by
  obtain ⟨⟨hx, hb, hml⟩, ⟨hrt, hlk⟩, ⟨hown, hnm⟩, hts, ⟨hKn, hSt⟩, hfr, hlo⟩ := hc
  intro H locs lsM hF hR
  rcases st with _ | ⟨a, st⟩
  · simp [zOne, hop] at h
  simp only [zOne, hop, ↓reduceIte, Nat.reduceEqDiff, zNx, or_true, true_or, or_false, false_or, or_self] at h
  split at h
  · rename_i hlt
    cases h
    have hlz := hlt.2
    rw [hF.1] at hlz
    obtain ⟨x, ex⟩ := zV_ref (base := base) (K := K) hlt.1.1
    rw [List.map_cons, ex]
    simp only [zOkI, hop, ↓reduceIte, Nat.reduceEqDiff] at hok
    split at hok
    · simp only [Bool.and_eq_true, decide_eq_true_eq] at hok
      obtain ⟨h1, h2, h3⟩ := hok
      rw [h2] at kk
      exact lv_astore_n hx hb h1 (Nat.mod_eq_of_lt h3) hF.2 hlz rfl (fun ls' h' => kk H locs ls' (zFr_set hF (by rw [ex]; exact h')) hR)
    · simp only [Bool.and_eq_true, decide_eq_true_eq] at hok
      obtain ⟨h1, h2⟩ := hok
      rw [h2] at kk
      exact lv_astore hx hb h1 hF.2 hlz rfl (fun ls' h' => kk H locs ls' (zFr_set hF (by rw [ex]; exact h')) hR)
  · cases h
theorem zs_6 (hc : zCtx sc p R s mid args meth c base K D G i) (hop : zop w = 6) (hok : zOkI i pc w = true) (hn : n0 ≤ m.length ∧ l0 ≤ zSl m) (hr : m'.length - n0 ≤ R.cells ∧ zSl m' - l0 ≤ R.slots) (h : zOne sc i w pc ls st m = some (.inl (pc', ls', st', m'))) (kk : zGl p l e R s mid args below meth c Q base n0 l0 K D G i pc' ls' st' m') : zGl p l e R s mid args below meth c Q base n0 l0 K D G i pc ls st m := by
  obtain ⟨⟨hx, hb, hml⟩, ⟨hrt, hlk⟩, ⟨hown, hnm⟩, hts, ⟨hKn, hSt⟩, hfr, hlo⟩ := hc
  intro H locs lsM hF hR
  simp only [zOne, hop, ↓reduceIte, Nat.reduceEqDiff, zNx, or_true, true_or, or_false, false_or, or_self] at h
  simp only [zOkI, hop, ↓reduceIte, Nat.reduceEqDiff, Bool.and_eq_true, decide_eq_true_eq] at hok
  split at h
  · rename_i v hv
    split at h
    · rename_i hlt
      cases h
      obtain ⟨k, hk⟩ := List.getElem?_of_mem (zLv_mem.mpr ⟨v, hv, by omega, rfl⟩ : (zb w, zV base K v) ∈ zLv base K _)
      rw [zV_int hlt] at hk
      have hlz := (List.getElem?_eq_some_iff.mp hv).1
      rw [hF.1] at hlz
      exact lv_iinc (v := nI ((v + za w) % 4294967296)) hx hb hok.1 hF.2 hk (by rw [hok.2, zn_add]) hlz rfl (fun ls' h' => kk H locs ls' (zFr_set hF (by rw [zV_int (Nat.mod_lt _ (by decide))]; exact h')) hR)
    · cases h
  · cases h
theorem zs_7 (hc : zCtx sc p R s mid args meth c base K D G i) (hop : zop w = 7) (hok : zOkI i pc w = true) (hn : n0 ≤ m.length ∧ l0 ≤ zSl m) (hr : m'.length - n0 ≤ R.cells ∧ zSl m' - l0 ≤ R.slots) (h : zOne sc i w pc ls st m = some (.inl (pc', ls', st', m'))) (kk : zGl p l e R s mid args below meth c Q base n0 l0 K D G i pc' ls' st' m') : zGl p l e R s mid args below meth c Q base n0 l0 K D G i pc ls st m := by
  obtain ⟨⟨hx, hb, hml⟩, ⟨hrt, hlk⟩, ⟨hown, hnm⟩, hts, ⟨hKn, hSt⟩, hfr, hlo⟩ := hc
  intro H locs lsM hF hR
  rcases st with _ | ⟨b, _ | ⟨a, st⟩⟩
  · simp [zOne, hop] at h
  · simp [zOne, hop] at h
  simp only [zOne, hop, ↓reduceIte, Nat.reduceEqDiff, zNx, or_true, true_or, or_false, false_or, or_self] at h
  simp only [zOkI, hop, ↓reduceIte, Nat.reduceEqDiff, Bool.and_eq_true, decide_eq_true_eq] at hok
  split at h
  · rename_i hlt
    cases h
    have kk := kk H locs lsM hF hR
    rw [List.map_cons, zV_int (Nat.mod_lt _ (by decide)), zn_add] at kk
    rw [List.map_cons, List.map_cons, zV_int (show a < 4294967296 by omega), zV_int (show b < 4294967296 by omega)]
    exact lv_iadd hx hb hok kk
  · cases h
theorem zs_8 (hc : zCtx sc p R s mid args meth c base K D G i) (hop : zop w = 8) (hok : zOkI i pc w = true) (hn : n0 ≤ m.length ∧ l0 ≤ zSl m) (hr : m'.length - n0 ≤ R.cells ∧ zSl m' - l0 ≤ R.slots) (h : zOne sc i w pc ls st m = some (.inl (pc', ls', st', m'))) (kk : zGl p l e R s mid args below meth c Q base n0 l0 K D G i pc' ls' st' m') : zGl p l e R s mid args below meth c Q base n0 l0 K D G i pc ls st m := by
  obtain ⟨⟨hx, hb, hml⟩, ⟨hrt, hlk⟩, ⟨hown, hnm⟩, hts, ⟨hKn, hSt⟩, hfr, hlo⟩ := hc
  intro H locs lsM hF hR
  rcases st with _ | ⟨b, _ | ⟨a, st⟩⟩
  · simp [zOne, hop] at h
  · simp [zOne, hop] at h
  simp only [zOne, hop, ↓reduceIte, Nat.reduceEqDiff, zNx, or_true, true_or, or_false, false_or, or_self] at h
  simp only [zOkI, hop, ↓reduceIte, Nat.reduceEqDiff, Bool.and_eq_true, decide_eq_true_eq] at hok
  split at h
  · rename_i hlt
    cases h
    have kk := kk H locs lsM hF hR
    rw [List.map_cons, zV_int (Nat.mod_lt _ (by decide)), zn_sub hlt.2] at kk
    rw [List.map_cons, List.map_cons, zV_int (show a < 4294967296 by omega), zV_int (show b < 4294967296 by omega)]
    exact lv_isub hx hb hok kk
  · cases h
theorem zs_9 (hc : zCtx sc p R s mid args meth c base K D G i) (hop : zop w = 9) (hok : zOkI i pc w = true) (hn : n0 ≤ m.length ∧ l0 ≤ zSl m) (hr : m'.length - n0 ≤ R.cells ∧ zSl m' - l0 ≤ R.slots) (h : zOne sc i w pc ls st m = some (.inl (pc', ls', st', m'))) (kk : zGl p l e R s mid args below meth c Q base n0 l0 K D G i pc' ls' st' m') : zGl p l e R s mid args below meth c Q base n0 l0 K D G i pc ls st m := by
  obtain ⟨⟨hx, hb, hml⟩, ⟨hrt, hlk⟩, ⟨hown, hnm⟩, hts, ⟨hKn, hSt⟩, hfr, hlo⟩ := hc
  intro H locs lsM hF hR
  rcases st with _ | ⟨b, _ | ⟨a, st⟩⟩
  · simp [zOne, hop] at h
  · simp [zOne, hop] at h
  simp only [zOne, hop, ↓reduceIte, Nat.reduceEqDiff, zNx, or_true, true_or, or_false, false_or, or_self] at h
  simp only [zOkI, hop, ↓reduceIte, Nat.reduceEqDiff, Bool.and_eq_true, decide_eq_true_eq] at hok
  split at h
  · rename_i hlt
    cases h
    have kk := kk H locs lsM hF hR
    rw [List.map_cons, zV_int (Nat.mod_lt _ (by decide)), zn_mul] at kk
    rw [List.map_cons, List.map_cons, zV_int (show a < 4294967296 by omega), zV_int (show b < 4294967296 by omega)]
    exact lv_imul hx hb hok kk
  · cases h
theorem zs_10 (hc : zCtx sc p R s mid args meth c base K D G i) (hop : zop w = 10) (hok : zOkI i pc w = true) (hn : n0 ≤ m.length ∧ l0 ≤ zSl m) (hr : m'.length - n0 ≤ R.cells ∧ zSl m' - l0 ≤ R.slots) (h : zOne sc i w pc ls st m = some (.inl (pc', ls', st', m'))) (kk : zGl p l e R s mid args below meth c Q base n0 l0 K D G i pc' ls' st' m') : zGl p l e R s mid args below meth c Q base n0 l0 K D G i pc ls st m := by
  obtain ⟨⟨hx, hb, hml⟩, ⟨hrt, hlk⟩, ⟨hown, hnm⟩, hts, ⟨hKn, hSt⟩, hfr, hlo⟩ := hc
  intro H locs lsM hF hR
  rcases st with _ | ⟨b, _ | ⟨a, st⟩⟩
  · simp [zOne, hop] at h
  · simp [zOne, hop] at h
  simp only [zOne, hop, ↓reduceIte, Nat.reduceEqDiff, zNx, or_true, true_or, or_false, false_or, or_self] at h
  simp only [zOkI, hop, ↓reduceIte, Nat.reduceEqDiff, Bool.and_eq_true, decide_eq_true_eq] at hok
  split at h
  · rename_i hlt
    cases h
    have kk := kk H locs lsM hF hR
    rw [List.map_cons, zV_int (Nat.lt_of_le_of_lt (Nat.div_le_self a b) (by omega)), ← pk_div (by omega) hlt.2.1 (by omega)] at kk
    rw [List.map_cons, List.map_cons, zV_int (show a < 4294967296 by omega), zV_int (show b < 4294967296 by omega)]
    exact lv_idiv hx hb hok (nI_ne0 hlt.2.1 (by omega)) kk
  · cases h
theorem zs_11 (hc : zCtx sc p R s mid args meth c base K D G i) (hop : zop w = 11) (hok : zOkI i pc w = true) (hn : n0 ≤ m.length ∧ l0 ≤ zSl m) (hr : m'.length - n0 ≤ R.cells ∧ zSl m' - l0 ≤ R.slots) (h : zOne sc i w pc ls st m = some (.inl (pc', ls', st', m'))) (kk : zGl p l e R s mid args below meth c Q base n0 l0 K D G i pc' ls' st' m') : zGl p l e R s mid args below meth c Q base n0 l0 K D G i pc ls st m := by
  obtain ⟨⟨hx, hb, hml⟩, ⟨hrt, hlk⟩, ⟨hown, hnm⟩, hts, ⟨hKn, hSt⟩, hfr, hlo⟩ := hc
  intro H locs lsM hF hR
  rcases st with _ | ⟨b, _ | ⟨a, st⟩⟩
  · simp [zOne, hop] at h
  · simp [zOne, hop] at h
  simp only [zOne, hop, ↓reduceIte, Nat.reduceEqDiff, zNx, or_true, true_or, or_false, false_or, or_self] at h
  simp only [zOkI, hop, ↓reduceIte, Nat.reduceEqDiff, Bool.and_eq_true, decide_eq_true_eq] at hok
  split at h
  · rename_i hlt
    cases h
    have kk := kk H locs lsM hF hR
    rw [List.map_cons, zV_int (Nat.lt_of_le_of_lt (Nat.mod_le a b) (by omega)), ← pk_rem (by omega) hlt.2.1 (by omega)] at kk
    rw [List.map_cons, List.map_cons, zV_int (show a < 4294967296 by omega), zV_int (show b < 4294967296 by omega)]
    exact lv_irem hx hb hok (nI_ne0 hlt.2.1 (by omega)) kk
  · cases h
theorem zs_12 (hc : zCtx sc p R s mid args meth c base K D G i) (hop : zop w = 12) (hok : zOkI i pc w = true) (hn : n0 ≤ m.length ∧ l0 ≤ zSl m) (hr : m'.length - n0 ≤ R.cells ∧ zSl m' - l0 ≤ R.slots) (h : zOne sc i w pc ls st m = some (.inl (pc', ls', st', m'))) (kk : zGl p l e R s mid args below meth c Q base n0 l0 K D G i pc' ls' st' m') : zGl p l e R s mid args below meth c Q base n0 l0 K D G i pc ls st m := by
  obtain ⟨⟨hx, hb, hml⟩, ⟨hrt, hlk⟩, ⟨hown, hnm⟩, hts, ⟨hKn, hSt⟩, hfr, hlo⟩ := hc
  intro H locs lsM hF hR
  rcases st with _ | ⟨b, _ | ⟨a, st⟩⟩
  · simp [zOne, hop] at h
  · simp [zOne, hop] at h
  simp only [zOne, hop, ↓reduceIte, Nat.reduceEqDiff, zNx, or_true, true_or, or_false, false_or, or_self] at h
  simp only [zOkI, hop, ↓reduceIte, Nat.reduceEqDiff, Bool.and_eq_true, decide_eq_true_eq] at hok
  split at h
  · rename_i hlt
    cases h
    have kk := kk H locs lsM hF hR
    rw [List.map_cons, zV_int (Nat.lt_of_le_of_lt Nat.and_le_left hlt.1), zn_and hlt.1 hlt.2] at kk
    rw [List.map_cons, List.map_cons, zV_int (show a < 4294967296 by omega), zV_int (show b < 4294967296 by omega)]
    exact lv_iand hx hb hok kk
  · cases h
theorem zs_47 (hc : zCtx sc p R s mid args meth c base K D G i) (hop : zop w = 47) (hok : zOkI i pc w = true) (hn : n0 ≤ m.length ∧ l0 ≤ zSl m) (hr : m'.length - n0 ≤ R.cells ∧ zSl m' - l0 ≤ R.slots) (h : zOne sc i w pc ls st m = some (.inl (pc', ls', st', m'))) (kk : zGl p l e R s mid args below meth c Q base n0 l0 K D G i pc' ls' st' m') : zGl p l e R s mid args below meth c Q base n0 l0 K D G i pc ls st m := by
  obtain ⟨⟨hx, hb, hml⟩, ⟨hrt, hlk⟩, ⟨hown, hnm⟩, hts, ⟨hKn, hSt⟩, hfr, hlo⟩ := hc
  intro H locs lsM hF hR
  rcases st with _ | ⟨b, _ | ⟨a, st⟩⟩
  · simp [zOne, hop] at h
  · simp [zOne, hop] at h
  simp only [zOne, hop, ↓reduceIte, Nat.reduceEqDiff, zNx, or_true, true_or, or_false, false_or, or_self] at h
  simp only [zOkI, hop, ↓reduceIte, Nat.reduceEqDiff, Bool.and_eq_true, decide_eq_true_eq] at hok
  split at h
  · rename_i hlt
    cases h
    have kk := kk H locs lsM hF hR
    rw [List.map_cons, zV_int zShr_lt, zn_shr] at kk
    rw [List.map_cons, List.map_cons, zV_int (show a < 4294967296 by omega), zV_int (show b < 4294967296 by omega)]
    exact lv_ishr hx hb hok kk
  · cases h
theorem zs_13 (hc : zCtx sc p R s mid args meth c base K D G i) (hop : zop w = 13) (hok : zOkI i pc w = true) (hn : n0 ≤ m.length ∧ l0 ≤ zSl m) (hr : m'.length - n0 ≤ R.cells ∧ zSl m' - l0 ≤ R.slots) (h : zOne sc i w pc ls st m = some (.inl (pc', ls', st', m'))) (kk : zGl p l e R s mid args below meth c Q base n0 l0 K D G i pc' ls' st' m') : zGl p l e R s mid args below meth c Q base n0 l0 K D G i pc ls st m := by
  obtain ⟨⟨hx, hb, hml⟩, ⟨hrt, hlk⟩, ⟨hown, hnm⟩, hts, ⟨hKn, hSt⟩, hfr, hlo⟩ := hc
  intro H locs lsM hF hR
  rcases st with _ | ⟨a, st⟩
  · simp [zOne, hop] at h
  simp only [zOne, hop, ↓reduceIte, Nat.reduceEqDiff, zNx, or_true, true_or, or_false, false_or, or_self] at h
  simp only [zOkI, hop, ↓reduceIte, Nat.reduceEqDiff, Bool.and_eq_true, decide_eq_true_eq] at hok
  split at h
  · rename_i hlt
    cases h
    have kk := kk H locs lsM hF hR
    rw [List.map_cons, zV_int (by omega)] at kk
    rw [List.map_cons, zV_int hlt]
    refine lv_i2c hx hb hok ?_ kk
    rw [pk_char, pk_tn hlt]
  · cases h
theorem zs_14 (hc : zCtx sc p R s mid args meth c base K D G i) (hop : zop w = 14) (hok : zOkI i pc w = true) (hn : n0 ≤ m.length ∧ l0 ≤ zSl m) (hr : m'.length - n0 ≤ R.cells ∧ zSl m' - l0 ≤ R.slots) (h : zOne sc i w pc ls st m = some (.inl (pc', ls', st', m'))) (kk : zGl p l e R s mid args below meth c Q base n0 l0 K D G i pc' ls' st' m') : zGl p l e R s mid args below meth c Q base n0 l0 K D G i pc ls st m := by
  obtain ⟨⟨hx, hb, hml⟩, ⟨hrt, hlk⟩, ⟨hown, hnm⟩, hts, ⟨hKn, hSt⟩, hfr, hlo⟩ := hc
  intro H locs lsM hF hR
  rcases st with _ | ⟨a, st⟩
  · simp [zOne, hop] at h
  simp only [zOne, hop, ↓reduceIte, Nat.reduceEqDiff, zNx, or_true, true_or, or_false, false_or, or_self] at h
  simp only [zOkI, hop, ↓reduceIte, Nat.reduceEqDiff, Bool.and_eq_true, decide_eq_true_eq] at hok
  split at h
  · rename_i hlt
    cases h
    have kk := kk H locs lsM hF hR
    simp only [List.map_cons] at kk ⊢
    exact lv_dup hx hb hok zV_cat kk
  · cases h
theorem zs_15 (hc : zCtx sc p R s mid args meth c base K D G i) (hop : zop w = 15) (hok : zOkI i pc w = true) (hn : n0 ≤ m.length ∧ l0 ≤ zSl m) (hr : m'.length - n0 ≤ R.cells ∧ zSl m' - l0 ≤ R.slots) (h : zOne sc i w pc ls st m = some (.inl (pc', ls', st', m'))) (kk : zGl p l e R s mid args below meth c Q base n0 l0 K D G i pc' ls' st' m') : zGl p l e R s mid args below meth c Q base n0 l0 K D G i pc ls st m := by
  obtain ⟨⟨hx, hb, hml⟩, ⟨hrt, hlk⟩, ⟨hown, hnm⟩, hts, ⟨hKn, hSt⟩, hfr, hlo⟩ := hc
  intro H locs lsM hF hR
  rcases st with _ | ⟨a, st⟩
  · simp [zOne, hop] at h
  simp only [zOne, hop, ↓reduceIte, Nat.reduceEqDiff, zNx, or_true, true_or, or_false, false_or, or_self] at h
  simp only [zOkI, hop, ↓reduceIte, Nat.reduceEqDiff, Bool.and_eq_true, decide_eq_true_eq] at hok
  split at h
  · rename_i hlt
    cases h
    have kk := kk H locs lsM hF hR
    rw [List.map_cons]
    exact lv_pop hx hb hok zV_cat kk
  · cases h
theorem zs_16 (hc : zCtx sc p R s mid args meth c base K D G i) (hop : zop w = 16) (hok : zOkI i pc w = true) (hn : n0 ≤ m.length ∧ l0 ≤ zSl m) (hr : m'.length - n0 ≤ R.cells ∧ zSl m' - l0 ≤ R.slots) (h : zOne sc i w pc ls st m = some (.inl (pc', ls', st', m'))) (kk : zGl p l e R s mid args below meth c Q base n0 l0 K D G i pc' ls' st' m') : zGl p l e R s mid args below meth c Q base n0 l0 K D G i pc ls st m := by
  obtain ⟨⟨hx, hb, hml⟩, ⟨hrt, hlk⟩, ⟨hown, hnm⟩, hts, ⟨hKn, hSt⟩, hfr, hlo⟩ := hc
  intro H locs lsM hF hR
  rcases st with _ | ⟨b, _ | ⟨a, st⟩⟩
  · simp [zOne, hop] at h
  · simp [zOne, hop] at h
  simp only [zOne, hop, ↓reduceIte, Nat.reduceEqDiff, zNx, or_true, true_or, or_false, false_or, or_self] at h
  simp only [zOkI, hop, ↓reduceIte, Nat.reduceEqDiff, Bool.and_eq_true, decide_eq_true_eq] at hok
  split at h
  · rename_i hlt
    cases h
    have kk := kk H locs lsM hF hR
    simp only [List.map_cons] at kk ⊢
    exact lv_dup2_11 hx hb hok zV_cat zV_cat kk
  · cases h
theorem zs_17 (hc : zCtx sc p R s mid args meth c base K D G i) (hop : zop w = 17) (hok : zOkI i pc w = true) (hn : n0 ≤ m.length ∧ l0 ≤ zSl m) (hr : m'.length - n0 ≤ R.cells ∧ zSl m' - l0 ≤ R.slots) (h : zOne sc i w pc ls st m = some (.inl (pc', ls', st', m'))) (kk : zGl p l e R s mid args below meth c Q base n0 l0 K D G i pc' ls' st' m') : zGl p l e R s mid args below meth c Q base n0 l0 K D G i pc ls st m := by
  obtain ⟨⟨hx, hb, hml⟩, ⟨hrt, hlk⟩, ⟨hown, hnm⟩, hts, ⟨hKn, hSt⟩, hfr, hlo⟩ := hc
  intro H locs lsM hF hR
  rcases st with _ | ⟨a, st⟩
  · simp [zOne, hop] at h
  simp only [zOne, hop, ↓reduceIte, Nat.reduceEqDiff, zNx, or_true, true_or, or_false, false_or, or_self] at h
  simp only [zOkI, hop, ↓reduceIte, Nat.reduceEqDiff] at hok
  generalize zb w = k0 at h hok
  split at h
  · rename_i hlt
    cases h
    rw [List.map_cons, zV_int hlt]
    have ht : (pc : Int) + ((za w : Int) - (pc : Int)) = (za w : Int) := by omega
    rcases k0 with _ | _ | _ | _ | _ | k5
    · simp only [decide_eq_true_eq] at hok
      have hq := zc_eq (a := a) (b := 0) hlt (by decide)
      refine lv_if_eq hx hb hok ht (fun q => ?_) (fun q => ?_)
      · rw [if_pos (show zCmp 0 a 0 = true from hq.mp q)] at kk
        exact kk H locs lsM hF hR
      · rw [if_neg (show ¬ zCmp 0 a 0 = true from fun z => q (hq.mpr z))] at kk
        exact kk H locs lsM hF hR
    · simp only [decide_eq_true_eq] at hok
      have hq := zc_ne (a := a) (b := 0) hlt (by decide)
      refine lv_if_ne hx hb hok ht (fun q => ?_) (fun q => ?_)
      · rw [if_pos (show zCmp 1 a 0 = true from hq.mp q)] at kk
        exact kk H locs lsM hF hR
      · rw [if_neg (show ¬ zCmp 1 a 0 = true from fun z => (hq.mpr z) q)] at kk
        exact kk H locs lsM hF hR
    · simp only [decide_eq_true_eq] at hok
      have hq := zc_lt (a := a) (b := 0) hlt (by decide)
      refine lv_if_lt hx hb hok ht (fun q => ?_) (fun q => ?_)
      · rw [if_pos (show zCmp 2 a 0 = true from hq.mp q)] at kk
        exact kk H locs lsM hF hR
      · rw [if_neg (show ¬ zCmp 2 a 0 = true from fun z => q (hq.mpr z))] at kk
        exact kk H locs lsM hF hR
    · simp only [decide_eq_true_eq] at hok
      have hq := zc_ge (a := a) (b := 0) hlt (by decide)
      refine lv_if_ge hx hb hok ht (fun q => ?_) (fun q => ?_)
      · rw [if_pos (show zCmp 3 a 0 = true from hq.mp q)] at kk
        exact kk H locs lsM hF hR
      · rw [if_neg (show ¬ zCmp 3 a 0 = true from fun z => q (hq.mpr z))] at kk
        exact kk H locs lsM hF hR
    · simp only [decide_eq_true_eq] at hok
      have hq := zc_gt (a := a) (b := 0) hlt (by decide)
      refine lv_if_gt hx hb hok ht (fun q => ?_) (fun q => ?_)
      · rw [if_pos (show zCmp 4 a 0 = true from hq.mp q)] at kk
        exact kk H locs lsM hF hR
      · rw [if_neg (show ¬ zCmp 4 a 0 = true from fun z => q (hq.mpr z))] at kk
        exact kk H locs lsM hF hR
    · simp only [decide_eq_true_eq] at hok
      have hq := zc_le (a := a) (b := 0) (k := k5) hlt (by decide)
      refine lv_if_le hx hb hok ht (fun q => ?_) (fun q => ?_)
      · rw [if_pos (show zCmp (k5 + 5) a 0 = true from hq.mp q)] at kk
        exact kk H locs lsM hF hR
      · rw [if_neg (show ¬ zCmp (k5 + 5) a 0 = true from fun z => q (hq.mpr z))] at kk
        exact kk H locs lsM hF hR
  · cases h
theorem zs_18 (hc : zCtx sc p R s mid args meth c base K D G i) (hop : zop w = 18) (hok : zOkI i pc w = true) (hn : n0 ≤ m.length ∧ l0 ≤ zSl m) (hr : m'.length - n0 ≤ R.cells ∧ zSl m' - l0 ≤ R.slots) (h : zOne sc i w pc ls st m = some (.inl (pc', ls', st', m'))) (kk : zGl p l e R s mid args below meth c Q base n0 l0 K D G i pc' ls' st' m') : zGl p l e R s mid args below meth c Q base n0 l0 K D G i pc ls st m := by
  obtain ⟨⟨hx, hb, hml⟩, ⟨hrt, hlk⟩, ⟨hown, hnm⟩, hts, ⟨hKn, hSt⟩, hfr, hlo⟩ := hc
  intro H locs lsM hF hR
  rcases st with _ | ⟨b, _ | ⟨a, st⟩⟩
  · simp [zOne, hop] at h
  · simp [zOne, hop] at h
  simp only [zOne, hop, ↓reduceIte, Nat.reduceEqDiff, zNx, or_true, true_or, or_false, false_or, or_self] at h
  simp only [zOkI, hop, ↓reduceIte, Nat.reduceEqDiff] at hok
  generalize zb w = k0 at h hok
  split at h
  · rename_i hlt
    cases h
    rw [List.map_cons, List.map_cons, zV_int hlt.1, zV_int hlt.2]
    have ht : (pc : Int) + ((za w : Int) - (pc : Int)) = (za w : Int) := by omega
    rcases k0 with _ | _ | _ | _ | _ | k5
    · simp only [decide_eq_true_eq] at hok
      have hq := zc_eq (a := a) (b := b) hlt.1 hlt.2
      refine lv_icmp_eq hx hb hok ht (fun q => ?_) (fun q => ?_)
      · rw [if_pos (show zCmp 0 a b = true from hq.mp q)] at kk
        exact kk H locs lsM hF hR
      · rw [if_neg (show ¬ zCmp 0 a b = true from fun z => q (hq.mpr z))] at kk
        exact kk H locs lsM hF hR
    · simp only [decide_eq_true_eq] at hok
      have hq := zc_ne (a := a) (b := b) hlt.1 hlt.2
      refine lv_icmp_ne hx hb hok ht (fun q => ?_) (fun q => ?_)
      · rw [if_pos (show zCmp 1 a b = true from hq.mp q)] at kk
        exact kk H locs lsM hF hR
      · rw [if_neg (show ¬ zCmp 1 a b = true from fun z => (hq.mpr z) q)] at kk
        exact kk H locs lsM hF hR
    · simp only [decide_eq_true_eq] at hok
      have hq := zc_lt (a := a) (b := b) hlt.1 hlt.2
      refine lv_icmp_lt hx hb hok ht (fun q => ?_) (fun q => ?_)
      · rw [if_pos (show zCmp 2 a b = true from hq.mp q)] at kk
        exact kk H locs lsM hF hR
      · rw [if_neg (show ¬ zCmp 2 a b = true from fun z => q (hq.mpr z))] at kk
        exact kk H locs lsM hF hR
    · simp only [decide_eq_true_eq] at hok
      have hq := zc_ge (a := a) (b := b) hlt.1 hlt.2
      refine lv_icmp_ge hx hb hok ht (fun q => ?_) (fun q => ?_)
      · rw [if_pos (show zCmp 3 a b = true from hq.mp q)] at kk
        exact kk H locs lsM hF hR
      · rw [if_neg (show ¬ zCmp 3 a b = true from fun z => q (hq.mpr z))] at kk
        exact kk H locs lsM hF hR
    · simp only [decide_eq_true_eq] at hok
      have hq := zc_gt (a := a) (b := b) hlt.1 hlt.2
      refine lv_icmp_gt hx hb hok ht (fun q => ?_) (fun q => ?_)
      · rw [if_pos (show zCmp 4 a b = true from hq.mp q)] at kk
        exact kk H locs lsM hF hR
      · rw [if_neg (show ¬ zCmp 4 a b = true from fun z => q (hq.mpr z))] at kk
        exact kk H locs lsM hF hR
    · simp only [decide_eq_true_eq] at hok
      have hq := zc_le (a := a) (b := b) (k := k5) hlt.1 hlt.2
      refine lv_icmp_le hx hb hok ht (fun q => ?_) (fun q => ?_)
      · rw [if_pos (show zCmp (k5 + 5) a b = true from hq.mp q)] at kk
        exact kk H locs lsM hF hR
      · rw [if_neg (show ¬ zCmp (k5 + 5) a b = true from fun z => q (hq.mpr z))] at kk
        exact kk H locs lsM hF hR
  · cases h
theorem zs_19 (hc : zCtx sc p R s mid args meth c base K D G i) (hop : zop w = 19) (hok : zOkI i pc w = true) (hn : n0 ≤ m.length ∧ l0 ≤ zSl m) (hr : m'.length - n0 ≤ R.cells ∧ zSl m' - l0 ≤ R.slots) (h : zOne sc i w pc ls st m = some (.inl (pc', ls', st', m'))) (kk : zGl p l e R s mid args below meth c Q base n0 l0 K D G i pc' ls' st' m') : zGl p l e R s mid args below meth c Q base n0 l0 K D G i pc ls st m := by
  obtain ⟨⟨hx, hb, hml⟩, ⟨hrt, hlk⟩, ⟨hown, hnm⟩, hts, ⟨hKn, hSt⟩, hfr, hlo⟩ := hc
  intro H locs lsM hF hR
  simp only [zOne, hop, ↓reduceIte, Nat.reduceEqDiff, zNx, or_true, true_or, or_false, false_or, or_self] at h
  simp only [zOkI, hop, ↓reduceIte, Nat.reduceEqDiff, Bool.and_eq_true, decide_eq_true_eq] at hok
  cases h
  exact lv_goto hx hb hok (by omega) (kk H locs lsM hF hR)
theorem zs_20 (hc : zCtx sc p R s mid args meth c base K D G i) (hop : zop w = 20) (hok : zOkI i pc w = true) (hn : n0 ≤ m.length ∧ l0 ≤ zSl m) (hr : m'.length - n0 ≤ R.cells ∧ zSl m' - l0 ≤ R.slots) (h : zOne sc i w pc ls st m = some (.inl (pc', ls', st', m'))) (kk : zGl p l e R s mid args below meth c Q base n0 l0 K D G i pc' ls' st' m') : zGl p l e R s mid args below meth c Q base n0 l0 K D G i pc ls st m := by
  obtain ⟨⟨hx, hb, hml⟩, ⟨hrt, hlk⟩, ⟨hown, hnm⟩, hts, ⟨hKn, hSt⟩, hfr, hlo⟩ := hc
  intro H locs lsM hF hR
  rcases st with _ | ⟨a, st⟩
  · simp [zOne, hop] at h
  simp only [zOne, hop, ↓reduceIte, Nat.reduceEqDiff, zNx, or_true, true_or, or_false, false_or, or_self] at h
  simp only [zOkI, hop, ↓reduceIte, Nat.reduceEqDiff] at hok
  split at h
  · rename_i hlt
    cases h
    have kk := kk H locs lsM hF hR
    rw [List.map_cons, zV_int hlt]
    split at hok
    · rename_i d lo hi offs len hdg
      simp only [Bool.and_eq_true, decide_eq_true_eq] at hok
      obtain ⟨e1, e2, e3, e4, e5, e6⟩ := hok
      generalize (zSw.getD (za w) (0, [], 0)).2.1 = t at kk e2 e4 e5 e6
      generalize (zSw.getD (za w) (0, [], 0)).2.2 = df at kk e3
      rw [List.range_eq_range'] at e5
      rw [zSwt_get t df 0 e5 a, if_pos (Nat.zero_le a), Nat.sub_zero] at kk
      have hti := zn_toInt hlt
      by_cases ha : a < t.length
      · rw [if_pos (by omega)] at hti
        rw [List.getElem?_eq_getElem ha] at kk
        simp only [Option.map_some, Option.getD_some] at kk
        have hoff : offs[((nI a).toInt - lo).toNat]? = some (((t[a]).2 : Int) - (pc : Int)) := by
          rw [hti, e1, show ((a : Int) - 0).toNat = a by omega, ← Array.getElem?_toList, e4, List.getElem?_map, List.getElem?_eq_getElem ha]
          rfl
        exact lv_tableIn hx hb hdg (by rw [hti, e1]; omega) (by rw [hti]; omega) hoff (by omega) kk
      · rw [List.getElem?_eq_none (by omega)] at kk
        exact lv_tableOut hx hb hdg (by rw [hti, e1]; split <;> omega) e3 kk
    · cases hok
  · cases h
theorem zs_21 (hc : zCtx sc p R s mid args meth c base K D G i) (hop : zop w = 21) (hok : zOkI i pc w = true) (hn : n0 ≤ m.length ∧ l0 ≤ zSl m) (hr : m'.length - n0 ≤ R.cells ∧ zSl m' - l0 ≤ R.slots) (h : zOne sc i w pc ls st m = some (.inl (pc', ls', st', m'))) (kk : zGl p l e R s mid args below meth c Q base n0 l0 K D G i pc' ls' st' m') : zGl p l e R s mid args below meth c Q base n0 l0 K D G i pc ls st m := by
  obtain ⟨⟨hx, hb, hml⟩, ⟨hrt, hlk⟩, ⟨hown, hnm⟩, hts, ⟨hKn, hSt⟩, hfr, hlo⟩ := hc
  intro H locs lsM hF hR
  rcases st with _ | ⟨a, st⟩
  · simp [zOne, hop] at h
  simp only [zOne, hop, ↓reduceIte, Nat.reduceEqDiff, zNx, or_true, true_or, or_false, false_or, or_self] at h
  simp only [zOkI, hop, ↓reduceIte, Nat.reduceEqDiff] at hok
  split at h
  · rename_i hlt
    cases h
    have kk := kk H locs lsM hF hR
    rw [List.map_cons, zV_int hlt]
    split at hok
    · rename_i d ps len hdg
      simp only [Bool.and_eq_true, decide_eq_true_eq] at hok
      obtain ⟨e1, e2, e3, e4⟩ := hok
      generalize (zSw.getD (za w) (0, [], 0)).2.1 = t at kk e2 e4
      generalize (zSw.getD (za w) (0, [], 0)).2.2 = df at kk e1
      refine lv_lookup hx hb hdg e3 rfl ?_ kk
      rw [e2]
      refine zSwt_look t df d pc e1 hlt (fun q hq => ?_)
      have := List.all_eq_true.mp e4 q hq
      simpa using this
    · cases hok
  · cases h
theorem zs_22 (hc : zCtx sc p R s mid args meth c base K D G i) (hop : zop w = 22) (hok : zOkI i pc w = true) (hn : n0 ≤ m.length ∧ l0 ≤ zSl m) (hr : m'.length - n0 ≤ R.cells ∧ zSl m' - l0 ≤ R.slots) (h : zOne sc i w pc ls st m = some (.inl (pc', ls', st', m'))) (kk : zGl p l e R s mid args below meth c Q base n0 l0 K D G i pc' ls' st' m') : zGl p l e R s mid args below meth c Q base n0 l0 K D G i pc ls st m := by
  obtain ⟨⟨hx, hb, hml⟩, ⟨hrt, hlk⟩, ⟨hown, hnm⟩, hts, ⟨hKn, hSt⟩, hfr, hlo⟩ := hc
  intro H locs lsM hF hR
  rcases st with _ | ⟨a, st⟩
  · simp [zOne, hop] at h
  simp only [zOne, hop, ↓reduceIte, Nat.reduceEqDiff, zNx, or_true, true_or, or_false, false_or, or_self] at h
  simp only [zOkF, zOkI, hop, ↓reduceIte, Nat.reduceEqDiff, Bool.and_eq_true, decide_eq_true_eq, or_true, true_or] at hok
  split at h
  · rename_i kd n f hat
    split at h
    · rename_i hlt
      obtain ⟨rfl, hk⟩ := hlt
      cases h
      obtain ⟨hdg, hlnk, hcn, hci, hsame⟩ := hok
      have kk := kk H locs lsM hF hR
      obtain ⟨hv, hn7, cell, q1, q2, q3, q4⟩ := zP_obj hR.1 hat hci
      obtain ⟨hS, hfc, kC, hkC, hkind⟩ := hKn.1.1 (zb w) _ (zcl hci)
      obtain ⟨cf, kf, fi, fd, hi, hsl⟩ := hS (zc w) hcn
      rw [List.map_cons] at kk ⊢
      rw [hv]
      refine W.getf hx hb hown (hts _ (zHas_in hlnk)) (by rw [← hsame]; exact hi) (u_facts hfc hkC (u_lays hts (zk_ws hci) hcn) hi).1 q1 (by rw [q3]; exact fun h => by cases h) ?_ rfl rfl hdg kk
      rw [hsl]
      exact q4 (zc w) hk
    · cases h
  · cases h
theorem zs_23 (hc : zCtx sc p R s mid args meth c base K D G i) (hop : zop w = 23) (hok : zOkI i pc w = true) (hn : n0 ≤ m.length ∧ l0 ≤ zSl m) (hr : m'.length - n0 ≤ R.cells ∧ zSl m' - l0 ≤ R.slots) (h : zOne sc i w pc ls st m = some (.inl (pc', ls', st', m'))) (kk : zGl p l e R s mid args below meth c Q base n0 l0 K D G i pc' ls' st' m') : zGl p l e R s mid args below meth c Q base n0 l0 K D G i pc ls st m := by
  obtain ⟨⟨hx, hb, hml⟩, ⟨hrt, hlk⟩, ⟨hown, hnm⟩, hts, ⟨hKn, hSt⟩, hfr, hlo⟩ := hc
  intro H locs lsM hF hR
  rcases st with _ | ⟨b, _ | ⟨a, st⟩⟩
  · simp [zOne, hop] at h
  · simp [zOne, hop] at h
  simp only [zOne, hop, ↓reduceIte, Nat.reduceEqDiff, zNx, or_true, true_or, or_false, false_or, or_self] at h
  simp only [zOkF, zOkI, hop, ↓reduceIte, Nat.reduceEqDiff, Bool.and_eq_true, decide_eq_true_eq, or_true, true_or] at hok
  split at h
  · rename_i kd n f hat
    split at h
    · rename_i hlt
      obtain ⟨⟨rfl, hk⟩, hov⟩ := hlt
      cases h
      obtain ⟨hdg, ⟨hlnk, hcn, hci, hsame⟩, hfin⟩ := hok
      obtain ⟨hv, hn7, cell, q1, q2, q3, q4⟩ := zP_obj hR.1 hat hci
      obtain ⟨hS, hfc, kC, hkC, hkind⟩ := hKn.1.1 (zb w) _ (zcl hci)
      obtain ⟨cf, kf, fi, fd, hi, hsl⟩ := hS (zc w) hcn
      have hap := zapart hts hKn.1 hci
      obtain ⟨hnw, hft⟩ := zNar (base := base) (K := K) hov
      have hty := zTy_ok hci hcn
      have hst := (u_facts hfc hkC (u_lays hts (zk_ws hci) hcn) hi).1
      have hlay := hts _ (zk_ws hci _ (u_in_lay hcn))
      unfold u_lay at hlay
      have hm := (zAt_some hat).2
      have hbnd := (zAt_some hat).1
      rw [List.map_cons, List.map_cons, hv]
      rw [if_neg (by rw [hfin]; decide)] at hlay
      have h6 := u_store hfc hkC hkind hlay hi hty hnw hft
      refine W.putK hx hb (f := fd) ⟨hown, hts _ (zHas_in hlnk), ⟨_, _, _, by rw [← hsame]; exact hi⟩, hst⟩ (by rw [q2]; exact h6) q1 q3 (by rw [hsl]; exact k2_hasslot (q4 (zc w) hk)) rfl rfl hdg fun H' e1 e2 e3 => ?_
      rw [hsl] at e1 ⊢
      have hP2 : zP D G base K (m.set (a - 4294967297) (zb w, n, zUp f (zc w) b)) H' := zP_set hR.1 e2 e3 (Or.inl ⟨hci, hn7, t_OB.to ⟨_, e1, q2, q3, t_set q4 (fun x y hx hy => hap x y (by omega) (by omega)) hk _⟩ (fun j _ => zup_obj j)⟩)
      have kk := kk H' (locs ++ [⟨base + (a - 4294967297), D.2 (zb w) (zc w)⟩]) lsM hF ⟨hP2, hR.2.put e2 e3 (Nat.le_add_right _ _)⟩
      rw [List.length_set, zSl_set hm] at kk
      exact kk
    · cases h
  · cases h
theorem zs_24 (hc : zCtx sc p R s mid args meth c base K D G i) (hop : zop w = 24) (hok : zOkI i pc w = true) (hn : n0 ≤ m.length ∧ l0 ≤ zSl m) (hr : m'.length - n0 ≤ R.cells ∧ zSl m' - l0 ≤ R.slots) (h : zOne sc i w pc ls st m = some (.inl (pc', ls', st', m'))) (kk : zGl p l e R s mid args below meth c Q base n0 l0 K D G i pc' ls' st' m') : zGl p l e R s mid args below meth c Q base n0 l0 K D G i pc ls st m := by
  obtain ⟨⟨hx, hb, hml⟩, ⟨hrt, hlk⟩, ⟨hown, hnm⟩, hts, ⟨hKn, hSt⟩, hfr, hlo⟩ := hc
  intro H locs lsM hF hR
  rcases st with _ | ⟨b, _ | ⟨a, st⟩⟩
  · simp [zOne, hop] at h
  · simp [zOne, hop] at h
  simp only [zOne, hop, ↓reduceIte, Nat.reduceEqDiff, zNx, or_true, true_or, or_false, false_or, or_self] at h
  simp only [zOkF, zOkI, hop, ↓reduceIte, Nat.reduceEqDiff, Bool.and_eq_true, decide_eq_true_eq, or_true, true_or] at hok
  split at h
  · rename_i kd n f hat
    split at h
    · rename_i hlt
      obtain ⟨⟨rfl, hk⟩, hov⟩ := hlt
      cases h
      obtain ⟨hdg, ⟨hlnk, hcn, hci, hsame⟩, hfin, hinit, hdecl⟩ := hok
      obtain ⟨hv, hn7, cell, q1, q2, q3, q4⟩ := zP_obj hR.1 hat hci
      obtain ⟨hS, hfc, kC, hkC, hkind⟩ := hKn.1.1 (zb w) _ (zcl hci)
      obtain ⟨cf, kf, fi, fd, hi, hsl⟩ := hS (zc w) hcn
      have hap := zapart hts hKn.1 hci
      obtain ⟨hnw, hft⟩ := zNar (base := base) (K := K) hov
      have hty := zTy_ok hci hcn
      have hst := (u_facts hfc hkC (u_lays hts (zk_ws hci) hcn) hi).1
      have hlay := hts _ (zk_ws hci _ (u_in_lay hcn))
      unfold u_lay at hlay
      have hm := (zAt_some hat).2
      have hbnd := (zAt_some hat).1
      rw [List.map_cons, List.map_cons, hv]
      rw [if_pos hfin] at hlay
      have h6 := u_fits hfc hkC hkind (Or.inr hlay) hi hty hnw hft
      have hcf : mid.cls = cf := by
        obtain ⟨_, _, c', _, _, _, -, -, hf', -, -, -, hown2, -⟩ := Cond.laysFinal_spec hlay
        have e1 : c' = cf := by have := hi.symm.trans hf'; simp at this; exact this.1.symm
        rw [hsame, hdecl] at hown2
        rw [← e1]; exact Option.some.inj (hown.symm.trans hown2)
      refine W.putFinK hx hb hown (hts _ (zHas_in hlnk)) (by rw [← hsame]; exact hi) hst hcf (hnm hinit) (by rw [q2]; exact h6) q1 q3 (by rw [hsl]; exact k2_hasslot (q4 (zc w) hk)) rfl rfl hdg fun H' e1 e2 e3 => ?_
      rw [hsl] at e1 ⊢
      have hP2 : zP D G base K (m.set (a - 4294967297) (zb w, n, zUp f (zc w) b)) H' := zP_set hR.1 e2 e3 (Or.inl ⟨hci, hn7, t_OB.to ⟨_, e1, q2, q3, t_set q4 (fun x y hx hy => hap x y (by omega) (by omega)) hk _⟩ (fun j _ => zup_obj j)⟩)
      have kk := kk H' (locs ++ [⟨base + (a - 4294967297), D.2 (zb w) (zc w)⟩]) lsM hF ⟨hP2, hR.2.put e2 e3 (Nat.le_add_right _ _)⟩
      rw [List.length_set, zSl_set hm] at kk
      exact kk
    · cases h
  · cases h
theorem zs_25 (hc : zCtx sc p R s mid args meth c base K D G i) (hop : zop w = 25) (hok : zOkI i pc w = true) (hn : n0 ≤ m.length ∧ l0 ≤ zSl m) (hr : m'.length - n0 ≤ R.cells ∧ zSl m' - l0 ≤ R.slots) (h : zOne sc i w pc ls st m = some (.inl (pc', ls', st', m'))) (kk : zGl p l e R s mid args below meth c Q base n0 l0 K D G i pc' ls' st' m') : zGl p l e R s mid args below meth c Q base n0 l0 K D G i pc ls st m := by
  obtain ⟨⟨hx, hb, hml⟩, ⟨hrt, hlk⟩, ⟨hown, hnm⟩, hts, ⟨hKn, hSt⟩, hfr, hlo⟩ := hc
  intro H locs lsM hF hR
  simp only [zOne, hop, ↓reduceIte, Nat.reduceEqDiff, zNx, or_true, true_or, or_false, false_or, or_self] at h
  simp only [zOkI, hop, ↓reduceIte, Nat.reduceEqDiff, Bool.and_eq_true, decide_eq_true_eq] at hok
  cases h
  have kk := kk H locs lsM hF hR
  obtain ⟨h1, h2, h3⟩ := hok
  rw [List.map_cons, zV_st (by omega), show 8589934592 + zb w - 8589934592 = zb w by omega] at kk
  split at h3
  · exact va_gets hx hb (hSt.1 (zb w) h2).1 hR.2 hown (hts _ (zHas_in h3)) (fun x hx => hx) h1 kk
  · exact va_getsN hx hb (hSt.1 (zb w) h2).1 hR.2 hown (va_Nw.use rfl (hKn.2.2 _ (zHasN_in h3) rfl)) (fun x hx => hx) h1 kk
theorem zs_26 (hc : zCtx sc p R s mid args meth c base K D G i) (hop : zop w = 26) (hok : zOkI i pc w = true) (hn : n0 ≤ m.length ∧ l0 ≤ zSl m) (hr : m'.length - n0 ≤ R.cells ∧ zSl m' - l0 ≤ R.slots) (h : zOne sc i w pc ls st m = some (.inl (pc', ls', st', m'))) (kk : zGl p l e R s mid args below meth c Q base n0 l0 K D G i pc' ls' st' m') : zGl p l e R s mid args below meth c Q base n0 l0 K D G i pc ls st m := by
  obtain ⟨⟨hx, hb, hml⟩, ⟨hrt, hlk⟩, ⟨hown, hnm⟩, hts, ⟨hKn, hSt⟩, hfr, hlo⟩ := hc
  intro H locs lsM hF hR
  rcases st with _ | ⟨j, _ | ⟨r, st⟩⟩
  · simp [zOne, hop] at h
  · simp [zOne, hop] at h
  simp only [zOne, hop, ↓reduceIte, Nat.reduceEqDiff, zNx, or_true, true_or, or_false, false_or, or_self] at h
  simp only [zOkI, hop, ↓reduceIte, Nat.reduceEqDiff, Bool.and_eq_true, decide_eq_true_eq] at hok
  split at h
  · rename_i hge
    split at h
    · rename_i hlt
      cases h
      have kk := kk H locs lsM hF hR
      rw [List.map_cons, zV_int (zCT_lt _ _)] at kk
      rw [List.map_cons, List.map_cons, zV_int (show j < 4294967296 by omega), zV_st hge]
      exact va_ti hx hb (hSt.1 (r - 8589934592) (by omega)).2 hR.2 (zn_in hlt.1 (by decide)) (by rw [zn_cl hlt.1 (by decide)]) hok kk
    · split at h
      · rename_i hlt
        obtain ⟨⟨rfl, hj, hn31⟩, hfj⟩ := hlt
        cases h
        have kk := kk H locs lsM hF hR
        rw [List.map_cons, zV_int hfj] at kk
        rw [List.map_cons, List.map_cons, zV_int (show j < 4294967296 by omega), zV_st hge]
        exact va_ti hx hb hSt.2 hR.2 (zn_in hj hn31) (by rw [zn_cl hj hn31]) hok kk
      · cases h
  · split at h
    · rename_i kd n f hat
      split at h
      · rename_i hlt
        obtain ⟨⟨rfl, hj, hn31⟩, hfj⟩ := hlt
        cases h
        have kk := kk H locs lsM hF hR
        obtain ⟨hv, hcell⟩ := zP_int hR.1 hat (by decide)
        rw [List.map_cons, zV_int hfj] at kk
        rw [List.map_cons, List.map_cons, zV_int (show j < 4294967296 by omega), hv]
        exact W.iald hx hb hcell ((hKn.1.2 0 _ rfl).1 n _) (fun q => by cases q) (by rw [arrV_size]; exact zn_in hj hn31) (by rw [zn_cl hj hn31, arrV_read _ _ hj]) rfl rfl hok kk
      · cases h
    · cases h
theorem zs_28 (hc : zCtx sc p R s mid args meth c base K D G i) (hop : zop w = 28) (hok : zOkI i pc w = true) (hn : n0 ≤ m.length ∧ l0 ≤ zSl m) (hr : m'.length - n0 ≤ R.cells ∧ zSl m' - l0 ≤ R.slots) (h : zOne sc i w pc ls st m = some (.inl (pc', ls', st', m'))) (kk : zGl p l e R s mid args below meth c Q base n0 l0 K D G i pc' ls' st' m') : zGl p l e R s mid args below meth c Q base n0 l0 K D G i pc ls st m := by
  obtain ⟨⟨hx, hb, hml⟩, ⟨hrt, hlk⟩, ⟨hown, hnm⟩, hts, ⟨hKn, hSt⟩, hfr, hlo⟩ := hc
  intro H locs lsM hF hR
  rcases st with _ | ⟨j, _ | ⟨r, st⟩⟩
  · simp [zOne, hop] at h
  · simp [zOne, hop] at h
  simp only [zOne, hop, ↓reduceIte, Nat.reduceEqDiff, zNx, or_true, true_or, or_false, false_or, or_self] at h
  simp only [zOkI, hop, ↓reduceIte, Nat.reduceEqDiff, Bool.and_eq_true, decide_eq_true_eq] at hok
  split at h
  · rename_i kd n f hat
    split at h
    · rename_i hlt
      obtain ⟨⟨rfl, hj, hn31⟩, hfj⟩ := hlt
      cases h
      have kk := kk H locs lsM hF hR
      obtain ⟨hv, hcell⟩ := zP_int hR.1 hat (by decide)
      rw [List.map_cons, zV_int hfj] at kk
      rw [List.map_cons, List.map_cons, zV_int (show j < 4294967296 by omega), hv]
      exact W.cald hx hb hcell ((hKn.1.2 1 _ rfl).1 n _) (fun q => by cases q) (by rw [arrV_size]; exact zn_in hj hn31) (by rw [zn_cl hj hn31, arrV_read _ _ hj]) rfl rfl hok kk
    · cases h
  · cases h
theorem zs_30 (hc : zCtx sc p R s mid args meth c base K D G i) (hop : zop w = 30) (hok : zOkI i pc w = true) (hn : n0 ≤ m.length ∧ l0 ≤ zSl m) (hr : m'.length - n0 ≤ R.cells ∧ zSl m' - l0 ≤ R.slots) (h : zOne sc i w pc ls st m = some (.inl (pc', ls', st', m'))) (kk : zGl p l e R s mid args below meth c Q base n0 l0 K D G i pc' ls' st' m') : zGl p l e R s mid args below meth c Q base n0 l0 K D G i pc ls st m := by
  obtain ⟨⟨hx, hb, hml⟩, ⟨hrt, hlk⟩, ⟨hown, hnm⟩, hts, ⟨hKn, hSt⟩, hfr, hlo⟩ := hc
  intro H locs lsM hF hR
  rcases st with _ | ⟨j, _ | ⟨r, st⟩⟩
  · simp [zOne, hop] at h
  · simp [zOne, hop] at h
  simp only [zOne, hop, ↓reduceIte, Nat.reduceEqDiff, zNx, or_true, true_or, or_false, false_or, or_self] at h
  simp only [zOkI, hop, ↓reduceIte, Nat.reduceEqDiff, Bool.and_eq_true, decide_eq_true_eq] at hok
  split at h
  · rename_i kd n f hat
    split at h
    · rename_i hlt
      obtain ⟨h9, h11, hj, hn31⟩ := hlt
      cases h
      have kk := kk H locs lsM hF hR
      obtain ⟨hv, hcell⟩ := zP_refs hR.1 hat ⟨h9, h11⟩
      rw [List.map_cons] at kk
      rw [List.map_cons, List.map_cons, zV_int (show j < 4294967296 by omega), hv]
      exact W.aald hx hb hcell ((hKn.1.2 (kd - 7) _ (zKq G h9 h11)).1 n _) rfl (fun q => by cases q) (by rw [arrV_size]; exact zn_in hj hn31) (by rw [zn_cl hj hn31, arrV_read _ _ hj]) rfl rfl hok kk
    · cases h
  · cases h
theorem zs_27 (hc : zCtx sc p R s mid args meth c base K D G i) (hop : zop w = 27) (hok : zOkI i pc w = true) (hn : n0 ≤ m.length ∧ l0 ≤ zSl m) (hr : m'.length - n0 ≤ R.cells ∧ zSl m' - l0 ≤ R.slots) (h : zOne sc i w pc ls st m = some (.inl (pc', ls', st', m'))) (kk : zGl p l e R s mid args below meth c Q base n0 l0 K D G i pc' ls' st' m') : zGl p l e R s mid args below meth c Q base n0 l0 K D G i pc ls st m := by
  obtain ⟨⟨hx, hb, hml⟩, ⟨hrt, hlk⟩, ⟨hown, hnm⟩, hts, ⟨hKn, hSt⟩, hfr, hlo⟩ := hc
  intro H locs lsM hF hR
  rcases st with _ | ⟨v, _ | ⟨j, _ | ⟨r, st⟩⟩⟩
  · simp [zOne, hop] at h
  · simp [zOne, hop] at h
  · simp [zOne, hop] at h
  simp only [zOne, hop, ↓reduceIte, Nat.reduceEqDiff, zNx, or_true, true_or, or_false, false_or, or_self] at h
  simp only [zOkI, hop, ↓reduceIte, Nat.reduceEqDiff, Bool.and_eq_true, decide_eq_true_eq] at hok
  split at h
  · rename_i kd n f hat
    split at h
    · rename_i hlt
      obtain ⟨⟨rfl, hj, hn31⟩, hfj⟩ := hlt
      cases h
      obtain ⟨hv, hcell⟩ := zP_int hR.1 hat (by decide)
      have hm := (zAt_some hat).2
      rw [List.map_cons, List.map_cons, List.map_cons, zV_int (show v < 4294967296 by omega), zV_int (show j < 4294967296 by omega), hv]
      refine W.iast hx hb hcell ((hKn.1.2 0 _ rfl).1 n _) (fun q => by cases q) (by rw [arrV_size]; exact zn_in hj hn31) rfl rfl hok fun H' e1 e2 e3 => ?_
      rw [zn_cl hj hn31] at e1 ⊢
  
      have hP2 : zP D G base K (m.set (r - 4294967297) (7, n, zUp f j v)) H' := zP_set hR.1 e2 e3 (Or.inr (Or.inl ⟨z78a, by rw [e1, arrV_store, zup_int]⟩))
      have kk := kk H' (locs ++ [⟨base + (r - 4294967297), j⟩]) lsM hF ⟨hP2, hR.2.put e2 e3 (Nat.le_add_right _ _)⟩
      rw [List.length_set, zSl_set hm] at kk
      exact kk
    · cases h
  · cases h
theorem zs_29 (hc : zCtx sc p R s mid args meth c base K D G i) (hop : zop w = 29) (hok : zOkI i pc w = true) (hn : n0 ≤ m.length ∧ l0 ≤ zSl m) (hr : m'.length - n0 ≤ R.cells ∧ zSl m' - l0 ≤ R.slots) (h : zOne sc i w pc ls st m = some (.inl (pc', ls', st', m'))) (kk : zGl p l e R s mid args below meth c Q base n0 l0 K D G i pc' ls' st' m') : zGl p l e R s mid args below meth c Q base n0 l0 K D G i pc ls st m := by
  obtain ⟨⟨hx, hb, hml⟩, ⟨hrt, hlk⟩, ⟨hown, hnm⟩, hts, ⟨hKn, hSt⟩, hfr, hlo⟩ := hc
  intro H locs lsM hF hR
  rcases st with _ | ⟨v, _ | ⟨j, _ | ⟨r, st⟩⟩⟩
  · simp [zOne, hop] at h
  · simp [zOne, hop] at h
  · simp [zOne, hop] at h
  simp only [zOne, hop, ↓reduceIte, Nat.reduceEqDiff, zNx, or_true, true_or, or_false, false_or, or_self] at h
  simp only [zOkI, hop, ↓reduceIte, Nat.reduceEqDiff, Bool.and_eq_true, decide_eq_true_eq] at hok
  split at h
  · rename_i kd n f hat
    split at h
    · rename_i hlt
      obtain ⟨⟨rfl, hj, hn31⟩, hfj⟩ := hlt
      cases h
      obtain ⟨hv, hcell⟩ := zP_int hR.1 hat (by decide)
      have hm := (zAt_some hat).2
      rw [List.map_cons, List.map_cons, List.map_cons, zV_int (show v < 4294967296 by omega), zV_int (show j < 4294967296 by omega), hv]
      refine W.cast hx hb hcell ((hKn.1.2 1 _ rfl).1 n _) (fun q => by cases q) (by rw [arrV_size]; exact zn_in hj hn31) rfl rfl hok fun H' e1 e2 e3 => ?_
      rw [zn_cl hj hn31] at e1 ⊢
      rw [(pk_charN (show v < 65536 by omega)).1] at e1
      have hP2 : zP D G base K (m.set (r - 4294967297) (8, n, zUp f j v)) H' := zP_set hR.1 e2 e3 (Or.inr (Or.inl ⟨z78b, by rw [e1, arrV_store, zup_int]⟩))
      have kk := kk H' (locs ++ [⟨base + (r - 4294967297), j⟩]) lsM hF ⟨hP2, hR.2.put e2 e3 (Nat.le_add_right _ _)⟩
      rw [List.length_set, zSl_set hm] at kk
      exact kk
    · cases h
  · cases h
theorem zs_31 (hc : zCtx sc p R s mid args meth c base K D G i) (hop : zop w = 31) (hok : zOkI i pc w = true) (hn : n0 ≤ m.length ∧ l0 ≤ zSl m) (hr : m'.length - n0 ≤ R.cells ∧ zSl m' - l0 ≤ R.slots) (h : zOne sc i w pc ls st m = some (.inl (pc', ls', st', m'))) (kk : zGl p l e R s mid args below meth c Q base n0 l0 K D G i pc' ls' st' m') : zGl p l e R s mid args below meth c Q base n0 l0 K D G i pc ls st m := by
  obtain ⟨⟨hx, hb, hml⟩, ⟨hrt, hlk⟩, ⟨hown, hnm⟩, hts, ⟨hKn, hSt⟩, hfr, hlo⟩ := hc
  intro H locs lsM hF hR
  rcases st with _ | ⟨v, _ | ⟨j, _ | ⟨r, st⟩⟩⟩
  · simp [zOne, hop] at h
  · simp [zOne, hop] at h
  · simp [zOne, hop] at h
  simp only [zOne, hop, ↓reduceIte, Nat.reduceEqDiff, zNx, or_true, true_or, or_false, false_or, or_self] at h
  simp only [zOkI, hop, ↓reduceIte, Nat.reduceEqDiff, Bool.and_eq_true, decide_eq_true_eq] at hok
  split at h
  · rename_i kd n f kv nv fv hat hatv
    split at h
    · rename_i hlt
      obtain ⟨⟨h9, h11, hj, hn31⟩, rfl⟩ := hlt
      cases h
      obtain ⟨hv, hcell⟩ := zP_refs hR.1 hat ⟨h9, h11⟩
      obtain ⟨hvv, hn7, cellV, g1, g2, g3, -⟩ := zP_obj hR.1 hatv (zEl_lt kd)
      have hm := (zAt_some hat).2
      have hcls := (hKn.1.1 (zEl kd) _ (zcl (zEl_lt kd))).2
      obtain ⟨kA, comp, k1, k2, k3, -⟩ := (hKn.1.2 (kd - 7) _ (zKq G h9 h11)).2
      have hcomp : comp = D.1 (zEl kd) := Option.some.inj (k3.symm.trans hcls.1)
      subst hcomp
      have hcls2 := hcls
      obtain ⟨kC, hkC, -⟩ := hcls.2
      rw [List.map_cons, List.map_cons, List.map_cons, zV_int (show j < 4294967296 by omega), hv, hvv]
      refine W.aast hx hb hcell (fun q h => by cases h) (fun h => by cases h) k1 k2 rfl hkC ⟨nI_pos (by omega), by rw [arrV_size, zn_cl hj hn31]; exact hj⟩ g1 (fun q h => by rw [g3] at h; cases h) (by rw [g2]; exact hkC) (by rw [g2]; exact va_assign hcls2) rfl rfl hok fun H' e1 e2 e3 => ?_
      rw [zn_cl hj hn31] at e1 ⊢
      have hP2 : zP D G base K (m.set (r - 4294967297) (kd, n, zUp f j v)) H' := zP_set hR.1 e2 e3 (Or.inr (Or.inr ⟨⟨h9, h11⟩, by rw [e1, ← hvv, arrV_store, zup_ref]⟩))
      have kk := kk H' (locs ++ [⟨base + (r - 4294967297), j⟩]) lsM hF ⟨hP2, hR.2.put e2 e3 (Nat.le_add_right _ _)⟩
      rw [List.length_set, zSl_set hm] at kk
      exact kk
    · cases h
  · cases h
theorem zs_32 (hc : zCtx sc p R s mid args meth c base K D G i) (hop : zop w = 32) (hok : zOkI i pc w = true) (hn : n0 ≤ m.length ∧ l0 ≤ zSl m) (hr : m'.length - n0 ≤ R.cells ∧ zSl m' - l0 ≤ R.slots) (h : zOne sc i w pc ls st m = some (.inl (pc', ls', st', m'))) (kk : zGl p l e R s mid args below meth c Q base n0 l0 K D G i pc' ls' st' m') : zGl p l e R s mid args below meth c Q base n0 l0 K D G i pc ls st m := by
  obtain ⟨⟨hx, hb, hml⟩, ⟨hrt, hlk⟩, ⟨hown, hnm⟩, hts, ⟨hKn, hSt⟩, hfr, hlo⟩ := hc
  intro H locs lsM hF hR
  rcases st with _ | ⟨a, st⟩
  · simp [zOne, hop] at h
  simp only [zOne, hop, ↓reduceIte, Nat.reduceEqDiff, zNx, or_true, true_or, or_false, false_or, or_self] at h
  simp only [zOkI, hop, ↓reduceIte, Nat.reduceEqDiff, Bool.and_eq_true, decide_eq_true_eq] at hok
  split at h
  · rename_i hr3
    split at h
    · rename_i hn31
      cases h
      have kk := kk H locs lsM hF hR
      rw [List.map_cons, zV_int (by omega)] at kk
      rw [List.map_cons, hr3, zV_st (by decide)]
      obtain ⟨cell, t1, t2, t3, t4, t5, t6, t7⟩ := hSt.2
      have t8 : H[K 3]? = some cell := (hR.2.2.1 (K 3) (Array.getElem?_eq_some_iff.mp t1).1 t7).trans t1
      exact W.alen hx hb t8 t2 t5 rfl rfl hok kk
    · cases h
  · split at h
    · rename_i kd n f hat
      split at h
      · rename_i hlt
        obtain ⟨h7, h11, hn31⟩ := hlt
        cases h
        have kk := kk H locs lsM hF hR
        rw [List.map_cons, zV_int (by omega)] at kk
        rw [List.map_cons]
        by_cases h9 : 9 ≤ kd
        · obtain ⟨hv, hcell⟩ := zP_refs hR.1 hat ⟨h9, h11⟩
          rw [hv]
          exact W.alen hx hb hcell ((hKn.1.2 (kd - 7) _ (zKq G h9 h11)).1 n _) (by rw [arrV_size]; rfl) rfl rfl hok kk
        · obtain ⟨hv, hcell⟩ := zP_int hR.1 hat ⟨h7, by omega⟩
          rw [hv]
          rcases (show kd = 7 ∨ kd = 8 by omega) with rfl | rfl
          · exact W.alen hx hb hcell ((hKn.1.2 0 _ rfl).1 n _) (by rw [arrV_size]; rfl) rfl rfl hok kk
          · exact W.alen hx hb hcell ((hKn.1.2 1 _ rfl).1 n _) (by rw [arrV_size]; rfl) rfl rfl hok kk
      · cases h
    · cases h
theorem zs_33 (hc : zCtx sc p R s mid args meth c base K D G i) (hop : zop w = 33) (hok : zOkI i pc w = true) (hn : n0 ≤ m.length ∧ l0 ≤ zSl m) (hr : m'.length - n0 ≤ R.cells ∧ zSl m' - l0 ≤ R.slots) (h : zOne sc i w pc ls st m = some (.inl (pc', ls', st', m'))) (kk : zGl p l e R s mid args below meth c Q base n0 l0 K D G i pc' ls' st' m') : zGl p l e R s mid args below meth c Q base n0 l0 K D G i pc ls st m := by
  obtain ⟨⟨hx, hb, hml⟩, ⟨hrt, hlk⟩, ⟨hown, hnm⟩, hts, ⟨hKn, hSt⟩, hfr, hlo⟩ := hc
  intro H locs lsM hF hR
  rcases st with _ | ⟨a, st⟩
  · simp [zOne, hop] at h
  simp only [zOne, hop, ↓reduceIte, Nat.reduceEqDiff, zNx, or_true, true_or, or_false, false_or, or_self] at h
  simp only [zOkI, hop, ↓reduceIte, Nat.reduceEqDiff, Bool.and_eq_true, decide_eq_true_eq] at hok
  split at h
  · rename_i hlt
    cases h
    have hr1 := hr.1
    have hr2 := hr.2
    rw [zlen_push hn.1] at hr1
    rw [zsl_push hn.2] at hr2
    have hr3 : zSl m - l0 + a ≤ R.slots := hr2
    rw [List.map_cons, zV_int (show a < 4294967296 by omega)]
    obtain ⟨e0, hok⟩ := hok
    split at hok
    · rename_i hz7
      simp only [Bool.and_eq_true, decide_eq_true_eq] at hok
      obtain ⟨hdg, hw⟩ := hok
      rw [hz7, e0] at kk
      refine va_newaK (atype := .int) (N := a) hx hb (hts _ (zHas_in hw)) rfl hdg rfl (nI_pos (by omega)) (nI_clamp (by omega)) (by show a * 4 ≤ _; omega) (by omega) hr3 hR.1.1 fun H1 cA e1 z1 o1 hAr hNm => ?_
      have hcA : cA = G 7 := Option.some.inj (hNm.symm.trans ((hKn.1.2 0 _ rfl).2))
      rw [hcA] at e1
      have kk := kk H1 locs lsM hF ⟨zP_push hR.1 (by rw [z1, hR.1.1]) (fun q hq => o1 q (by rw [← hR.1.1]; exact hq)) (Or.inr (Or.inl ⟨z78a, e1⟩)), ⟨Nat.le_trans hR.2.1 (by rw [z1, hR.1.1]; omega), fun x h1 h2 => (o1 x (by rw [← hR.1.1]; exact Nat.lt_of_lt_of_le h1 hR.2.1)).trans (hR.2.2.1 x h1 h2), hR.2.2.2⟩⟩
      rw [zlen_push hn.1, zsl_push hn.2, List.map_cons, zV_new (by omega)] at kk
      exact kk
    · rename_i hz8
      simp only [Bool.and_eq_true, decide_eq_true_eq] at hok
      obtain ⟨hdg, hw⟩ := hok
      rw [hz8, e0] at kk
      refine va_newaK (atype := .char) (N := a) hx hb (hts _ (zHas_in hw)) rfl hdg rfl (nI_pos (by omega)) (nI_clamp (by omega)) (by show a * 2 ≤ _; omega) (by omega) hr3 hR.1.1 fun H1 cA e1 z1 o1 hAr hNm => ?_
      have hcA : cA = G 8 := Option.some.inj (hNm.symm.trans ((hKn.1.2 1 _ rfl).2))
      rw [hcA] at e1
      have kk := kk H1 locs lsM hF ⟨zP_push hR.1 (by rw [z1, hR.1.1]) (fun q hq => o1 q (by rw [← hR.1.1]; exact hq)) (Or.inr (Or.inl ⟨z78b, e1⟩)), ⟨Nat.le_trans hR.2.1 (by rw [z1, hR.1.1]; omega), fun x h1 h2 => (o1 x (by rw [← hR.1.1]; exact Nat.lt_of_lt_of_le h1 hR.2.1)).trans (hR.2.2.1 x h1 h2), hR.2.2.2⟩⟩
      rw [zlen_push hn.1, zsl_push hn.2, List.map_cons, zV_new (by omega)] at kk
      exact kk
    · cases hok
  · cases h
theorem zs_34 (hc : zCtx sc p R s mid args meth c base K D G i) (hop : zop w = 34) (hok : zOkI i pc w = true) (hn : n0 ≤ m.length ∧ l0 ≤ zSl m) (hr : m'.length - n0 ≤ R.cells ∧ zSl m' - l0 ≤ R.slots) (h : zOne sc i w pc ls st m = some (.inl (pc', ls', st', m'))) (kk : zGl p l e R s mid args below meth c Q base n0 l0 K D G i pc' ls' st' m') : zGl p l e R s mid args below meth c Q base n0 l0 K D G i pc ls st m := by
  obtain ⟨⟨hx, hb, hml⟩, ⟨hrt, hlk⟩, ⟨hown, hnm⟩, hts, ⟨hKn, hSt⟩, hfr, hlo⟩ := hc
  intro H locs lsM hF hR
  rcases st with _ | ⟨a, st⟩
  · simp [zOne, hop] at h
  simp only [zOne, hop, ↓reduceIte, Nat.reduceEqDiff, zNx, or_true, true_or, or_false, false_or, or_self] at h
  simp only [zOkI, hop, ↓reduceIte, Nat.reduceEqDiff, Bool.and_eq_true, decide_eq_true_eq] at hok
  split at h
  · rename_i hlt
    cases h
    have hr1 := hr.1
    have hr2 := hr.2
    rw [zlen_push hn.1] at hr1
    rw [zsl_push hn.2] at hr2
    have hr3 : zSl m - l0 + a ≤ R.slots := hr2
    rw [List.map_cons, zV_int (show a < 4294967296 by omega)]
    obtain ⟨hdg, e0, ⟨h9, h11⟩, hw⟩ := hok
    rw [e0] at kk
    have hcl := nI_clamp (n := a) (by omega)
    refine W.anew hx hb hown (hts _ (zHas_in hw)) (va_AO.use (zAO hKn.2.1 h9 h11)) rfl hdg rfl (nI_pos (by omega)) (by rw [hcl]; omega) (by omega) (by rw [hcl]; exact hr3) fun cA kA comp f1 f2 f3 f4 => ?_
    obtain ⟨kA', comp', k1, k2, k3, k4⟩ := (hKn.1.2 (zb w - 7) _ (zKq G h9 h11)).2
    have hcA : cA = G (zb w) := Option.some.inj (f1.symm.trans k4)
    subst hcA
    rw [hcl]
    generalize hH1 : H.push _ = H1
    have z1 : H1.size = H.size + 1 := by rw [← hH1, Array.size_push]
    have e1 : H1[base + m.length]? = some (arrV (G (zb w)) a (fun _ => .null)) := by rw [← hH1, ← hR.1.1, Array.getElem?_push_size, ← arrV_new]
    have o1 : ∀ q : Nat, q < H.size → H1[q]? = H[q]? := fun q hq => by rw [← hH1, Array.getElem?_push, if_neg (Nat.ne_of_lt hq)]
    have kk := kk H1 locs lsM hF ⟨zP_push hR.1 z1 o1 (Or.inr (Or.inr ⟨⟨h9, h11⟩, e1⟩)), ⟨Nat.le_trans hR.2.1 (by omega), fun x h1 h2 => (o1 x (Nat.lt_of_lt_of_le h1 hR.2.1)).trans (hR.2.2.1 x h1 h2), hR.2.2.2⟩⟩
    rw [zlen_push hn.1, zsl_push hn.2, List.map_cons, zV_new (by omega), ← hR.1.1] at kk
    exact kk
  · cases h
theorem zs_35 (hc : zCtx sc p R s mid args meth c base K D G i) (hop : zop w = 35) (hok : zOkI i pc w = true) (hn : n0 ≤ m.length ∧ l0 ≤ zSl m) (hr : m'.length - n0 ≤ R.cells ∧ zSl m' - l0 ≤ R.slots) (h : zOne sc i w pc ls st m = some (.inl (pc', ls', st', m'))) (kk : zGl p l e R s mid args below meth c Q base n0 l0 K D G i pc' ls' st' m') : zGl p l e R s mid args below meth c Q base n0 l0 K D G i pc ls st m := by
  obtain ⟨⟨hx, hb, hml⟩, ⟨hrt, hlk⟩, ⟨hown, hnm⟩, hts, ⟨hKn, hSt⟩, hfr, hlo⟩ := hc
  intro H locs lsM hF hR
  simp only [zOne, hop, ↓reduceIte, Nat.reduceEqDiff, zNx, or_true, true_or, or_false, false_or, or_self] at h
  simp only [zOkI, hop, ↓reduceIte, Nat.reduceEqDiff, Bool.and_eq_true, decide_eq_true_eq] at hok
  split at h
  · rename_i hlt
    cases h
    have hr1 := hr.1
    have hr2 := hr.2
    rw [zlen_push hn.1] at hr1
    rw [zsl_push hn.2] at hr2
    have hr3 : zSl m - l0 + zNF (zb w) ≤ R.slots := hr2
    obtain ⟨hdg, hci, hw, hinst, hini⟩ := hok
    have hKc := hKn.1.1 (zb w) _ (zcl hci)
    refine W.newcK hx hb hown (hts _ (zHas_in hw)) (hts _ (zHas_in hinst)) (hts _ (zIni_in hini)) rfl hdg (by omega) hr3 hKc.2.1 hR.1.1 fun H1 kC hkC e1 z1 o1 => ?_
    have hob := u_born (zTy (zb w)) hts (zk_ws hci) hKc hkC e1 (fun k hk => zTy_ok hci hk)
    have kk := kk H1 locs lsM hF ⟨zP_push hR.1 (by rw [z1, hR.1.1]) (fun q hq => o1 q (by rw [← hR.1.1]; exact hq)) (Or.inl ⟨hci, rfl, hob.to (fun k _ => zDf_ok k)⟩), ⟨Nat.le_trans hR.2.1 (by rw [z1, hR.1.1]; omega), fun x h1 h2 => (o1 x (by rw [← hR.1.1]; exact Nat.lt_of_lt_of_le h1 hR.2.1)).trans (hR.2.2.1 x h1 h2), hR.2.2.2⟩⟩
    rw [zlen_push hn.1, zsl_push hn.2, List.map_cons, zV_new (by omega)] at kk
    exact kk
  · cases h
theorem zs_36 (hc : zCtx sc p R s mid args meth c base K D G i) (hop : zop w = 36) (hok : zOkI i pc w = true) (hn : n0 ≤ m.length ∧ l0 ≤ zSl m) (hr : m'.length - n0 ≤ R.cells ∧ zSl m' - l0 ≤ R.slots) (h : zOne sc i w pc ls st m = some (.inl (pc', ls', st', m'))) (kk : zGl p l e R s mid args below meth c Q base n0 l0 K D G i pc' ls' st' m') : zGl p l e R s mid args below meth c Q base n0 l0 K D G i pc ls st m := by
  obtain ⟨⟨hx, hb, hml⟩, ⟨hrt, hlk⟩, ⟨hown, hnm⟩, hts, ⟨hKn, hSt⟩, hfr, hlo⟩ := hc
  intro H locs lsM hF hR
  rcases st with _ | ⟨a, st⟩
  · simp [zOne, hop] at h
  simp only [zOne, hop, ↓reduceIte, Nat.reduceEqDiff, zNx, or_true, true_or, or_false, false_or, or_self] at h
  simp only [zOkI, hop, ↓reduceIte, Nat.reduceEqDiff, Bool.and_eq_true, decide_eq_true_eq] at hok
  split at h
  · rename_i hlt
    cases h
    have kk := kk H locs lsM hF hR
    obtain ⟨hdg, hw, hf1, hl1⟩ := hok
    obtain ⟨x, ex⟩ := zV_ref (base := base) (K := K) hlt.1.1
    rw [List.map_cons, ex]
    exact W.objInit hx hb hown (hts _ (zHas_in hw)) (hts _ (zk_gl (by simp))) (hts _ (zk_gl (by simp))) rfl (hF.2.1.trans hml.symm) rfl hdg (by omega) (by rw [zV_sum]; show 2 * 0 + _ + 12 ≤ _; omega) kk
  · cases h
theorem zs_42 (hc : zCtx sc p R s mid args meth c base K D G i) (hop : zop w = 42) (hok : zOkI i pc w = true) (hn : n0 ≤ m.length ∧ l0 ≤ zSl m) (hr : m'.length - n0 ≤ R.cells ∧ zSl m' - l0 ≤ R.slots) (h : zOne sc i w pc ls st m = some (.inl (pc', ls', st', m'))) (kk : zGl p l e R s mid args below meth c Q base n0 l0 K D G i pc' ls' st' m') : zGl p l e R s mid args below meth c Q base n0 l0 K D G i pc ls st m := by
  obtain ⟨⟨hx, hb, hml⟩, ⟨hrt, hlk⟩, ⟨hown, hnm⟩, hts, ⟨hKn, hSt⟩, hfr, hlo⟩ := hc
  intro H locs lsM hF hR
  rcases st with _ | ⟨b, _ | ⟨a, st⟩⟩
  · simp [zOne, hop] at h
  · simp [zOne, hop] at h
  simp only [zOne, hop, ↓reduceIte, Nat.reduceEqDiff, zNx, or_true, true_or, or_false, false_or, or_self] at h
  simp only [zOkI, hop, ↓reduceIte, Nat.reduceEqDiff, Bool.and_eq_true, decide_eq_true_eq] at hok
  split at h
  · rename_i hlt
    cases h
    have kk := kk H locs lsM hF hR
    obtain ⟨hdg, hw, hf1, hl1⟩ := hok
    rw [List.map_cons, List.map_cons, zV_int hlt.1.1, zV_int hlt.1.2]
    refine va_mmin hx hb (hml.trans hF.2.1.symm) hown (hts _ (zHas_in hw)) (hts _ (zk_gl (by simp))) (hts _ (zk_gl (by simp))) (hts _ (zk_gl (by simp))) (by omega) (by rw [zV_sum]; omega) hr.1 hr.2 hdg ?_
    rw [List.map_cons] at kk
    by_cases hq : zlt b a = true
    · rw [if_pos hq, zV_int (by omega)] at kk
      rw [if_pos ((zn_lt (by omega) (by omega)).mpr hq)]
      exact kk
    · rw [if_neg hq, zV_int (by omega)] at kk
      rw [if_neg (fun z => hq ((zn_lt (by omega) (by omega)).mp z))]
      exact kk
  · cases h
theorem zs_43 (hc : zCtx sc p R s mid args meth c base K D G i) (hop : zop w = 43) (hok : zOkI i pc w = true) (hn : n0 ≤ m.length ∧ l0 ≤ zSl m) (hr : m'.length - n0 ≤ R.cells ∧ zSl m' - l0 ≤ R.slots) (h : zOne sc i w pc ls st m = some (.inl (pc', ls', st', m'))) (kk : zGl p l e R s mid args below meth c Q base n0 l0 K D G i pc' ls' st' m') : zGl p l e R s mid args below meth c Q base n0 l0 K D G i pc ls st m := by
  obtain ⟨⟨hx, hb, hml⟩, ⟨hrt, hlk⟩, ⟨hown, hnm⟩, hts, ⟨hKn, hSt⟩, hfr, hlo⟩ := hc
  intro H locs lsM hF hR
  rcases st with _ | ⟨b, _ | ⟨a, st⟩⟩
  · simp [zOne, hop] at h
  · simp [zOne, hop] at h
  simp only [zOne, hop, ↓reduceIte, Nat.reduceEqDiff, zNx, or_true, true_or, or_false, false_or, or_self] at h
  simp only [zOkI, hop, ↓reduceIte, Nat.reduceEqDiff, Bool.and_eq_true, decide_eq_true_eq] at hok
  split at h
  · rename_i hlt
    cases h
    have kk := kk H locs lsM hF hR
    obtain ⟨hdg, hw, hf1, hl1⟩ := hok
    rw [List.map_cons, List.map_cons, zV_int hlt.1.1, zV_int hlt.1.2]
    refine va_mmax hx hb (hml.trans hF.2.1.symm) hown (hts _ (zHas_in hw)) (hts _ (zk_gl (by simp))) (hts _ (zk_gl (by simp))) (hts _ (zk_gl (by simp))) (by omega) (by rw [zV_sum]; omega) hr.1 hr.2 hdg ?_
    rw [List.map_cons] at kk
    by_cases hq : zlt a b = true
    · rw [if_pos hq, zV_int (by omega)] at kk
      rw [if_pos ((zn_lt (by omega) (by omega)).mpr hq)]
      exact kk
    · rw [if_neg hq, zV_int (by omega)] at kk
      rw [if_neg (fun z => hq ((zn_lt (by omega) (by omega)).mp z))]
      exact kk
  · cases h
theorem zs_44 (hc : zCtx sc p R s mid args meth c base K D G i) (hop : zop w = 44) (hok : zOkI i pc w = true) (hn : n0 ≤ m.length ∧ l0 ≤ zSl m) (hr : m'.length - n0 ≤ R.cells ∧ zSl m' - l0 ≤ R.slots) (h : zOne sc i w pc ls st m = some (.inl (pc', ls', st', m'))) (kk : zGl p l e R s mid args below meth c Q base n0 l0 K D G i pc' ls' st' m') : zGl p l e R s mid args below meth c Q base n0 l0 K D G i pc ls st m := by
  obtain ⟨⟨hx, hb, hml⟩, ⟨hrt, hlk⟩, ⟨hown, hnm⟩, hts, ⟨hKn, hSt⟩, hfr, hlo⟩ := hc
  intro H locs lsM hF hR
  rcases st with _ | ⟨n, _ | ⟨dp, _ | ⟨rd, _ | ⟨sp, _ | ⟨rs, st⟩⟩⟩⟩⟩
  · simp [zOne, hop] at h
  · simp [zOne, hop] at h
  · simp [zOne, hop] at h
  · simp [zOne, hop] at h
  · simp [zOne, hop] at h
  simp only [zOne, hop, ↓reduceIte, Nat.reduceEqDiff, zNx, or_true, true_or, or_false, false_or, or_self] at h
  simp only [zOkI, hop, ↓reduceIte, Nat.reduceEqDiff, Bool.and_eq_true, decide_eq_true_eq] at hok
  split at h
  · rename_i k0 n0' f k1 n1 g hat0 hat1
    split at h
    · rename_i hlt
      obtain ⟨⟨rfl, rfl, h4, h5⟩, h0m, h1m, hst8⟩ := hlt
      cases h
      obtain ⟨hdg, hw, hf1, hl1⟩ := hok
      obtain ⟨hv0, hc0⟩ := zP_int hR.1 hat0 (by decide)
      obtain ⟨hv1, hc1⟩ := zP_int hR.1 hat1 (by decide)
      have hm := (zAt_some hat1).2
      have cn := nI_clamp (n := n) (by omega)
      have csp := nI_clamp (n := sp) (by omega)
      have cdp := nI_clamp (n := dp) (by omega)
      simp only [List.map_cons]
      rw [zV_int (show n < 4294967296 by omega), zV_int (show dp < 4294967296 by omega), zV_int (show sp < 4294967296 by omega), hv0, hv1]
      refine zW_copy hx hb (hml.trans hF.2.1.symm) hown (hts _ (zHas_in hw)) (hts _ (zk_gl (by simp))) (hts _ (zk_gl (by simp))) (hts _ (zk_gl (by simp))) hc0 hc1 (hKn.1.2 0 _ rfl).1 (hKn.1.2 0 _ rfl).1 (nI_pos (by omega)) (nI_pos (by omega)) (nI_pos (by omega)) (by rw [cn, csp]; exact h4) (by rw [cn, cdp]; exact h5) (by omega) (by rw [zV_sum, zNFW]; omega) hdg fun H1 locs1 z1 e1 oq hlq => ?_
      rw [cn, csp, cdp] at e1
      have e2 : (fun j => Value.int (va_cpy (fun j => nI (f j)) (fun j => nI (g j)) sp dp n j)) = fun j => Value.int (nI (zCpy f g sp dp n j)) := funext fun j => by rw [zcpy_eq]
      rw [e2] at e1
      have hP2 : zP D G base K (m.set (rd - 4294967297) (7, n1, zCpy f g sp dp n)) H1 := zP_set hR.1 z1 oq (Or.inr (Or.inl ⟨z78a, e1⟩))
      have kk := kk H1 locs1 lsM hF ⟨hP2, ⟨by rw [z1]; exact hR.2.1, fun q g1 g2 => (oq q (fun e => g2 (by omega))).trans (hR.2.2.1 q g1 g2), fun q hq => by
        rcases hlq q hq with h | h
        · exact hR.2.2.2 q h
        · rw [h]
          exact Nat.le_add_right _ _⟩⟩
      rw [List.length_set, zSl_set hm] at kk
      exact kk
    · cases h
  · cases h
end ZA
