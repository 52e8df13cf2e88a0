/-! ===== what is known of a state's tables, and of a method's walk ===== -/
def zNs (w : Cond) : Bool := match w with
  | .methodLinkNest _ _ _ _ => true
  | .fieldLinkNest _ _ _ _ _ _ => true
  | _ => false
def zKn (D : va_G) (G : Nat → ClassId) (U : State) : Prop := va_K D vwCl [(G 7, .int), (G 8, .char), (G 9, .object RX0), (G 10, .object RX2), (G 11, .object RX1)] U ∧ (va_AO RX0 U ∧ va_AO RX1 U ∧ va_AO RX2 U) ∧ ∀ w ∈ lw_tbl, zNs w = true → va_Nw w U
theorem zKn_moved {D : va_G} {G : Nat → ClassId} {s U : State} (hW : s.WarmedH U.vm) (h : zKn D G s) : zKn D G U := by
  refine ⟨va_K.moved hW.alike h.1, ⟨h.2.1.1.moved hW.alike, h.2.1.2.1.moved hW.alike, h.2.1.2.2.moved hW.alike⟩, fun w hw hn => ?_⟩
  have hz := h.2.2 w hw hn
  cases w <;> first | exact va_Nw.warmM hW hz | exact va_Nw.warmF hW hz | exact absurd hn (by simp [zNs])
theorem zKn_same {D : va_G} {G : Nat → ClassId} {s U : State} (hv : s.vm = U.vm) (h : zKn D G s) : zKn D G U := by
  have ha : s.vm.Alike U.vm := by rw [hv]; exact Vm.Alike.refl U.vm
  refine ⟨va_K.moved ha h.1, ⟨h.2.1.1.moved ha, h.2.1.2.1.moved ha, h.2.1.2.2.moved ha⟩, fun w hw hn => ?_⟩
  have hz := h.2.2 w hw hn
  cases w <;> first | exact va_Nw.same rfl hv hz | exact absurd hn (by simp [zNs])
def zSt (base : Nat) (K : Nat → Nat) (U : State) (H : Heap) : Prop := ∀ j, j < 3 → va_Z RX5 (zSn j) "[I" (.ref (K j)) (fun q => base ≤ q) U H ∧ va_T .int (K j) 5 (fun k => .int (nI ((zCT j).getD k 0))) (fun q => base ≤ q) U H
theorem zSt_moved {base : Nat} {K : Nat → Nat} {s U : State} {H : Heap} (ha : s.vm.Alike U.vm) (h : zSt base K s H) : zSt base K U H := fun j hj => ⟨va_Z.moved ha (h j hj).1, va_T.moved ha (h j hj).2⟩
theorem zSt_kept {base : Nat} {K : Nat → Nat} {U : State} {H H1 : Heap} (h : zSt base K U H) (hq : ∀ a : Nat, a < H.size → ¬ base ≤ a → H1[a]? = H[a]?) : zSt base K U H1 := fun j hj => ⟨va_Z.kept (h j hj).1 hq, va_T.kept (h j hj).2 hq⟩
def zCtx (p : Program) (R : Room) (s : State) (mid : MethodId) (args : Array Value) (meth : Method) (c : Code) (base : Nat) (K : Nat → Nat) (D : va_G) (G : Nat → ClassId) (i : Nat) : Prop :=
  (p.tables.exec = Jvm.exec ∧ c.code = zCode i ∧ c.maxLocals = zMaxL i) ∧ (meth.sig.returnType = zRt i ∧ meth.locks = false) ∧ (s.vm.findClass (zOwn i) = some mid.cls ∧ meth.name = (zY i).name) ∧ (∀ w ∈ zWT, w.before args s = true) ∧ (zKn D G s ∧ zSt base K s s.heap) ∧ (zNf i ≤ R.frames ∧ zNl i ≤ R.locals)
def zRel (D : va_G) (G : Nat → ClassId) (base : Nat) (K : Nat → Nat) (s : State) (m : zM) (H : Heap) (locs : List Loc) : Prop := zP D G base K m H ∧ va_S (fun q : Nat => base ≤ q) s.heap H locs
section ZA
variable {p : Program} {l : Launch} {e : Env} {R : Room} {s : State} {mid : MethodId} {args : Array Value} {below : List Frame} {meth : Method} {c : Code} {H : Heap} {locs : List Loc} {cells slots : Nat} {Q : State → Prop}
variable {base : Nat} {K : Nat → Nat} {D : va_G} {G : Nat → ClassId} {i pc w pc' : Nat} {ls st ls' st' : List Nat} {lsM : Array Slot} {m m' : zM}
theorem zs_1 (hc : zCtx p R s mid args meth c base K D G i) (hop : zop w = 1) (hok : zOkI i pc w = true) (hF : zFr base K ls lsM (zMaxL i)) (h : zOne i w pc ls st m = some (.inl (pc', ls', st', m')))
    (kk : m' = m → ∀ lsM' : Array Slot, zFr base K ls' lsM' (zMaxL i) → W p l e R s mid args below meth c H locs cells slots Q (F0 mid pc' lsM' (st'.map (zV base K)))) : W p l e R s mid args below meth c H locs cells slots Q (F0 mid pc lsM (st.map (zV base K))) := by
  obtain ⟨⟨hx, hb, hml⟩, ⟨hr, hlk⟩, ⟨hown, hnm⟩, hts, -, -⟩ := hc
  simp only [zOne, hop, ↓reduceIte, zNx, Option.some.injEq, Sum.inl.injEq, Prod.mk.injEq] at h
  obtain ⟨rfl, rfl, rfl, rfl⟩ := h
  have kk := kk rfl lsM hF
  rw [List.map_cons, zV_int (za_lt w)] at kk
  simp only [zOkI, hop, ↓reduceIte] at hok
  split at hok
  · simp only [Bool.and_eq_true, decide_eq_true_eq] at hok
    obtain ⟨h1, h2, h3⟩ := hok
    rw [h2] at kk
    exact lv_iconst hx hb h1 h3 kk
  · simp only [Bool.and_eq_true, decide_eq_true_eq] at hok
    obtain ⟨h1, h2, h3⟩ := hok
    rw [h2] at kk
    exact lv_bipush hx hb h1 h3 kk
  · simp only [Bool.and_eq_true, decide_eq_true_eq] at hok
    obtain ⟨h1, h2, h3⟩ := hok
    rw [h2] at kk
    exact lv_sipush hx hb h1 h3 kk
  · simp only [Bool.and_eq_true, decide_eq_true_eq] at hok
    obtain ⟨h1, h2, h3⟩ := hok
    rw [h2] at kk
    exact lv_ldc hx hb hown (hts _ (zHas_in h3)) h1 kk
theorem zs_2 (hc : zCtx p R s mid args meth c base K D G i) (hop : zop w = 2) (hok : zOkI i pc w = true) (hF : zFr base K ls lsM (zMaxL i)) (h : zOne i w pc ls st m = some (.inl (pc', ls', st', m')))
    (kk : m' = m → ∀ lsM' : Array Slot, zFr base K ls' lsM' (zMaxL i) → W p l e R s mid args below meth c H locs cells slots Q (F0 mid pc' lsM' (st'.map (zV base K)))) : W p l e R s mid args below meth c H locs cells slots Q (F0 mid pc lsM (st.map (zV base K))) := by
  obtain ⟨⟨hx, hb, hml⟩, ⟨hr, hlk⟩, ⟨hown, hnm⟩, hts, -, -⟩ := hc
  simp only [zOne, hop, ↓reduceIte, Nat.reduceEqDiff, zNx] at h
  split at h
  · rename_i v hv
    split at h
    · rename_i hlt
      simp only [Option.some.injEq, Sum.inl.injEq, Prod.mk.injEq] at h
      obtain ⟨rfl, rfl, rfl, rfl⟩ := h
      have kk := kk rfl lsM hF
      have hat := zFr_at hF hv (by omega)
      rw [zV_int hlt] at hat
      rw [List.map_cons, zV_int hlt] at kk
      simp only [zOkI, hop, ↓reduceIte, Nat.reduceEqDiff] at hok
      split at hok
      · simp only [Bool.and_eq_true, decide_eq_true_eq] at hok
        obtain ⟨h1, h2, h3⟩ := hok
        rw [h2] at kk
        exact lv_iload_n hx hb h1 (Nat.mod_eq_of_lt h3) hat kk
      · simp only [Bool.and_eq_true, decide_eq_true_eq] at hok
        obtain ⟨h1, h2⟩ := hok
        rw [h2] at kk
        exact lv_iload hx hb h1 hat kk
    · cases h
  · cases h
theorem zs_7 (hc : zCtx p R s mid args meth c base K D G i) (hop : zop w = 7) (hok : zOkI i pc w = true) (hF : zFr base K ls lsM (zMaxL i)) (h : zOne i w pc ls st m = some (.inl (pc', ls', st', m')))
    (kk : m' = m → ∀ lsM' : Array Slot, zFr base K ls' lsM' (zMaxL i) → W p l e R s mid args below meth c H locs cells slots Q (F0 mid pc' lsM' (st'.map (zV base K)))) : W p l e R s mid args below meth c H locs cells slots Q (F0 mid pc lsM (st.map (zV base K))) := by
  obtain ⟨⟨hx, hb, hml⟩, ⟨hr, hlk⟩, ⟨hown, hnm⟩, hts, -, -⟩ := hc
  simp only [zOne, hop, ↓reduceIte, Nat.reduceEqDiff, zNx] at h
  simp only [zOkI, hop, ↓reduceIte, Nat.reduceEqDiff, decide_eq_true_eq] at hok
  split at h
  · rename_i b a st
    split at h
    · rename_i hlt
      simp only [Option.some.injEq, Sum.inl.injEq, Prod.mk.injEq] at h
      obtain ⟨rfl, rfl, rfl, rfl⟩ := h
      have kk := kk rfl lsM hF
      rw [List.map_cons, zV_int (Nat.mod_lt _ (by decide)), zn_add] at kk
      rw [List.map_cons, List.map_cons, zV_int hlt.1, zV_int hlt.2]
      exact lv_iadd hx hb hok kk
    · cases h
  · cases h
end ZA
