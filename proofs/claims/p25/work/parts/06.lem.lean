/-! ===== numbers ===== -/
theorem zn_mod (x : Nat) : nI (x % 4294967296) = nI x := by
  apply Int32.toBitVec_inj.mp
  apply BitVec.eq_of_toNat_eq
  show (BitVec.ofNat 32 (x % 4294967296)).toNat = (BitVec.ofNat 32 x).toNat
  rw [BitVec.toNat_ofNat, BitVec.toNat_ofNat]
  omega
theorem zn_add (a b : Nat) : nI ((a + b) % 4294967296) = nI a + nI b := by rw [zn_mod, nI_add]
theorem zn_mul (a b : Nat) : nI ((a * b) % 4294967296) = nI a * nI b := by rw [zn_mod, pk_mul]
theorem zn_sub {a b : Nat} (hb : b < 4294967296) : nI ((a + 4294967296 - b) % 4294967296) = nI a - nI b := by
  have h : nI ((a + 4294967296 - b) % 4294967296) + nI b = nI a := by
    rw [nI_add, ← zn_mod, ← zn_mod a]
    congr 1
    omega
  rw [← h, Int32.add_sub_cancel]
theorem zn_and {a b : Nat} (ha : a < 4294967296) (hb : b < 4294967296) : nI (a &&& b) = nI a &&& nI b := by
  apply Int32.toBitVec_inj.mp
  apply BitVec.eq_of_toNat_eq
  show (BitVec.ofNat 32 (a &&& b)).toNat = (BitVec.ofNat 32 a &&& BitVec.ofNat 32 b).toNat
  rw [BitVec.toNat_and, BitVec.toNat_ofNat, BitVec.toNat_ofNat, BitVec.toNat_ofNat, Nat.mod_eq_of_lt ha, Nat.mod_eq_of_lt hb, Nat.mod_eq_of_lt (Nat.lt_of_le_of_lt Nat.and_le_left ha)]
theorem zn_shr {a b : Nat} : nI (zShr a b) = nI a >>> (nI b &&& 31) := by
  apply Int32.toBitVec_inj.mp
  show BitVec.ofNat 32 (nI a >>> (nI b &&& 31)).toBitVec.toNat = _
  rw [BitVec.ofNat_toNat, BitVec.setWidth_eq]
theorem zShr_lt {a b : Nat} : zShr a b < 4294967296 := (nI a >>> (nI b &&& 31)).toBitVec.isLt
theorem zn_toInt {a : Nat} (ha : a < 4294967296) : (nI a).toInt = if a < 2147483648 then (a : Int) else (a : Int) - 4294967296 := by
  show (BitVec.ofNat 32 a).toInt = _
  rw [BitVec.toInt_eq_toNat_cond, BitVec.toNat_ofNat]
  rw [show a % 2 ^ 32 = a by omega]
  split <;> split <;> omega
theorem zn_eq {a b : Nat} (ha : a < 4294967296) (hb : b < 4294967296) : nI a = nI b ↔ a = b := by
  constructor
  · intro h
    have h2 : (nI a).toInt = (nI b).toInt := by rw [h]
    rw [zn_toInt ha, zn_toInt hb] at h2
    split at h2 <;> split at h2 <;> omega
  · intro h; rw [h]
theorem zn_lt {a b : Nat} (ha : a < 4294967296) (hb : b < 4294967296) : nI a < nI b ↔ zlt a b = true := by
  rw [Int32.lt_iff_toInt_lt, zn_toInt ha, zn_toInt hb]
  simp only [zlt, zs, decide_eq_true_eq]
  by_cases h1 : a < 2147483648 <;> by_cases h2 : b < 2147483648 <;> simp only [h1, h2, ↓reduceIte, decide_eq_true_eq] <;> omega
theorem zn_le {a b : Nat} (ha : a < 4294967296) (hb : b < 4294967296) : nI a ≤ nI b ↔ zlt b a = false := by
  rw [Int32.le_iff_toInt_le, zn_toInt ha, zn_toInt hb]
  simp only [zlt, zs]
  by_cases h1 : a < 2147483648 <;> by_cases h2 : b < 2147483648 <;> simp only [h1, h2, ↓reduceIte, decide_eq_false_iff_not] <;> omega
theorem zn_in {j n : Nat} (h : j < n) (hn : n < 2147483648) : ¬ (nI j < 0 ∨ n ≤ (nI j).toNatClampNeg) := nI_in h (by omega)
theorem zn_cl {j n : Nat} (h : j < n) (hn : n < 2147483648) : (nI j).toNatClampNeg = j := nI_clamp (by omega)
theorem za_lt (w : Nat) : za w < 4294967296 := Nat.mod_lt _ (by decide)
/-! ===== values ===== -/
def zV (base : Nat) (K : Nat → Nat) (c : Nat) : Value := if c < 4294967296 then .int (nI c) else if c = 4294967296 then .null else if c < 8589934592 then .ref (base + (c - 4294967297)) else .ref (K (c - 8589934592))
section ZV
variable {base : Nat} {K : Nat → Nat} {c : Nat}
theorem zV_int (h : c < 4294967296) : zV base K c = .int (nI c) := if_pos h
theorem zV_null : zV base K 4294967296 = .null := rfl
theorem zV_cell (h : 4294967296 < c ∧ c < 8589934592) : zV base K c = .ref (base + (c - 4294967297)) := by
  unfold zV
  rw [if_neg (by omega), if_neg (by omega), if_pos h.2]
theorem zV_st (h : 8589934592 ≤ c) : zV base K c = .ref (K (c - 8589934592)) := by
  unfold zV
  rw [if_neg (by omega), if_neg (by omega), if_neg (by omega)]
theorem zV_ref (h : 4294967296 < c) : ∃ a, zV base K c = .ref a := by
  by_cases h2 : c < 8589934592
  · exact ⟨_, zV_cell ⟨h, h2⟩⟩
  · exact ⟨_, zV_st (by omega)⟩
theorem zV_cat : (zV base K c).category = 1 := by
  unfold zV
  split
  · rfl
  · split
    · rfl
    · split <;> rfl
theorem zV_sum (st : List Nat) : (((st.map (zV base K)).map fun v => v.category)).sum = st.length := by
  induction st with
  | nil => rfl
  | cons a t ih =>
    rw [List.map_cons, List.map_cons, List.sum_cons, ih, zV_cat, List.length_cons]
    omega
end ZV
/-! ===== the locals ===== -/
def zLv (base : Nat) (K : Nat → Nat) (ls : List Nat) : List (Nat × Value) := (List.range ls.length).filterMap (fun j => if ls.getD j 1099511627776 < 1099511627776 then some (j, zV base K (ls.getD j 1099511627776)) else none)
theorem zLv_mem {base : Nat} {K : Nat → Nat} {ls : List Nat} {j : Nat} {v : Value} : (j, v) ∈ zLv base K ls ↔ ∃ c, ls[j]? = some c ∧ c < 1099511627776 ∧ v = zV base K c := by
  unfold zLv
  rw [List.mem_filterMap]
  constructor
  · rintro ⟨y, hk, h⟩
    split at h
    · rename_i hc
      cases h
      have hl := List.mem_range.mp hk
      refine ⟨_, ?_, hc, rfl⟩
      rw [List.getD_eq_getElem?_getD, List.getElem?_eq_getElem hl]
      rfl
    · cases h
  · rintro ⟨c, h1, h2, rfl⟩
    have e : ls.getD j 1099511627776 = c := by rw [List.getD_eq_getElem?_getD, h1]; rfl
    refine ⟨j, List.mem_range.mpr (List.getElem?_eq_some_iff.mp h1).1, ?_⟩
    rw [e, if_pos h2]
def zFr (base : Nat) (K : Nat → Nat) (ls : List Nat) (lsM : Array Slot) (nL : Nat) : Prop := ls.length = nL ∧ lv_has lsM nL (zLv base K ls)
theorem zFr_at {base : Nat} {K : Nat → Nat} {ls : List Nat} {lsM : Array Slot} {nL j c : Nat} (h : zFr base K ls lsM nL) (hj : ls[j]? = some c) (hc : c < 1099511627776) : lsM[j]? = some (.val (zV base K c)) := h.2.2.2 (j, _) (zLv_mem.mpr ⟨c, hj, hc, rfl⟩)
theorem zFr_set {base : Nat} {K : Nat → Nat} {ls : List Nat} {lsM ls' : Array Slot} {nL i c : Nat} (h : zFr base K ls lsM nL) (h' : lv_has ls' nL ((i, zV base K c) :: (zLv base K ls).filter (fun q => !(q.1 == i) && !(q.1 + 1 == i && q.2.category == 2)))) : zFr base K (ls.set i c) ls' nL := by
  refine ⟨by rw [List.length_set]; exact h.1, h'.1, h'.2.1, fun q hq => ?_⟩
  obtain ⟨j, v⟩ := q
  obtain ⟨c', h1, h2, rfl⟩ := zLv_mem.mp hq
  by_cases hj : j = i
  · subst hj
    have hl := (List.getElem?_eq_some_iff.mp h1).1
    rw [List.length_set] at hl
    rw [List.getElem?_set_self hl] at h1
    cases h1
    exact h'.2.2 _ List.mem_cons_self
  · rw [List.getElem?_set_ne (Ne.symm hj)] at h1
    refine h'.2.2 _ (List.mem_cons_of_mem _ (List.mem_filter.mpr ⟨zLv_mem.mpr ⟨c', h1, h2, rfl⟩, ?_⟩))
    have e1 : (zV base K c').category = 1 := zV_cat
    simp [hj, e1]
/-! ===== the memory's cells in the heap ===== -/
def zC (D : va_G) (G : Nat → ClassId) (base : Nat) (K : Nat → Nat) (k : Nat) (x : Nat × Nat × (Nat → Nat)) (H : Heap) : Prop :=
  (x.1 < 6 ∧ x.2.1 = zNF x.1 ∧ t_OB (base + k) (D.1 x.1) x.2.1 (D.2 x.1) H (fun j => zV base K (x.2.2 j))) ∨
  ((7 ≤ x.1 ∧ x.1 ≤ 8) ∧ H[base + k]? = some (arrV (G x.1) x.2.1 (fun j => .int (nI (x.2.2 j))))) ∨
  ((9 ≤ x.1 ∧ x.1 ≤ 11) ∧ H[base + k]? = some (arrV (G x.1) x.2.1 (fun j => zV base K (x.2.2 j))))
theorem zC_kept {D : va_G} {G : Nat → ClassId} {base : Nat} {K : Nat → Nat} {k : Nat} {x : Nat × Nat × (Nat → Nat)} {H H1 : Heap} (h : zC D G base K k x H) (hq : H1[base + k]? = H[base + k]?) : zC D G base K k x H1 := by
  rcases h with ⟨a, b, h⟩ | ⟨a, h⟩ | ⟨a, h⟩
  · exact Or.inl ⟨a, b, h.kept hq⟩
  · exact Or.inr (Or.inl ⟨a, hq.trans h⟩)
  · exact Or.inr (Or.inr ⟨a, hq.trans h⟩)
def zP (D : va_G) (G : Nat → ClassId) (base : Nat) (K : Nat → Nat) (m : zM) (H : Heap) : Prop := H.size = base + m.length ∧ ∀ (k : Nat) (x : Nat × Nat × (Nat → Nat)), m[k]? = some x → zC D G base K k x H
theorem zP_set {D : va_G} {G : Nat → ClassId} {base : Nat} {K : Nat → Nat} {m : zM} {H H1 : Heap} {k : Nat} {x : Nat × Nat × (Nat → Nat)} (h : zP D G base K m H) (hz : H1.size = H.size) (oq : ∀ q : Nat, q ≠ base + k → H1[q]? = H[q]?) (hx : zC D G base K k x H1) : zP D G base K (m.set k x) H1 := by
  refine ⟨by rw [hz, List.length_set]; exact h.1, fun j y hj => ?_⟩
  by_cases e : j = k
  · subst e
    have hl := (List.getElem?_eq_some_iff.mp hj).1
    rw [List.length_set] at hl
    rw [List.getElem?_set_self hl] at hj
    cases hj
    exact hx
  · rw [List.getElem?_set_ne (Ne.symm e)] at hj
    exact zC_kept (h.2 j y hj) (oq _ (by omega))
theorem zP_push {D : va_G} {G : Nat → ClassId} {base : Nat} {K : Nat → Nat} {m : zM} {H H1 : Heap} {x : Nat × Nat × (Nat → Nat)} (h : zP D G base K m H) (hz : H1.size = H.size + 1) (oq : ∀ q : Nat, q < H.size → H1[q]? = H[q]?) (hx : zC D G base K m.length x H1) : zP D G base K (m ++ [x]) H1 := by
  refine ⟨by rw [hz, List.length_append, h.1]; rfl, fun j y hj => ?_⟩
  by_cases e : j < m.length
  · rw [List.getElem?_append_left e] at hj
    exact zC_kept (h.2 j y hj) (oq _ (by rw [h.1]; omega))
  · rw [List.getElem?_append_right (by omega)] at hj
    have hz : j - m.length < 1 := (List.getElem?_eq_some_iff.mp hj).1
    rw [show j - m.length = 0 by omega] at hj
    cases hj
    rw [show j = m.length by omega]
    exact hx
theorem zAt_some {m : zM} {r : Nat} {x : Nat × Nat × (Nat → Nat)} (h : zAt m r = some x) : (4294967296 < r ∧ r < 8589934592) ∧ m[r - 4294967297]? = some x := by
  unfold zAt at h
  split at h
  · exact ⟨by assumption, h⟩
  · cases h
theorem zSl_set {m : zM} {k : Nat} {kd n : Nat} {f g : Nat → Nat} {kd' : Nat} (h : m[k]? = some (kd, n, f)) : zSl (m.set k (kd', n, g)) = zSl m := by
  unfold zSl
  congr 1
  apply List.ext_getElem?
  intro j
  rw [List.getElem?_map, List.getElem?_map]
  by_cases e : j = k
  · subst e
    rw [List.getElem?_set_self (List.getElem?_eq_some_iff.mp h).1, h]
    rfl
  · rw [List.getElem?_set_ne (Ne.symm e)]
theorem zSl_push (m : zM) (x : Nat × Nat × (Nat → Nat)) : zSl (m ++ [x]) = zSl m + x.2.1 := by
  unfold zSl
  simp
