/-! ===== the pure machine walked by hand: one row an instruction ===== -/
section HA
variable {sc : List Nat} {Q : Nat → zM → Prop} {frs : gCf} {i pc w pc2 : Nat} {ls st : List Nat} {m : zM}
theorem zAt_lt {r : Nat} {x : Nat × Nat × (Nat → Nat)} (h : zAt m r = some x) : 4294967296 < r ∧ r < 8589934592 := by
  unfold zAt at h
  by_cases q : 4294967296 < r ∧ r < 8589934592
  · exact q
  · rw [if_neg q] at h
    cases h
theorem h_con {v : Nat} (hw : zI i pc = w) (ho : (zop w = 1 ∧ pc + zln w = pc2) ∧ za w = v) (g : gFin sc Q frs i pc2 ls (v :: st) m) : gFin sc Q frs i pc ls st m := by
  subst hw
  obtain ⟨⟨h1, rfl⟩, rfl⟩ := ho
  exact gFin_step (zIsC_f (Or.inl (by omega))) (by simp only [zOne, h1, ↓reduceIte, zNx]) g
theorem h_ldi {c : Nat} (hw : zI i pc = w) (ho : zop w = 2 ∧ pc + zln w = pc2) (hl : ls[za w]? = some c) (hc : c < 4294967296) (g : gFin sc Q frs i pc2 ls (c :: st) m) : gFin sc Q frs i pc ls st m := by
  subst hw
  obtain ⟨h1, rfl⟩ := ho
  exact gFin_step (zIsC_f (Or.inl (by omega))) (by simp only [zOne, h1, ↓reduceIte, Nat.reduceEqDiff, hl, zNx, if_pos hc]) g
theorem h_ldr {c : Nat} (hw : zI i pc = w) (ho : zop w = 3 ∧ pc + zln w = pc2) (hl : ls[za w]? = some c) (hc : 4294967296 < c ∧ c < 8589934592) (g : gFin sc Q frs i pc2 ls (c :: st) m) : gFin sc Q frs i pc ls st m := by
  subst hw
  obtain ⟨h1, rfl⟩ := ho
  have hc2 : 4294967296 < c ∧ c < 1099511627776 := by omega
  exact gFin_step (zIsC_f (Or.inl (by omega))) (by simp only [zOne, h1, ↓reduceIte, Nat.reduceEqDiff, hl, zNx, if_pos hc2]) g
theorem h_sti {c n : Nat} {ls2 : List Nat} (hw : zI i pc = w) (ho : (zop w = 4 ∧ pc + zln w = pc2) ∧ za w < n) (hn : ls.length = n) (hc : c < 4294967296) (hs : ls.set (za w) c = ls2) (g : gFin sc Q frs i pc2 ls2 st m) : gFin sc Q frs i pc ls (c :: st) m := by
  subst hw
  subst hs
  subst hn
  obtain ⟨⟨h1, rfl⟩, hl⟩ := ho
  exact gFin_step (zIsC_f (Or.inl (by omega))) (by simp only [zOne, h1, ↓reduceIte, Nat.reduceEqDiff, zNx, if_pos (And.intro hc hl)]) g
theorem h_inc {c c2 : Nat} {ls2 : List Nat} (hw : zI i pc = w) (ho : zop w = 6 ∧ pc + 3 = pc2) (hl : ls[zb w]? = some c) (hc : c < 4294967296) (hv : (c + za w) % 4294967296 = c2) (hs : ls.set (zb w) c2 = ls2) (g : gFin sc Q frs i pc2 ls2 st m) : gFin sc Q frs i pc ls st m := by
  subst hw
  subst hv
  subst hs
  obtain ⟨h1, rfl⟩ := ho
  exact gFin_step (zIsC_f (Or.inl (by omega))) (by simp only [zOne, h1, ↓reduceIte, Nat.reduceEqDiff, hl, zNx, if_pos hc]) g
theorem h_add {a b c : Nat} (hw : zI i pc = w) (ho : zop w = 7 ∧ pc + 1 = pc2) (ha : a < 4294967296) (hb : b < 4294967296) (hv : (a + b) % 4294967296 = c) (g : gFin sc Q frs i pc2 ls (c :: st) m) : gFin sc Q frs i pc ls (b :: a :: st) m := by
  subst hw
  subst hv
  obtain ⟨h1, rfl⟩ := ho
  exact gFin_step (zIsC_f (Or.inl (by omega))) (by simp only [zOne, h1, ↓reduceIte, Nat.reduceEqDiff, zNx, if_pos (And.intro ha hb)]) g
theorem h_mul {a b c : Nat} (hw : zI i pc = w) (ho : zop w = 9 ∧ pc + 1 = pc2) (ha : a < 4294967296) (hb : b < 4294967296) (hv : (a * b) % 4294967296 = c) (g : gFin sc Q frs i pc2 ls (c :: st) m) : gFin sc Q frs i pc ls (b :: a :: st) m := by
  subst hw
  subst hv
  obtain ⟨h1, rfl⟩ := ho
  exact gFin_step (zIsC_f (Or.inl (by omega))) (by simp only [zOne, h1, ↓reduceIte, Nat.reduceEqDiff, zNx, if_pos (And.intro ha hb)]) g
theorem h_dup2 {a b : Nat} (hw : zI i pc = w) (ho : zop w = 16 ∧ pc + 1 = pc2) (ha : a < 8589934592) (hb : b < 8589934592) (g : gFin sc Q frs i pc2 ls (b :: a :: b :: a :: st) m) : gFin sc Q frs i pc ls (b :: a :: st) m := by
  subst hw
  obtain ⟨h1, rfl⟩ := ho
  have h2 : a < 1099511627776 ∧ b < 1099511627776 := by omega
  exact gFin_step (zIsC_f (Or.inl (by omega))) (by simp only [zOne, h1, ↓reduceIte, Nat.reduceEqDiff, zNx, if_pos h2]) g
theorem h_if {a : Nat} {b : Bool} (hw : zI i pc = w) (ho : zop w = 17 ∧ (bif b then za w else pc + 3) = pc2) (ha : a < 4294967296) (hb : zCmp (zb w) a 0 = b) (g : gFin sc Q frs i pc2 ls st m) : gFin sc Q frs i pc ls (a :: st) m := by
  subst hw
  subst hb
  obtain ⟨h1, rfl⟩ := ho
  refine gFin_step (zIsC_f (Or.inl (by omega))) (by simp only [zOne, h1, ↓reduceIte, Nat.reduceEqDiff, zNx, if_pos ha]; rfl) ?_
  revert g
  cases zCmp (zb (zI i pc)) a 0 <;> exact fun g => g
theorem h_icmp {x y : Nat} {b : Bool} (hw : zI i pc = w) (ho : zop w = 18 ∧ (bif b then za w else pc + 3) = pc2) (ha : x < 4294967296) (hy : y < 4294967296) (hb : zCmp (zb w) x y = b) (g : gFin sc Q frs i pc2 ls st m) : gFin sc Q frs i pc ls (y :: x :: st) m := by
  subst hw
  subst hb
  obtain ⟨h1, rfl⟩ := ho
  refine gFin_step (zIsC_f (Or.inl (by omega))) (by simp only [zOne, h1, ↓reduceIte, Nat.reduceEqDiff, zNx, if_pos (And.intro ha hy)]; rfl) ?_
  revert g
  cases zCmp (zb (zI i pc)) x y <;> exact fun g => g
theorem h_goto (hw : zI i pc = w) (ho : zop w = 19 ∧ za w = pc2) (g : gFin sc Q frs i pc2 ls st m) : gFin sc Q frs i pc ls st m := by
  subst hw
  obtain ⟨h1, rfl⟩ := ho
  exact gFin_step (zIsC_f (Or.inl (by omega))) (by simp only [zOne, h1, ↓reduceIte, Nat.reduceEqDiff, zNx]) g
theorem h_get {r kd n v : Nat} {f : Nat → Nat} (hw : zI i pc = w) (ho : (zop w = 22 ∧ pc + 3 = pc2) ∧ kd = zb w ∧ zc w < n) (hz : zAt m r = some (kd, n, f)) (hv : f (zc w) = v) (g : gFin sc Q frs i pc2 ls (v :: st) m) : gFin sc Q frs i pc ls (r :: st) m := by
  subst hw
  subst hv
  obtain ⟨⟨h1, rfl⟩, h2⟩ := ho
  exact gFin_step (zIsC_f (Or.inl (by omega))) (by simp only [zOne, h1, ↓reduceIte, Nat.reduceEqDiff, or_self, hz, zNx, if_pos h2]) g
theorem h_ald {r n j v : Nat} {f : Nat → Nat} (hw : zI i pc = w) (ho : zop w = 26 ∧ pc + 1 = pc2) (hz : zAt m r = some (7, n, f)) (hj : j < n) (hn : n < 2147483648) (hf : f j = v) (hv : v < 4294967296) (g : gFin sc Q frs i pc2 ls (v :: st) m) : gFin sc Q frs i pc ls (j :: r :: st) m := by
  subst hw
  subst hf
  obtain ⟨h1, rfl⟩ := ho
  have h0 : ¬ 8589934592 ≤ r := by have := zAt_lt hz; omega
  have h2 : (True ∧ j < n ∧ n < 2147483648) ∧ f j < 4294967296 := ⟨⟨trivial, hj, hn⟩, hv⟩
  exact gFin_step (zIsC_f (Or.inl (by omega))) (by simp only [zOne, h1, ↓reduceIte, Nat.reduceEqDiff, or_self, hz, zNx, if_neg h0, if_pos h2]) g
theorem h_ast {r n j v : Nat} {f : Nat → Nat} {m2 : zM} (hw : zI i pc = w) (ho : zop w = 27 ∧ pc + 1 = pc2) (hz : zAt m r = some (7, n, f)) (hj : j < n) (hn : n < 2147483648) (hv : v < 4294967296) (hm : m.set (r - 4294967297) (7, n, zUp f j v) = m2) (g : gFin sc Q frs i pc2 ls st m2) : gFin sc Q frs i pc ls (v :: j :: r :: st) m := by
  subst hw
  subst hm
  obtain ⟨h1, rfl⟩ := ho
  have h2 : (True ∧ j < n ∧ n < 2147483648) ∧ v < 4294967296 := ⟨⟨trivial, hj, hn⟩, hv⟩
  exact gFin_step (zIsC_f (Or.inl (by omega))) (by simp only [zOne, h1, ↓reduceIte, Nat.reduceEqDiff, or_self, hz, zNx, if_pos h2]) g
theorem h_ret {v : Nat} (hw : zI i pc = w) (ho : zop w = 45 ∧ (zRet i = 1 ∨ zRet i = 2)) (hv : v < 4294967296) (h2 : zRet i = 2 → v < 2) (g : gFin1 sc Q frs i v m) : gFin sc Q frs i pc ls [v] m := by
  subst hw
  obtain ⟨h1, h3⟩ := ho
  have h4 : v < 4294967296 ∧ (zRet i = 1 ∨ (zRet i = 2 ∧ v < 2)) := ⟨hv, h3.imp (fun z => z) (fun z => ⟨z, h2 z⟩)⟩
  exact gFin_ret (by unfold zIsC; rw [h1]; rfl) (by simp only [zOne, h1, ↓reduceIte, Nat.reduceEqDiff, or_self, if_pos h4]) g
theorem h_ret0 (hw : zI i pc = w) (ho : zop w = 46 ∧ zRet i = 0) (g : gFin1 sc Q frs i 0 m) : gFin sc Q frs i pc ls [] m := by
  subst hw
  obtain ⟨h1, h3⟩ := ho
  exact gFin_ret (by unfold zIsC; rw [h1]; rfl) (by simp only [zOne, h1, ↓reduceIte, Nat.reduceEqDiff, or_self, h3]) g
/-- a call that is run by hand -/
theorem h_call {a : Nat} {st2 l2 : List Nat} (hw : zI i pc = w) (ho : zIsC w = true ∧ za w = a) (hk : zCOk w st m = true) (hd : st.drop (zb w) = st2) (hl : zEn (za w) (zb w) st = l2) (g : gFin sc Q ((i, pc, ls, st2) :: frs) a 0 l2 [] m) : gFin sc Q frs i pc ls st m := by
  subst hw
  subst hd
  subst hl
  obtain ⟨h1, rfl⟩ := ho
  exact gFin_call h1 hk g
theorem zlt_iff {a b : Nat} (ha : a < 2147483648) (hb : b < 2147483648) : zlt a b = decide (a < b) := by
  have e1 := zs_lo ha
  have e2 := zs_lo hb
  unfold zlt
  rw [e1, e2]
  by_cases q : a < b
  · rw [decide_eq_true q, decide_eq_true (by omega)]
  · rw [decide_eq_false q, decide_eq_false (by omega)]
theorem zc_ge_t {a b : Nat} (ha : a < 2147483648) (hb : b < 2147483648) (h : b ≤ a) : zCmp 3 a b = true := by
  show (!zlt a b) = true
  rw [zlt_iff ha hb, decide_eq_false (by omega)]
  rfl
theorem zc_ge_f {a b : Nat} (ha : a < 2147483648) (hb : b < 2147483648) (h : a < b) : zCmp 3 a b = false := by
  show (!zlt a b) = false
  rw [zlt_iff ha hb, decide_eq_true h]
  rfl
theorem zc_le_t {a b : Nat} (ha : a < 2147483648) (hb : b < 2147483648) (h : a ≤ b) : zCmp 5 a b = true := by
  show (!zlt b a) = true
  rw [zlt_iff hb ha, decide_eq_false (by omega)]
  rfl
theorem zc_le_f {a b : Nat} (ha : a < 2147483648) (hb : b < 2147483648) (h : b < a) : zCmp 5 a b = false := by
  show (!zlt b a) = false
  rw [zlt_iff hb ha, decide_eq_true h]
  rfl
theorem zc_ne_t {a b : Nat} (h : a ≠ b) : zCmp 1 a b = true := by
  show (!decide (a = b)) = true
  rw [decide_eq_false h]
  rfl
theorem zc_ne_f {a b : Nat} (h : a = b) : zCmp 1 a b = false := by
  show (!decide (a = b)) = false
  rw [decide_eq_true h]
  rfl
theorem zc_eq_t {a b : Nat} (h : a = b) : zCmp 0 a b = true := decide_eq_true h
theorem zc_eq_f {a b : Nat} (h : a ≠ b) : zCmp 0 a b = false := decide_eq_false h
/-- a call's conditions: of an object's method, of a static one -/
theorem zCOk_v {n r kd x : Nat} {f : Nat → Nat} (h37 : zop w = 37 ∧ zb w = n + 1) (hs : st[n]? = some r) (hz : zAt m r = some (kd, x, f)) (hk : kd = zMtf (za w) 0 ∧ n + 1 ≤ zMaxL (za w)) (hl : n + 1 ≤ st.length ∧ st.length ≤ n + 9) (ha : ∀ c ∈ st.take (n + 1), c < 8589934592) : zCOk w st m = true := by
  unfold zCOk zRcv
  rw [if_pos h37.1, h37.2, Nat.add_sub_cancel, hs]
  simp only [hz, Bool.and_eq_true, decide_eq_true_eq]
  refine ⟨⟨hl.1, by omega⟩, ⟨hk.1, Nat.succ_pos n⟩, List.all_eq_true.mpr fun c hc => ?_, hk.2⟩
  have := ha c hc
  simp only [decide_eq_true_eq]
  omega
theorem zCOk_s {n : Nat} (h38 : zop w = 38 ∧ zb w = n) (hk : n ≤ zMaxL (za w)) (hl : n ≤ st.length ∧ st.length ≤ n + 8) (ha : ∀ c ∈ st.take n, c < 8589934592) : zCOk w st m = true := by
  unfold zCOk zRcv
  rw [if_neg (by omega), if_neg (by omega), h38.2]
  simp only [Bool.and_eq_true, decide_eq_true_eq]
  refine ⟨hl, trivial, List.all_eq_true.mpr fun c hc => ?_, hk⟩
  have := ha c hc
  simp only [decide_eq_true_eq]
  omega
end HA
