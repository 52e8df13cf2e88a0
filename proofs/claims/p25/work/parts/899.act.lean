/-! ===== the law's numbers, its act (printed by wip/gen/m899.py) ===== -/
def lo1 (v n : Nat) : Nat := (v &&& 2147483647) % n
theorem lo1_lt {v n : Nat} (h : 0 < n) : lo1 v n < n := Nat.mod_lt _ h
def cel (sc : List Nat) (k : Nat) : Nat := if k < sc.length then sc.getD k 0 else add1 (mul1 40503 k) 977
/-- the ticks of a run -/
def tk1 (sc : List Nat) (k : Nat) : Nat := 1 + lo1 (cel sc (k + 2)) (bif Nat.beq (lo1 (cel sc (k + 1)) 4) 0 then 60 else 5)
theorem tk1_b {sc : List Nat} {k : Nat} : 1 ≤ tk1 sc k ∧ tk1 sc k ≤ 60 := by
  unfold tk1
  cases Nat.beq (lo1 (cel sc (k + 1)) 4) 0
  · have := lo1_lt (v := cel sc (k + 2)) (n := 5) (by decide)
    rw [cond_false]
    omega
  · have := lo1_lt (v := cel sc (k + 2)) (n := 60) (by decide)
    rw [cond_true]
    omega
section BK
variable {sc : List Nat} {Q : Nat → zM → Prop} {frs : gCf} {i pc w pc2 : Nat} {ls st : List Nat} {m : zM}
theorem h_ldr2 {c : Nat} (hw : zI i pc = w) (ho : zop w = 3 ∧ pc + zln w = pc2) (hl : ls[za w]? = some c) (hc : 4294967296 < c ∧ c < 1099511627776) (g : gFin sc Q frs i pc2 ls (c :: st) m) : gFin sc Q frs i pc ls st m := by
  subst hw
  obtain ⟨h1, rfl⟩ := ho
  exact gFin_step (zIsC_f (Or.inl (by omega))) (by simp only [zOne, h1, ↓reduceIte, Nat.reduceEqDiff, hl, zNx, if_pos hc]) g
theorem h_lens (hw : zI i pc = w) (ho : zop w = 32 ∧ pc + 1 = pc2) (hn : sc.length < 2147483648) (g : gFin sc Q frs i pc2 ls (sc.length :: st) m) : gFin sc Q frs i pc ls (8589934595 :: st) m := by
  subst hw
  obtain ⟨h1, rfl⟩ := ho
  exact gFin_step (zIsC_f32 (Or.inl h1)) (by simp only [zOne, h1, ↓reduceIte, Nat.reduceEqDiff, or_self, zNx, if_pos hn]) g
theorem h_aldc {j : Nat} (hw : zI i pc = w) (ho : zop w = 26 ∧ pc + 1 = pc2) (hn : sc.length < 2147483648) (hj : j < sc.length) (hv : sc.getD j 0 < 4294967296) (g : gFin sc Q frs i pc2 ls (sc.getD j 0 :: st) m) : gFin sc Q frs i pc ls (j :: 8589934595 :: st) m := by
  subst hw
  obtain ⟨h1, rfl⟩ := ho
  have h2 : 8589934592 ≤ 8589934595 := by decide
  have h3 : ¬ (j < 5 ∧ 8589934595 < 8589934595) := fun z => absurd z.2 (by decide)
  have h4 : (True ∧ j < sc.length ∧ sc.length < 2147483648) ∧ sc.getD j 0 < 4294967296 := ⟨⟨trivial, hj, hn⟩, hv⟩
  exact gFin_step (zIsC_f26 h1) (by simp only [zOne, h1, ↓reduceIte, Nat.reduceEqDiff, or_self, zNx]; rw [if_pos h2, if_neg h3, if_pos h4]) g
theorem h_and {x y c : Nat} (hw : zI i pc = w) (ho : zop w = 12 ∧ pc + 1 = pc2) (ha : x < 4294967296) (hb : y < 4294967296) (hv : x &&& y = c) (g : gFin sc Q frs i pc2 ls (c :: st) m) : gFin sc Q frs i pc ls (y :: x :: st) m := by
  subst hw
  subst hv
  obtain ⟨h1, rfl⟩ := ho
  exact gFin_step (zIsC_f (Or.inl (by omega))) (by simp only [zOne, h1, ↓reduceIte, Nat.reduceEqDiff, zNx, if_pos (And.intro ha hb)]) g
theorem zIsC_f47 {w : Nat} (h : zop w = 47) : zIsC w = false := by
  unfold zIsC
  rw [h]
  rfl
theorem h_shr {x y c : Nat} (hw : zI i pc = w) (ho : zop w = 47 ∧ pc + 1 = pc2) (ha : x < 4294967296) (hb : y < 4294967296) (hv : zShr x y = c) (g : gFin sc Q frs i pc2 ls (c :: st) m) : gFin sc Q frs i pc ls (y :: x :: st) m := by
  subst hw
  subst hv
  obtain ⟨h1, rfl⟩ := ho
  exact gFin_step (zIsC_f47 h1) (by simp only [zOne, h1, ↓reduceIte, Nat.reduceEqDiff, zNx, if_pos (And.intro ha hb)]) g
theorem zCOk_s2 {n : Nat} (h38 : zop w = 38 ∧ zb w = n) (hk : n ≤ zMaxL (za w)) (hl : n ≤ st.length ∧ st.length ≤ n + 8) (ha : ∀ c ∈ st.take n, c < 1099511627776) : zCOk w st m = true := by
  unfold zCOk zRcv
  rw [if_neg (by omega), if_neg (by omega), h38.2]
  simp only [Bool.and_eq_true, decide_eq_true_eq]
  refine ⟨hl, trivial, List.all_eq_true.mpr fun c hc => ?_, hk⟩
  have := ha c hc
  simp only [decide_eq_true_eq]
  omega
/-- a call with the script among its values -/
theorem h_c9 {c n : Nat} {st2 l2 : List Nat} (hw : zI i pc = w) (ho : (zop w = 38 ∧ zb w = n) ∧ za w = c ∧ n ≤ zMaxL c) (hl : n ≤ st.length ∧ st.length ≤ n + 8) (ha : ∀ c ∈ st.take n, c < 1099511627776) (hd : st.drop n = st2) (he : zEn c n st = l2) (g : gFin sc Q ((i, pc, ls, st2) :: frs) c 0 l2 [] m) : gFin sc Q frs i pc ls st m := by
  obtain ⟨h1, rfl, h3⟩ := ho
  exact h_call hw ⟨by unfold zIsC; rw [h1.1]; rfl, rfl⟩ (zCOk_s2 h1 h3 hl ha) (by rw [h1.2]; exact hd) (by rw [h1.2]; exact he) g
theorem ze_n : ∀ c ∈ ([] : List Nat), c < 1099511627776 := fun _ h => absurd h List.not_mem_nil
theorem ze_c {x : Nat} {l : List Nat} (h : x < 1099511627776) (t : ∀ c ∈ l, c < 1099511627776) : ∀ c ∈ x :: l, c < 1099511627776 := fun c hc => by
  rcases List.mem_cons.mp hc with rfl | hc
  · exact h
  · exact t c hc
theorem zlo2 {x : Nat} (h : x < 8589934592) : x < 1099511627776 := by omega
/-- a script: what the law is given -/
def sOk (sc : List Nat) : Prop := sc.length < 2147483648 ∧ ∀ c ∈ sc, c < 4294967296
theorem cel_lt {k : Nat} (hs : sOk sc) : cel sc k < 4294967296 := by
  unfold cel
  split
  · rename_i h
    rw [List.getD_eq_getElem?_getD, List.getElem?_eq_getElem h]
    exact hs.2 _ (List.getElem_mem h)
  · exact add1_lt
end BK
section BG
variable {sc : List Nat} {Q : Nat → zM → Prop} {frs : gCf} {m : zM} {a : Nat → Nat} {u B : Nat}
theorem m60 {v n : Nat} (hv : v < 4294967296) (hn : 0 < n ∧ n < 2147483648) (g : gFin1 sc Q frs 60 (lo1 v n) m) : gFin sc Q frs 60 0 [v, n] [] m := by
  have h1 : v &&& 2147483647 ≤ 2147483647 := Nat.and_le_right
  have h2 := lo1_lt (v := v) hn.1
  refine h_ldi (w := 258) (pc2 := 1) (by decide +kernel) (by decide +kernel) rfl (by omega) ?_
  refine h_con (w := 425542017632543147881857537) (pc2 := 3) (by decide +kernel) (v := 2147483647) (by decide +kernel) ?_
  refine h_and (w := 268) (pc2 := 4) (by decide +kernel) (by decide +kernel) (by omega) (by decide) (c := (v &&& 2147483647)) rfl ?_
  refine h_ldi (w := 65794) (pc2 := 5) (by decide +kernel) (by decide +kernel) rfl (by omega) ?_
  refine h_rem (w := 267) (pc2 := 6) (by decide +kernel) (by decide +kernel) ⟨by omega, by omega, by omega⟩ (c := (lo1 v n)) rfl ?_
  exact h_ret (w := 301) (by decide +kernel) (by decide +kernel) (by omega) (fun h => absurd h (by decide +kernel)) g
theorem m61 {k : Nat} (hs : sOk sc) (hk : k < 2147483648) (g : gFin1 sc Q frs 61 (cel sc k) m) : gFin sc Q frs 61 0 [8589934595, k] [] m := by
  have hc := cel_lt (k := k) hs
  have hl := hs.1
  refine h_ldi (w := 65794) (pc2 := 1) (by decide +kernel) (by decide +kernel) rfl (by omega) ?_
  refine h_ldr2 (w := 259) (pc2 := 2) (by decide +kernel) (by decide +kernel) rfl (by decide) ?_
  refine h_lens (w := 288) (pc2 := 3) (by decide +kernel) (by decide +kernel) hl ?_
  by_cases q0 : k < sc.length
  · rw [show cel sc k = sc.getD k 0 from if_pos q0] at g hc
    refine h_icmp (w := 844424930919186) (pc2 := 6) (by decide +kernel) (b := false) (by decide +kernel) (by omega) (by omega) (zc_ge_f (by omega) (by omega) (by omega)) ?_
    refine h_ldr2 (w := 259) (pc2 := 7) (by decide +kernel) (by decide +kernel) rfl (by decide) ?_
    refine h_ldi (w := 65794) (pc2 := 8) (by decide +kernel) (by decide +kernel) rfl (by omega) ?_
    refine h_aldc (w := 282) (pc2 := 9) (by decide +kernel) (by decide +kernel) hl q0 hc ?_
    refine h_goto (w := 1311507) (pc2 := 20) (by decide +kernel) (by decide +kernel) ?_
    exact h_ret (w := 301) (by decide +kernel) (by decide +kernel) hc (fun h => absurd h (by decide +kernel)) g
  · rw [show cel sc k = add1 (mul1 40503 k) 977 from if_neg q0] at g
    refine h_icmp (w := 844424930919186) (pc2 := 12) (by decide +kernel) (b := true) (by decide +kernel) (by omega) (by omega) (zc_ge_t (by omega) (by omega) (by omega)) ?_
    refine h_con (w := 430377739357605003456348673) (pc2 := 14) (by decide +kernel) (v := 40503) (by decide +kernel) ?_
    refine h_ldi (w := 65794) (pc2 := 15) (by decide +kernel) (by decide +kernel) rfl (by omega) ?_
    refine h_mul (w := 265) (pc2 := 16) (by decide +kernel) (by decide +kernel) (by decide) (by omega) (c := (mul1 40503 k)) mul1_eq ?_
    refine h_con (w := 562950017450753) (pc2 := 19) (by decide +kernel) (v := 977) (by decide +kernel) ?_
    refine h_add (w := 263) (pc2 := 20) (by decide +kernel) (by decide +kernel) mul1_lt (by decide) (c := (add1 (mul1 40503 k) 977)) add1_eq ?_
    exact h_ret (w := 301) (by decide +kernel) (by decide +kernel) add1_lt (fun h => absurd h (by decide +kernel)) g
theorem aR_lt {v u' : Nat} {a' : Nat → Nat} (h : aR B a u v a' u') : v < 4294967296 := by
  rcases h with ⟨h, -⟩ | ⟨h, -⟩
  · exact h.1
  · omega
theorem m64 {k x3 x4 x5 x6 : Nat} (hs : sOk sc) (hW : oW a u m) (hI : vI B a) (hB : B < 90000) (hu : u ≤ 4) (hk : k < 2147480000) (g1 : lo1 (cel sc k) 20 ≤ 13 → ∀ v m' a' u', oW a' u' m' → aR B a u v a' u' → gFin1 sc Q frs 64 v m') (g2 : 13 < lo1 (cel sc k) 20 → ∀ m', oW (mPs (tk1 sc k) a) (mU u) m' → gFin1 sc Q frs 64 (sub1 (mPs (tk1 sc k) a 2) (a 2)) m') : gFin sc Q frs 64 0 [bR 0 0, 8589934595, k, x3, x4, x5, x6] [] m := by
  have h16 := hI.1.1.1
  obtain ⟨x, ex⟩ : ∃ x, x = cel sc (k + 1) := ⟨_, rfl⟩
  obtain ⟨y, ey⟩ : ∃ y, y = cel sc (k + 2) := ⟨_, rfl⟩
  have hx : x < 4294967296 := ex ▸ cel_lt hs
  have hy : y < 4294967296 := ey ▸ cel_lt hs
  have hz : cel sc k < 4294967296 := cel_lt hs
  have etk : tk1 sc k = 1 + lo1 y (bif Nat.beq (lo1 x 4) 0 then 60 else 5) := by rw [ex, ey]; rfl
  refine h_ldr2 (w := 65795) (pc2 := 1) (by decide +kernel) (by decide +kernel) rfl (by decide) ?_
  refine h_ldi (w := 131330) (pc2 := 2) (by decide +kernel) (by decide +kernel) rfl (by omega) ?_
  refine h_con (w := 65793) (pc2 := 3) (by decide +kernel) (v := 1) (by decide +kernel) ?_
  refine h_add (w := 263) (pc2 := 4) (by decide +kernel) (by decide +kernel) (by omega) (by decide) (c := (k + 1)) (Nat.mod_eq_of_lt (by omega)) ?_
  refine h_c9 (w := 26602879732742811272676134) (c := 61) (n := 2) (by decide +kernel) (by decide +kernel) ⟨Nat.le_of_ble_eq_true rfl, Nat.le_of_ble_eq_true rfl⟩ (show ∀ cx ∈ [(k + 1), 8589934595], cx < 1099511627776 from ze_c (zlo2 (zlo (by omega))) (ze_c (by decide) ze_n)) (st2 := []) rfl (l2 := [8589934595, (k + 1)]) (by show (List.take 2 _).reverse ++ List.replicate (zMaxL 61 - 2) _ = _; rw [show zMaxL 61 = 2 by decide +kernel]; rfl) ?_
  refine m61 hs (by omega) (gF_v (by decide +kernel) ?_)
  rw [← ex]
  refine h_sti (w := 196868) (pc2 := 8) (by decide +kernel) (n := 7) (by decide +kernel) rfl (by omega) (ls2 := [bR 0 0, 8589934595, k, x, x4, x5, x6]) rfl ?_
  refine h_ldr2 (w := 65795) (pc2 := 9) (by decide +kernel) (by decide +kernel) rfl (by decide) ?_
  refine h_ldi (w := 131330) (pc2 := 10) (by decide +kernel) (by decide +kernel) rfl (by omega) ?_
  refine h_con (w := 131329) (pc2 := 11) (by decide +kernel) (v := 2) (by decide +kernel) ?_
  refine h_add (w := 263) (pc2 := 12) (by decide +kernel) (by decide +kernel) (by omega) (by decide) (c := (k + 2)) (Nat.mod_eq_of_lt (by omega)) ?_
  refine h_c9 (w := 26602879732742811272676134) (c := 61) (n := 2) (by decide +kernel) (by decide +kernel) ⟨Nat.le_of_ble_eq_true rfl, Nat.le_of_ble_eq_true rfl⟩ (show ∀ cx ∈ [(k + 2), 8589934595], cx < 1099511627776 from ze_c (zlo2 (zlo (by omega))) (ze_c (by decide) ze_n)) (st2 := []) rfl (l2 := [8589934595, (k + 2)]) (by show (List.take 2 _).reverse ++ List.replicate (zMaxL 61 - 2) _ = _; rw [show zMaxL 61 = 2 by decide +kernel]; rfl) ?_
  refine m61 hs (by omega) (gF_v (by decide +kernel) ?_)
  rw [← ey]
  refine h_sti (w := 281474976973316) (pc2 := 17) (by decide +kernel) (n := 7) (by decide +kernel) rfl (by omega) (ls2 := [bR 0 0, 8589934595, k, x, y, x5, x6]) rfl ?_
  refine h_ldr (w := 259) (pc2 := 18) (by decide +kernel) (by decide +kernel) rfl r00 ?_
  refine h_con (w := 65793) (pc2 := 19) (by decide +kernel) (v := 1) (by decide +kernel) ?_
  refine h_cv (w := 10886548929847452648276773) (c := 55) (n := 1) (by decide +kernel) (by decide +kernel) rfl (zA_O hW) ⟨Nat.le_of_ble_eq_true rfl, Nat.le_of_ble_eq_true rfl⟩ (show ∀ cx ∈ [1, bR 0 0], cx < 8589934592 from zl_c (zlo (by decide)) (zl_c r00.2 zl_n)) (st2 := []) rfl (l2 := [bR 0 0, 1]) (by show (List.take 2 _).reverse ++ List.replicate (zMaxL 55 - 2) _ = _; rw [show zMaxL 55 = 2 by decide +kernel]; rfl) ?_
  refine m55_1 hW hu (gF_v (by decide +kernel) ?_)
  refine h_sti (w := 281474977038852) (pc2 := 24) (by decide +kernel) (n := 7) (by decide +kernel) rfl (by omega) (ls2 := [bR 0 0, 8589934595, k, x, y, (a 1), x6]) rfl ?_
  refine h_ldi (w := 281474977038850) (pc2 := 26) (by decide +kernel) (by decide +kernel) rfl (by omega) ?_
  have go : ∀ j, j < 2147483648 → gFin sc Q frs 64 39 [bR 0 0, 8589934595, k, x, y, (a 1), x6] [j] m := by
    intro j hj
    refine h_sti (w := 281474977104388) (pc2 := 41) (by decide +kernel) (n := 7) (by decide +kernel) rfl (by omega) (ls2 := [bR 0 0, 8589934595, k, x, y, (a 1), j]) rfl ?_
    refine h_ldr2 (w := 65795) (pc2 := 42) (by decide +kernel) (by decide +kernel) rfl (by decide) ?_
    refine h_ldi (w := 131330) (pc2 := 43) (by decide +kernel) (by decide +kernel) rfl (by omega) ?_
    refine h_c9 (w := 26602879732742811272676134) (c := 61) (n := 2) (by decide +kernel) (by decide +kernel) ⟨Nat.le_of_ble_eq_true rfl, Nat.le_of_ble_eq_true rfl⟩ (show ∀ cx ∈ [k, 8589934595], cx < 1099511627776 from ze_c (zlo2 (zlo (by omega))) (ze_c (by decide) ze_n)) (st2 := []) rfl (l2 := [8589934595, k]) (by show (List.take 2 _).reverse ++ List.replicate (zMaxL 61 - 2) _ = _; rw [show zMaxL 61 = 2 by decide +kernel]; rfl) ?_
    refine m61 hs (by omega) (gF_v (by decide +kernel) ?_)
    refine h_con (w := 281474978021889) (pc2 := 48) (by decide +kernel) (v := 20) (by decide +kernel) ?_
    refine h_c8 (w := 33856360863454291482641190) (c := 60) (n := 2) (by decide +kernel) (by decide +kernel) ⟨Nat.le_of_ble_eq_true rfl, Nat.le_of_ble_eq_true rfl⟩ (show ∀ cx ∈ [20, (cel sc k)], cx < 8589934592 from zl_c (zlo (by decide)) (zl_c (zlo hz) zl_n)) (st2 := []) rfl (l2 := [(cel sc k), 20]) (by show (List.take 2 _).reverse ++ List.replicate (zMaxL 60 - 2) _ = _; rw [show zMaxL 60 = 2 by decide +kernel]; rfl) ?_
    refine m60 hz ⟨by decide, by decide⟩ (gF_v (by decide +kernel) ?_)
    have hl := lo1_lt (v := cel sc k) (n := 20) (by decide)
    obtain ⟨so, es⟩ : ∃ so, so = lo1 (cel sc k) 20 := ⟨_, rfl⟩
    rw [← es] at g1 g2 hl ⊢
    have t120 : (∀ v m' a' u', oW a' u' m' → aR B a u v a' u' → gFin1 sc Q frs 64 v m') → gFin sc Q frs 64 120 [bR 0 0, 8589934595, k, x, y, (a 1), j] [] m := by
      intro g
      refine h_ldr (w := 259) (pc2 := 121) (by decide +kernel) (by decide +kernel) rfl r00 ?_
      refine h_ldi (w := 196866) (pc2 := 122) (by decide +kernel) (by decide +kernel) rfl (by omega) ?_
      refine h_con (w := 281474977497601) (pc2 := 124) (by decide +kernel) (v := 12) (by decide +kernel) ?_
      have := lo1_lt (v := x) (n := 12) (by decide)
      have := lo1_lt (v := y) (n := 4) (by decide)
      refine h_c8 (w := 33856360863454291482641190) (c := 60) (n := 2) (by decide +kernel) (by decide +kernel) ⟨Nat.le_of_ble_eq_true rfl, Nat.le_of_ble_eq_true rfl⟩ (show ∀ cx ∈ [12, x], cx < 8589934592 from zl_c (zlo (by decide)) (zl_c (zlo (by omega)) zl_n)) (st2 := [bR 0 0]) rfl (l2 := [x, 12]) (by show (List.take 2 _).reverse ++ List.replicate (zMaxL 60 - 2) _ = _; rw [show zMaxL 60 = 2 by decide +kernel]; rfl) ?_
      refine m60 hx ⟨by decide, by decide⟩ (gF_v (by decide +kernel) ?_)
      refine h_ldi (w := 281474976973314) (pc2 := 129) (by decide +kernel) (by decide +kernel) rfl (by omega) ?_
      refine h_con (w := 262401) (pc2 := 130) (by decide +kernel) (v := 4) (by decide +kernel) ?_
      refine h_c8 (w := 33856360863454291482641190) (c := 60) (n := 2) (by decide +kernel) (by decide +kernel) ⟨Nat.le_of_ble_eq_true rfl, Nat.le_of_ble_eq_true rfl⟩ (show ∀ cx ∈ [4, y], cx < 8589934592 from zl_c (zlo (by decide)) (zl_c (zlo (by omega)) zl_n)) (st2 := [(lo1 x 12), bR 0 0]) rfl (l2 := [y, 4]) (by show (List.take 2 _).reverse ++ List.replicate (zMaxL 60 - 2) _ = _; rw [show zMaxL 60 = 2 by decide +kernel]; rfl) ?_
      refine m60 hy ⟨by decide, by decide⟩ (gF_v (by decide +kernel) ?_)
      by_cases q0 : lo1 y 4 = 0
      · skip
        refine h_if (w := 281474985886481) (pc2 := 136) (by decide +kernel) (b := false) (by decide +kernel) (by omega)  (zc_ne_f q0) ?_
        refine h_con (w := 65793) (pc2 := 137) (by decide +kernel) (v := 1) (by decide +kernel) ?_
        refine h_goto (w := 9241363) (pc2 := 141) (by decide +kernel) (by decide +kernel) ?_
        refine h_cv (w := 37484097553271486879105829) (c := 44) (n := 2) (by decide +kernel) (by decide +kernel) rfl (zA_O hW) ⟨Nat.le_of_ble_eq_true rfl, Nat.le_of_ble_eq_true rfl⟩ (show ∀ cx ∈ [1, (lo1 x 12), bR 0 0], cx < 8589934592 from zl_c (zlo (by decide)) (zl_c (zlo (by omega)) (zl_c r00.2 zl_n))) (st2 := []) rfl (l2 := [bR 0 0, (lo1 x 12), 1]) (by show (List.take 3 _).reverse ++ List.replicate (zMaxL 44 - 3) _ = _; rw [show zMaxL 44 = 3 by decide +kernel]; rfl) ?_
        refine m44 hW hI hB hu (by omega) (by decide) (fun v m1 a1 u1 hW1 hR1 => gF_v (by decide +kernel) ?_)
        have hv := aR_lt hR1
        exact h_ret (w := 301) (by decide +kernel) (by decide +kernel) hv (fun h => absurd h (by decide +kernel)) (g v m1 a1 u1 hW1 hR1)
      · skip
        refine h_if (w := 281474985886481) (pc2 := 140) (by decide +kernel) (b := true) (by decide +kernel) (by omega)  (zc_ne_t q0) ?_
        refine h_con (w := 257) (pc2 := 141) (by decide +kernel) (v := 0) (by decide +kernel) ?_
        refine h_cv (w := 37484097553271486879105829) (c := 44) (n := 2) (by decide +kernel) (by decide +kernel) rfl (zA_O hW) ⟨Nat.le_of_ble_eq_true rfl, Nat.le_of_ble_eq_true rfl⟩ (show ∀ cx ∈ [0, (lo1 x 12), bR 0 0], cx < 8589934592 from zl_c (zlo (by decide)) (zl_c (zlo (by omega)) (zl_c r00.2 zl_n))) (st2 := []) rfl (l2 := [bR 0 0, (lo1 x 12), 0]) (by show (List.take 3 _).reverse ++ List.replicate (zMaxL 44 - 3) _ = _; rw [show zMaxL 44 = 3 by decide +kernel]; rfl) ?_
        refine m44 hW hI hB hu (by omega) (by decide) (fun v m1 a1 u1 hW1 hR1 => gF_v (by decide +kernel) ?_)
        have hv := aR_lt hR1
        exact h_ret (w := 301) (by decide +kernel) (by decide +kernel) hv (fun h => absurd h (by decide +kernel)) (g v m1 a1 u1 hW1 hR1)
    have t145 : (∀ v m' a' u', oW a' u' m' → aR B a u v a' u' → gFin1 sc Q frs 64 v m') → gFin sc Q frs 64 145 [bR 0 0, 8589934595, k, x, y, (a 1), j] [] m := by
      intro g
      refine h_ldr (w := 259) (pc2 := 146) (by decide +kernel) (by decide +kernel) rfl r00 ?_
      refine h_ldi (w := 281474977104386) (pc2 := 148) (by decide +kernel) (by decide +kernel) rfl (by omega) ?_
      refine h_cv (w := 42320169766330002792317733) (c := 45) (n := 1) (by decide +kernel) (by decide +kernel) rfl (zA_O hW) ⟨Nat.le_of_ble_eq_true rfl, Nat.le_of_ble_eq_true rfl⟩ (show ∀ cx ∈ [j, bR 0 0], cx < 8589934592 from zl_c (zlo (by omega)) (zl_c r00.2 zl_n)) (st2 := []) rfl (l2 := [bR 0 0, j, 1099511627776]) (by show (List.take 2 _).reverse ++ List.replicate (zMaxL 45 - 2) _ = _; rw [show zMaxL 45 = 3 by decide +kernel]; rfl) ?_
      refine m45 hW hI hB hu hj (fun v m1 a1 u1 hW1 hR1 => gF_v (by decide +kernel) ?_)
      have hv := aR_lt hR1
      exact h_ret (w := 301) (by decide +kernel) (by decide +kernel) hv (fun h => absurd h (by decide +kernel)) (g v m1 a1 u1 hW1 hR1)
    have t152 : (∀ v m' a' u', oW a' u' m' → aR B a u v a' u' → gFin1 sc Q frs 64 v m') → gFin sc Q frs 64 152 [bR 0 0, 8589934595, k, x, y, (a 1), j] [] m := by
      intro g
      refine h_ldr (w := 259) (pc2 := 153) (by decide +kernel) (by decide +kernel) rfl r00 ?_
      refine h_ldi (w := 281474977104386) (pc2 := 155) (by decide +kernel) (by decide +kernel) rfl (by omega) ?_
      refine h_ldi (w := 281474976973314) (pc2 := 157) (by decide +kernel) (by decide +kernel) rfl (by omega) ?_
      refine h_con (w := 131329) (pc2 := 158) (by decide +kernel) (v := 2) (by decide +kernel) ?_
      have := lo1_lt (v := y) (n := 2) (by decide)
      refine h_c8 (w := 33856360863454291482641190) (c := 60) (n := 2) (by decide +kernel) (by decide +kernel) ⟨Nat.le_of_ble_eq_true rfl, Nat.le_of_ble_eq_true rfl⟩ (show ∀ cx ∈ [2, y], cx < 8589934592 from zl_c (zlo (by decide)) (zl_c (zlo (by omega)) zl_n)) (st2 := [j, bR 0 0]) rfl (l2 := [y, 2]) (by show (List.take 2 _).reverse ++ List.replicate (zMaxL 60 - 2) _ = _; rw [show zMaxL 60 = 2 by decide +kernel]; rfl) ?_
      refine m60 hy ⟨by decide, by decide⟩ (gF_v (by decide +kernel) ?_)
      by_cases q0 : lo1 y 2 = 0
      · skip
        refine h_if (w := 281474987721489) (pc2 := 164) (by decide +kernel) (b := false) (by decide +kernel) (by omega)  (zc_ne_f q0) ?_
        refine h_con (w := 65793) (pc2 := 165) (by decide +kernel) (v := 1) (by decide +kernel) ?_
        refine h_goto (w := 11076371) (pc2 := 169) (by decide +kernel) (by decide +kernel) ?_
        refine h_cv (w := 45947168586384249807831845) (c := 46) (n := 2) (by decide +kernel) (by decide +kernel) rfl (zA_O hW) ⟨Nat.le_of_ble_eq_true rfl, Nat.le_of_ble_eq_true rfl⟩ (show ∀ cx ∈ [1, j, bR 0 0], cx < 8589934592 from zl_c (zlo (by decide)) (zl_c (zlo (by omega)) (zl_c r00.2 zl_n))) (st2 := []) rfl (l2 := [bR 0 0, j, 1]) (by show (List.take 3 _).reverse ++ List.replicate (zMaxL 46 - 3) _ = _; rw [show zMaxL 46 = 3 by decide +kernel]; rfl) ?_
        refine m46 hW hI hB hu hj (by decide) (fun v m1 a1 u1 hW1 hR1 => gF_v (by decide +kernel) ?_)
        have hv := aR_lt hR1
        exact h_ret (w := 301) (by decide +kernel) (by decide +kernel) hv (fun h => absurd h (by decide +kernel)) (g v m1 a1 u1 hW1 hR1)
      · skip
        refine h_if (w := 281474987721489) (pc2 := 168) (by decide +kernel) (b := true) (by decide +kernel) (by omega)  (zc_ne_t q0) ?_
        refine h_con (w := 257) (pc2 := 169) (by decide +kernel) (v := 0) (by decide +kernel) ?_
        refine h_cv (w := 45947168586384249807831845) (c := 46) (n := 2) (by decide +kernel) (by decide +kernel) rfl (zA_O hW) ⟨Nat.le_of_ble_eq_true rfl, Nat.le_of_ble_eq_true rfl⟩ (show ∀ cx ∈ [0, j, bR 0 0], cx < 8589934592 from zl_c (zlo (by decide)) (zl_c (zlo (by omega)) (zl_c r00.2 zl_n))) (st2 := []) rfl (l2 := [bR 0 0, j, 0]) (by show (List.take 3 _).reverse ++ List.replicate (zMaxL 46 - 3) _ = _; rw [show zMaxL 46 = 3 by decide +kernel]; rfl) ?_
        refine m46 hW hI hB hu hj (by decide) (fun v m1 a1 u1 hW1 hR1 => gF_v (by decide +kernel) ?_)
        have hv := aR_lt hR1
        exact h_ret (w := 301) (by decide +kernel) (by decide +kernel) hv (fun h => absurd h (by decide +kernel)) (g v m1 a1 u1 hW1 hR1)
    have t173 : (∀ v m' a' u', oW a' u' m' → aR B a u v a' u' → gFin1 sc Q frs 64 v m') → gFin sc Q frs 64 173 [bR 0 0, 8589934595, k, x, y, (a 1), j] [] m := by
      intro g
      refine h_ldr (w := 259) (pc2 := 174) (by decide +kernel) (by decide +kernel) rfl r00 ?_
      refine h_ldi (w := 281474977104386) (pc2 := 176) (by decide +kernel) (by decide +kernel) rfl (by omega) ?_
      refine h_ldi (w := 281474976973314) (pc2 := 178) (by decide +kernel) (by decide +kernel) rfl (by omega) ?_
      refine h_con (w := 281474977497601) (pc2 := 180) (by decide +kernel) (v := 12) (by decide +kernel) ?_
      have := lo1_lt (v := y) (n := 12) (by decide)
      refine h_c8 (w := 33856360863454291482641190) (c := 60) (n := 2) (by decide +kernel) (by decide +kernel) ⟨Nat.le_of_ble_eq_true rfl, Nat.le_of_ble_eq_true rfl⟩ (show ∀ cx ∈ [12, y], cx < 8589934592 from zl_c (zlo (by decide)) (zl_c (zlo (by omega)) zl_n)) (st2 := [j, bR 0 0]) rfl (l2 := [y, 12]) (by show (List.take 2 _).reverse ++ List.replicate (zMaxL 60 - 2) _ = _; rw [show zMaxL 60 = 2 by decide +kernel]; rfl) ?_
      refine m60 hy ⟨by decide, by decide⟩ (gF_v (by decide +kernel) ?_)
      refine h_cv (w := 49574093619180727008428837) (c := 47) (n := 2) (by decide +kernel) (by decide +kernel) rfl (zA_O hW) ⟨Nat.le_of_ble_eq_true rfl, Nat.le_of_ble_eq_true rfl⟩ (show ∀ cx ∈ [(lo1 y 12), j, bR 0 0], cx < 8589934592 from zl_c (zlo (by omega)) (zl_c (zlo (by omega)) (zl_c r00.2 zl_n))) (st2 := []) rfl (l2 := [bR 0 0, j, (lo1 y 12), 1099511627776]) (by show (List.take 3 _).reverse ++ List.replicate (zMaxL 47 - 3) _ = _; rw [show zMaxL 47 = 4 by decide +kernel]; rfl) ?_
      refine m47 hW hI hB hu hj (by omega) (fun v m1 a1 u1 hW1 hR1 => gF_v (by decide +kernel) ?_)
      have hv := aR_lt hR1
      exact h_ret (w := 301) (by decide +kernel) (by decide +kernel) hv (fun h => absurd h (by decide +kernel)) (g v m1 a1 u1 hW1 hR1)
    have t187 : (∀ v m' a' u', oW a' u' m' → aR B a u v a' u' → gFin1 sc Q frs 64 v m') → gFin sc Q frs 64 187 [bR 0 0, 8589934595, k, x, y, (a 1), j] [] m := by
      intro g
      refine h_ldr (w := 259) (pc2 := 188) (by decide +kernel) (by decide +kernel) rfl r00 ?_
      refine h_ldi (w := 281474977104386) (pc2 := 190) (by decide +kernel) (by decide +kernel) rfl (by omega) ?_
      refine h_ldi (w := 281474976973314) (pc2 := 192) (by decide +kernel) (by decide +kernel) rfl (by omega) ?_
      refine h_con (w := 281474977497601) (pc2 := 194) (by decide +kernel) (v := 12) (by decide +kernel) ?_
      have := lo1_lt (v := y) (n := 12) (by decide)
      refine h_c8 (w := 33856360863454291482641190) (c := 60) (n := 2) (by decide +kernel) (by decide +kernel) ⟨Nat.le_of_ble_eq_true rfl, Nat.le_of_ble_eq_true rfl⟩ (show ∀ cx ∈ [12, y], cx < 8589934592 from zl_c (zlo (by decide)) (zl_c (zlo (by omega)) zl_n)) (st2 := [j, bR 0 0]) rfl (l2 := [y, 12]) (by show (List.take 2 _).reverse ++ List.replicate (zMaxL 60 - 2) _ = _; rw [show zMaxL 60 = 2 by decide +kernel]; rfl) ?_
      refine m60 hy ⟨by decide, by decide⟩ (gF_v (by decide +kernel) ?_)
      refine h_cv (w := 53200944865000909370819365) (c := 48) (n := 2) (by decide +kernel) (by decide +kernel) rfl (zA_O hW) ⟨Nat.le_of_ble_eq_true rfl, Nat.le_of_ble_eq_true rfl⟩ (show ∀ cx ∈ [(lo1 y 12), j, bR 0 0], cx < 8589934592 from zl_c (zlo (by omega)) (zl_c (zlo (by omega)) (zl_c r00.2 zl_n))) (st2 := []) rfl (l2 := [bR 0 0, j, (lo1 y 12)]) (by show (List.take 3 _).reverse ++ List.replicate (zMaxL 48 - 3) _ = _; rw [show zMaxL 48 = 3 by decide +kernel]; rfl) ?_
      refine m48 hW hI hB hu hj (by omega) (fun v m1 a1 u1 hW1 hR1 => gF_v (by decide +kernel) ?_)
      have hv := aR_lt hR1
      exact h_ret (w := 301) (by decide +kernel) (by decide +kernel) hv (fun h => absurd h (by decide +kernel)) (g v m1 a1 u1 hW1 hR1)
    have t201 : (∀ v m' a' u', oW a' u' m' → aR B a u v a' u' → gFin1 sc Q frs 64 v m') → gFin sc Q frs 64 201 [bR 0 0, 8589934595, k, x, y, (a 1), j] [] m := by
      intro g
      refine h_ldr (w := 259) (pc2 := 202) (by decide +kernel) (by decide +kernel) rfl r00 ?_
      refine h_ldi (w := 196866) (pc2 := 203) (by decide +kernel) (by decide +kernel) rfl (by omega) ?_
      refine h_ldi (w := 196866) (pc2 := 204) (by decide +kernel) (by decide +kernel) rfl (by omega) ?_
      refine h_con (w := 281474977235457) (pc2 := 206) (by decide +kernel) (v := 8) (by decide +kernel) ?_
      have := lo1_lt (v := x) (n := 4) (by decide)
      have := lo1_lt (v := x) (n := 12) (by decide)
      have := lo1_lt (v := y) (n := 20) (by decide)
      have := lo1_lt (v := (zShr x 8)) (n := 2) (by decide)
      refine h_shr (w := 303) (pc2 := 207) (by decide +kernel) (by decide +kernel) (by omega) (by decide) (c := (zShr x 8)) rfl ?_
      refine h_con (w := 131329) (pc2 := 208) (by decide +kernel) (v := 2) (by decide +kernel) ?_
      refine h_c8 (w := 33856360863454291482641190) (c := 60) (n := 2) (by decide +kernel) (by decide +kernel) ⟨Nat.le_of_ble_eq_true rfl, Nat.le_of_ble_eq_true rfl⟩ (show ∀ cx ∈ [2, (zShr x 8)], cx < 8589934592 from zl_c (zlo (by decide)) (zl_c (zlo zShr_lt) zl_n)) (st2 := [x, bR 0 0]) rfl (l2 := [(zShr x 8), 2]) (by show (List.take 2 _).reverse ++ List.replicate (zMaxL 60 - 2) _ = _; rw [show zMaxL 60 = 2 by decide +kernel]; rfl) ?_
      refine m60 zShr_lt ⟨by decide, by decide⟩ (gF_v (by decide +kernel) ?_)
      by_cases q0 : lo1 (zShr x 8) 2 = 0
      · skip
        refine h_if (w := 281474990998289) (pc2 := 214) (by decide +kernel) (b := false) (by decide +kernel) (by omega)  (zc_ne_f q0) ?_
        refine h_con (w := 262401) (pc2 := 215) (by decide +kernel) (v := 4) (by decide +kernel) ?_
        refine h_goto (w := 14418707) (pc2 := 220) (by decide +kernel) (by decide +kernel) ?_
        refine h_c8 (w := 33856360863454291482641190) (c := 60) (n := 2) (by decide +kernel) (by decide +kernel) ⟨Nat.le_of_ble_eq_true rfl, Nat.le_of_ble_eq_true rfl⟩ (show ∀ cx ∈ [4, x], cx < 8589934592 from zl_c (zlo (by decide)) (zl_c (zlo (by omega)) zl_n)) (st2 := [bR 0 0]) rfl (l2 := [x, 4]) (by show (List.take 2 _).reverse ++ List.replicate (zMaxL 60 - 2) _ = _; rw [show zMaxL 60 = 2 by decide +kernel]; rfl) ?_
        refine m60 hx ⟨by decide, by decide⟩ (gF_v (by decide +kernel) ?_)
        refine h_con (w := 65793) (pc2 := 224) (by decide +kernel) (v := 1) (by decide +kernel) ?_
        refine h_ldi (w := 281474976973314) (pc2 := 226) (by decide +kernel) (by decide +kernel) rfl (by omega) ?_
        refine h_con (w := 281474978021889) (pc2 := 228) (by decide +kernel) (v := 20) (by decide +kernel) ?_
        refine h_c8 (w := 33856360863454291482641190) (c := 60) (n := 2) (by decide +kernel) (by decide +kernel) ⟨Nat.le_of_ble_eq_true rfl, Nat.le_of_ble_eq_true rfl⟩ (show ∀ cx ∈ [20, y], cx < 8589934592 from zl_c (zlo (by decide)) (zl_c (zlo (by omega)) zl_n)) (st2 := [1, (lo1 x 4), bR 0 0]) rfl (l2 := [y, 20]) (by show (List.take 2 _).reverse ++ List.replicate (zMaxL 60 - 2) _ = _; rw [show zMaxL 60 = 2 by decide +kernel]; rfl) ?_
        refine m60 hy ⟨by decide, by decide⟩ (gF_v (by decide +kernel) ?_)
        refine h_add (w := 263) (pc2 := 232) (by decide +kernel) (by decide +kernel) (by decide) (by omega) (c := (1 + lo1 y 20)) (Nat.mod_eq_of_lt (by omega)) ?_
        refine h_cv (w := 56827814557565165442761509) (c := 49) (n := 2) (by decide +kernel) (by decide +kernel) rfl (zA_O hW) ⟨Nat.le_of_ble_eq_true rfl, Nat.le_of_ble_eq_true rfl⟩ (show ∀ cx ∈ [(1 + lo1 y 20), (lo1 x 4), bR 0 0], cx < 8589934592 from zl_c (zlo (by omega)) (zl_c (zlo (by omega)) (zl_c r00.2 zl_n))) (st2 := []) rfl (l2 := [bR 0 0, (lo1 x 4), (1 + lo1 y 20)]) (by show (List.take 3 _).reverse ++ List.replicate (zMaxL 49 - 3) _ = _; rw [show zMaxL 49 = 3 by decide +kernel]; rfl) ?_
        refine m49 hW hI hB hu (by omega) (by omega) (fun v m1 a1 u1 hW1 hR1 => gF_v (by decide +kernel) ?_)
        have hv := aR_lt hR1
        exact h_ret (w := 301) (by decide +kernel) (by decide +kernel) hv (fun h => absurd h (by decide +kernel)) (g v m1 a1 u1 hW1 hR1)
      · skip
        refine h_if (w := 281474990998289) (pc2 := 218) (by decide +kernel) (b := true) (by decide +kernel) (by omega)  (zc_ne_t q0) ?_
        refine h_con (w := 281474977497601) (pc2 := 220) (by decide +kernel) (v := 12) (by decide +kernel) ?_
        refine h_c8 (w := 33856360863454291482641190) (c := 60) (n := 2) (by decide +kernel) (by decide +kernel) ⟨Nat.le_of_ble_eq_true rfl, Nat.le_of_ble_eq_true rfl⟩ (show ∀ cx ∈ [12, x], cx < 8589934592 from zl_c (zlo (by decide)) (zl_c (zlo (by omega)) zl_n)) (st2 := [bR 0 0]) rfl (l2 := [x, 12]) (by show (List.take 2 _).reverse ++ List.replicate (zMaxL 60 - 2) _ = _; rw [show zMaxL 60 = 2 by decide +kernel]; rfl) ?_
        refine m60 hx ⟨by decide, by decide⟩ (gF_v (by decide +kernel) ?_)
        refine h_con (w := 65793) (pc2 := 224) (by decide +kernel) (v := 1) (by decide +kernel) ?_
        refine h_ldi (w := 281474976973314) (pc2 := 226) (by decide +kernel) (by decide +kernel) rfl (by omega) ?_
        refine h_con (w := 281474978021889) (pc2 := 228) (by decide +kernel) (v := 20) (by decide +kernel) ?_
        refine h_c8 (w := 33856360863454291482641190) (c := 60) (n := 2) (by decide +kernel) (by decide +kernel) ⟨Nat.le_of_ble_eq_true rfl, Nat.le_of_ble_eq_true rfl⟩ (show ∀ cx ∈ [20, y], cx < 8589934592 from zl_c (zlo (by decide)) (zl_c (zlo (by omega)) zl_n)) (st2 := [1, (lo1 x 12), bR 0 0]) rfl (l2 := [y, 20]) (by show (List.take 2 _).reverse ++ List.replicate (zMaxL 60 - 2) _ = _; rw [show zMaxL 60 = 2 by decide +kernel]; rfl) ?_
        refine m60 hy ⟨by decide, by decide⟩ (gF_v (by decide +kernel) ?_)
        refine h_add (w := 263) (pc2 := 232) (by decide +kernel) (by decide +kernel) (by decide) (by omega) (c := (1 + lo1 y 20)) (Nat.mod_eq_of_lt (by omega)) ?_
        refine h_cv (w := 56827814557565165442761509) (c := 49) (n := 2) (by decide +kernel) (by decide +kernel) rfl (zA_O hW) ⟨Nat.le_of_ble_eq_true rfl, Nat.le_of_ble_eq_true rfl⟩ (show ∀ cx ∈ [(1 + lo1 y 20), (lo1 x 12), bR 0 0], cx < 8589934592 from zl_c (zlo (by omega)) (zl_c (zlo (by omega)) (zl_c r00.2 zl_n))) (st2 := []) rfl (l2 := [bR 0 0, (lo1 x 12), (1 + lo1 y 20)]) (by show (List.take 3 _).reverse ++ List.replicate (zMaxL 49 - 3) _ = _; rw [show zMaxL 49 = 3 by decide +kernel]; rfl) ?_
        refine m49 hW hI hB hu (by omega) (by omega) (fun v m1 a1 u1 hW1 hR1 => gF_v (by decide +kernel) ?_)
        have hv := aR_lt hR1
        exact h_ret (w := 301) (by decide +kernel) (by decide +kernel) hv (fun h => absurd h (by decide +kernel)) (g v m1 a1 u1 hW1 hR1)
    have t236 : (∀ v m' a' u', oW a' u' m' → aR B a u v a' u' → gFin1 sc Q frs 64 v m') → gFin sc Q frs 64 236 [bR 0 0, 8589934595, k, x, y, (a 1), j] [] m := by
      intro g
      refine h_ldr (w := 259) (pc2 := 237) (by decide +kernel) (by decide +kernel) rfl r00 ?_
      refine h_ldi (w := 196866) (pc2 := 238) (by decide +kernel) (by decide +kernel) rfl (by omega) ?_
      refine h_con (w := 327937) (pc2 := 239) (by decide +kernel) (v := 5) (by decide +kernel) ?_
      have := lo1_lt (v := x) (n := 5) (by decide)
      have := lo1_lt (v := y) (n := 20) (by decide)
      refine h_c8 (w := 33856360863454291482641190) (c := 60) (n := 2) (by decide +kernel) (by decide +kernel) ⟨Nat.le_of_ble_eq_true rfl, Nat.le_of_ble_eq_true rfl⟩ (show ∀ cx ∈ [5, x], cx < 8589934592 from zl_c (zlo (by decide)) (zl_c (zlo (by omega)) zl_n)) (st2 := [bR 0 0]) rfl (l2 := [x, 5]) (by show (List.take 2 _).reverse ++ List.replicate (zMaxL 60 - 2) _ = _; rw [show zMaxL 60 = 2 by decide +kernel]; rfl) ?_
      refine m60 hx ⟨by decide, by decide⟩ (gF_v (by decide +kernel) ?_)
      refine h_con (w := 65793) (pc2 := 243) (by decide +kernel) (v := 1) (by decide +kernel) ?_
      refine h_ldi (w := 281474976973314) (pc2 := 245) (by decide +kernel) (by decide +kernel) rfl (by omega) ?_
      refine h_con (w := 281474978021889) (pc2 := 247) (by decide +kernel) (v := 20) (by decide +kernel) ?_
      refine h_c8 (w := 33856360863454291482641190) (c := 60) (n := 2) (by decide +kernel) (by decide +kernel) ⟨Nat.le_of_ble_eq_true rfl, Nat.le_of_ble_eq_true rfl⟩ (show ∀ cx ∈ [20, y], cx < 8589934592 from zl_c (zlo (by decide)) (zl_c (zlo (by omega)) zl_n)) (st2 := [1, (lo1 x 5), bR 0 0]) rfl (l2 := [y, 20]) (by show (List.take 2 _).reverse ++ List.replicate (zMaxL 60 - 2) _ = _; rw [show zMaxL 60 = 2 by decide +kernel]; rfl) ?_
      refine m60 hy ⟨by decide, by decide⟩ (gF_v (by decide +kernel) ?_)
      refine h_add (w := 263) (pc2 := 251) (by decide +kernel) (by decide +kernel) (by decide) (by omega) (c := (1 + lo1 y 20)) (Nat.mod_eq_of_lt (by omega)) ?_
      refine h_cv (w := 60454739590361642643424037) (c := 51) (n := 2) (by decide +kernel) (by decide +kernel) rfl (zA_O hW) ⟨Nat.le_of_ble_eq_true rfl, Nat.le_of_ble_eq_true rfl⟩ (show ∀ cx ∈ [(1 + lo1 y 20), (lo1 x 5), bR 0 0], cx < 8589934592 from zl_c (zlo (by omega)) (zl_c (zlo (by omega)) (zl_c r00.2 zl_n))) (st2 := []) rfl (l2 := [bR 0 0, (lo1 x 5), (1 + lo1 y 20), 1099511627776]) (by show (List.take 3 _).reverse ++ List.replicate (zMaxL 51 - 3) _ = _; rw [show zMaxL 51 = 4 by decide +kernel]; rfl) ?_
      refine m51 hW hI hB hu (by omega) (by omega) (fun v m1 a1 u1 hW1 hR1 => gF_v (by decide +kernel) ?_)
      have hv := aR_lt hR1
      exact h_ret (w := 301) (by decide +kernel) (by decide +kernel) hv (fun h => absurd h (by decide +kernel)) (g v m1 a1 u1 hW1 hR1)
    have t255 : (∀ m', oW (mPs (tk1 sc k) a) (mU u) m' → gFin1 sc Q frs 64 (sub1 (mPs (tk1 sc k) a 2) (a 2)) m') → gFin sc Q frs 64 255 [bR 0 0, 8589934595, k, x, y, (a 1), j] [] m := by
      intro g
      have hb := tk1_b (sc := sc) (k := k)
      refine h_ldr (w := 259) (pc2 := 256) (by decide +kernel) (by decide +kernel) rfl r00 ?_
      refine h_con (w := 65793) (pc2 := 257) (by decide +kernel) (v := 1) (by decide +kernel) ?_
      refine h_ldi (w := 281474976973314) (pc2 := 259) (by decide +kernel) (by decide +kernel) rfl (by omega) ?_
      refine h_ldi (w := 196866) (pc2 := 260) (by decide +kernel) (by decide +kernel) rfl (by omega) ?_
      refine h_con (w := 262401) (pc2 := 261) (by decide +kernel) (v := 4) (by decide +kernel) ?_
      have := lo1_lt (v := x) (n := 4) (by decide)
      refine h_c8 (w := 33856360863454291482641190) (c := 60) (n := 2) (by decide +kernel) (by decide +kernel) ⟨Nat.le_of_ble_eq_true rfl, Nat.le_of_ble_eq_true rfl⟩ (show ∀ cx ∈ [4, x], cx < 8589934592 from zl_c (zlo (by decide)) (zl_c (zlo (by omega)) zl_n)) (st2 := [y, 1, bR 0 0]) rfl (l2 := [x, 4]) (by show (List.take 2 _).reverse ++ List.replicate (zMaxL 60 - 2) _ = _; rw [show zMaxL 60 = 2 by decide +kernel]; rfl) ?_
      refine m60 hx ⟨by decide, by decide⟩ (gF_v (by decide +kernel) ?_)
      by_cases q0 : lo1 x 4 = 0
      · rw [nb_eq.mpr q0, cond_true] at etk
        have := lo1_lt (v := y) (n := 60) (by decide)
        refine h_if (w := 281474994537233) (pc2 := 267) (by decide +kernel) (b := false) (by decide +kernel) (by omega)  (zc_ne_f q0) ?_
        refine h_con (w := 281474980643329) (pc2 := 269) (by decide +kernel) (v := 60) (by decide +kernel) ?_
        refine h_goto (w := 17892115) (pc2 := 273) (by decide +kernel) (by decide +kernel) ?_
        refine h_c8 (w := 33856360863454291482641190) (c := 60) (n := 2) (by decide +kernel) (by decide +kernel) ⟨Nat.le_of_ble_eq_true rfl, Nat.le_of_ble_eq_true rfl⟩ (show ∀ cx ∈ [60, y], cx < 8589934592 from zl_c (zlo (by decide)) (zl_c (zlo (by omega)) zl_n)) (st2 := [1, bR 0 0]) rfl (l2 := [y, 60]) (by show (List.take 2 _).reverse ++ List.replicate (zMaxL 60 - 2) _ = _; rw [show zMaxL 60 = 2 by decide +kernel]; rfl) ?_
        refine m60 hy ⟨by decide, by decide⟩ (gF_v (by decide +kernel) ?_)
        refine h_add (w := 263) (pc2 := 277) (by decide +kernel) (by decide +kernel) (by decide) (by omega) (c := (1 + lo1 y 60)) (Nat.mod_eq_of_lt (by omega)) ?_
        rw [← etk]
        refine h_cv (w := 64081738409852939705385765) (c := 50) (n := 1) (by decide +kernel) (by decide +kernel) rfl (zA_O hW) ⟨Nat.le_of_ble_eq_true rfl, Nat.le_of_ble_eq_true rfl⟩ (show ∀ cx ∈ [(tk1 sc k), bR 0 0], cx < 8589934592 from zl_c (zlo (by omega)) (zl_c r00.2 zl_n)) (st2 := []) rfl (l2 := [bR 0 0, (tk1 sc k), 1099511627776]) (by show (List.take 2 _).reverse ++ List.replicate (zMaxL 50 - 2) _ = _; rw [show zMaxL 50 = 3 by decide +kernel]; rfl) ?_
        refine m50 hW hI hB hu hb (fun m1 hW1 => gF_v (by decide +kernel) ?_)
        exact h_ret (w := 301) (by decide +kernel) (by decide +kernel) sub1_lt (fun h => absurd h (by decide +kernel)) (g m1 hW1)
      · rw [nb_ne.mpr q0, cond_false] at etk
        have := lo1_lt (v := y) (n := 5) (by decide)
        refine h_if (w := 281474994537233) (pc2 := 272) (by decide +kernel) (b := true) (by decide +kernel) (by omega)  (zc_ne_t q0) ?_
        refine h_con (w := 327937) (pc2 := 273) (by decide +kernel) (v := 5) (by decide +kernel) ?_
        refine h_c8 (w := 33856360863454291482641190) (c := 60) (n := 2) (by decide +kernel) (by decide +kernel) ⟨Nat.le_of_ble_eq_true rfl, Nat.le_of_ble_eq_true rfl⟩ (show ∀ cx ∈ [5, y], cx < 8589934592 from zl_c (zlo (by decide)) (zl_c (zlo (by omega)) zl_n)) (st2 := [1, bR 0 0]) rfl (l2 := [y, 5]) (by show (List.take 2 _).reverse ++ List.replicate (zMaxL 60 - 2) _ = _; rw [show zMaxL 60 = 2 by decide +kernel]; rfl) ?_
        refine m60 hy ⟨by decide, by decide⟩ (gF_v (by decide +kernel) ?_)
        refine h_add (w := 263) (pc2 := 277) (by decide +kernel) (by decide +kernel) (by decide) (by omega) (c := (1 + lo1 y 5)) (Nat.mod_eq_of_lt (by omega)) ?_
        rw [← etk]
        refine h_cv (w := 64081738409852939705385765) (c := 50) (n := 1) (by decide +kernel) (by decide +kernel) rfl (zA_O hW) ⟨Nat.le_of_ble_eq_true rfl, Nat.le_of_ble_eq_true rfl⟩ (show ∀ cx ∈ [(tk1 sc k), bR 0 0], cx < 8589934592 from zl_c (zlo (by omega)) (zl_c r00.2 zl_n)) (st2 := []) rfl (l2 := [bR 0 0, (tk1 sc k), 1099511627776]) (by show (List.take 2 _).reverse ++ List.replicate (zMaxL 50 - 2) _ = _; rw [show zMaxL 50 = 3 by decide +kernel]; rfl) ?_
        refine m50 hW hI hB hu hb (fun m1 hW1 => gF_v (by decide +kernel) ?_)
        exact h_ret (w := 301) (by decide +kernel) (by decide +kernel) sub1_lt (fun h => absurd h (by decide +kernel)) (g m1 hW1)
    rcases (show so = 0 ∨ so = 1 ∨ so = 2 ∨ so = 3 ∨ so = 4 ∨ so = 5 ∨ so = 6 ∨ so = 7 ∨ so = 8 ∨ so = 9 ∨ so = 10 ∨ so = 11 ∨ so = 12 ∨ so = 13 ∨ so = 14 ∨ so = 15 ∨ so = 16 ∨ so = 17 ∨ so = 18 ∨ so = 19 by omega) with rfl | rfl | rfl | rfl | rfl | rfl | rfl | rfl | rfl | rfl | rfl | rfl | rfl | rfl | rfl | rfl | rfl | rfl | rfl | rfl
    · skip
      refine h_sw (w := 279828) (pc2 := 120) (by decide +kernel) (by decide +kernel) (by decide) ?_
      exact t120 (g1 (by decide))
    · skip
      refine h_sw (w := 279828) (pc2 := 120) (by decide +kernel) (by decide +kernel) (by decide) ?_
      exact t120 (g1 (by decide))
    · skip
      refine h_sw (w := 279828) (pc2 := 120) (by decide +kernel) (by decide +kernel) (by decide) ?_
      exact t120 (g1 (by decide))
    · skip
      refine h_sw (w := 279828) (pc2 := 145) (by decide +kernel) (by decide +kernel) (by decide) ?_
      exact t145 (g1 (by decide))
    · skip
      refine h_sw (w := 279828) (pc2 := 152) (by decide +kernel) (by decide +kernel) (by decide) ?_
      exact t152 (g1 (by decide))
    · skip
      refine h_sw (w := 279828) (pc2 := 173) (by decide +kernel) (by decide +kernel) (by decide) ?_
      exact t173 (g1 (by decide))
    · skip
      refine h_sw (w := 279828) (pc2 := 187) (by decide +kernel) (by decide +kernel) (by decide) ?_
      exact t187 (g1 (by decide))
    · skip
      refine h_sw (w := 279828) (pc2 := 187) (by decide +kernel) (by decide +kernel) (by decide) ?_
      exact t187 (g1 (by decide))
    · skip
      refine h_sw (w := 279828) (pc2 := 201) (by decide +kernel) (by decide +kernel) (by decide) ?_
      exact t201 (g1 (by decide))
    · skip
      refine h_sw (w := 279828) (pc2 := 201) (by decide +kernel) (by decide +kernel) (by decide) ?_
      exact t201 (g1 (by decide))
    · skip
      refine h_sw (w := 279828) (pc2 := 201) (by decide +kernel) (by decide +kernel) (by decide) ?_
      exact t201 (g1 (by decide))
    · skip
      refine h_sw (w := 279828) (pc2 := 201) (by decide +kernel) (by decide +kernel) (by decide) ?_
      exact t201 (g1 (by decide))
    · skip
      refine h_sw (w := 279828) (pc2 := 201) (by decide +kernel) (by decide +kernel) (by decide) ?_
      exact t201 (g1 (by decide))
    · skip
      refine h_sw (w := 279828) (pc2 := 236) (by decide +kernel) (by decide +kernel) (by decide) ?_
      exact t236 (g1 (by decide))
    · skip
      refine h_sw (w := 279828) (pc2 := 255) (by decide +kernel) (by decide +kernel) (by decide) ?_
      exact t255 (g2 (by decide))
    · skip
      refine h_sw (w := 279828) (pc2 := 255) (by decide +kernel) (by decide +kernel) (by decide) ?_
      exact t255 (g2 (by decide))
    · skip
      refine h_sw (w := 279828) (pc2 := 255) (by decide +kernel) (by decide +kernel) (by decide) ?_
      exact t255 (g2 (by decide))
    · skip
      refine h_sw (w := 279828) (pc2 := 255) (by decide +kernel) (by decide +kernel) (by decide) ?_
      exact t255 (g2 (by decide))
    · skip
      refine h_sw (w := 279828) (pc2 := 255) (by decide +kernel) (by decide +kernel) (by decide) ?_
      exact t255 (g2 (by decide))
    · skip
      refine h_sw (w := 279828) (pc2 := 255) (by decide +kernel) (by decide +kernel) (by decide) ?_
      exact t255 (g2 (by decide))
  by_cases q1 : a 1 = 0
  · skip
    refine h_if (w := 281474978874129) (pc2 := 29) (by decide +kernel) (b := false) (by decide +kernel) (by omega)  (zc_ne_f q1) ?_
    refine h_con (w := 257) (pc2 := 30) (by decide +kernel) (v := 0) (by decide +kernel) ?_
    refine h_goto (w := 2556691) (pc2 := 39) (by decide +kernel) (by decide +kernel) ?_
    exact go 0 (by decide)
  · have hj := lo1_lt (v := x) (n := a 1) (by omega)
    refine h_if (w := 281474978874129) (pc2 := 33) (by decide +kernel) (b := true) (by decide +kernel) (by omega)  (zc_ne_t q1) ?_
    refine h_ldi (w := 196866) (pc2 := 34) (by decide +kernel) (by decide +kernel) rfl (by omega) ?_
    refine h_ldi (w := 281474977038850) (pc2 := 36) (by decide +kernel) (by decide +kernel) rfl (by omega) ?_
    refine h_c8 (w := 33856360863454291482641190) (c := 60) (n := 2) (by decide +kernel) (by decide +kernel) ⟨Nat.le_of_ble_eq_true rfl, Nat.le_of_ble_eq_true rfl⟩ (show ∀ cx ∈ [(a 1), x], cx < 8589934592 from zl_c (zlo (by omega)) (zl_c (zlo (by omega)) zl_n)) (st2 := []) rfl (l2 := [x, (a 1)]) (by show (List.take 2 _).reverse ++ List.replicate (zMaxL 60 - 2) _ = _; rw [show zMaxL 60 = 2 by decide +kernel]; rfl) ?_
    refine m60 hx ⟨by omega, by omega⟩ (gF_v (by decide +kernel) ?_)
    exact go _ (by omega)
end BG
