/-! ===== calls, shorter; arms counted (printed by wip/gen/m83.py) ===== -/
theorem zl_n : ∀ c ∈ ([] : List Nat), c < 8589934592 := fun _ h => absurd h List.not_mem_nil
theorem zl_c {x : Nat} {l : List Nat} (h : x < 8589934592) (t : ∀ c ∈ l, c < 8589934592) : ∀ c ∈ x :: l, c < 8589934592 := fun c hc => by
  rcases List.mem_cons.mp hc with rfl | hc
  · exact h
  · exact t c hc
theorem zlo {x : Nat} (h : x < 4294967296) : x < 8589934592 := by omega
section BK
variable {sc : List Nat} {Q : Nat → zM → Prop} {frs : gCf} {i pc w pc2 : Nat} {ls st : List Nat} {m m0 : zM} {b : Nat} {p a : Nat → Nat}
theorem gF_v {c v : Nat} (h : zRet c ≠ 0) (g : gFin sc Q frs i (pc + 3) ls (v :: st) m) : gFin1 sc Q ((i, pc, ls, st) :: frs) c v m := by
  show gFin sc Q frs i (pc + 3) ls (if zRet c = 0 then st else v :: st) m
  rw [if_neg h]
  exact g
theorem gF_0 {c v : Nat} (h : zRet c = 0) (g : gFin sc Q frs i (pc + 3) ls st m) : gFin1 sc Q ((i, pc, ls, st) :: frs) c v m := by
  show gFin sc Q frs i (pc + 3) ls (if zRet c = 0 then st else v :: st) m
  rw [if_pos h]
  exact g
/-- a call of an object's method -/
theorem h_cv {c n r : Nat} {st2 l2 : List Nat} (hw : zI i pc = w) (ho : (zop w = 37 ∧ zb w = n + 1) ∧ za w = c ∧ n + 1 ≤ zMaxL c) (hs : st[n]? = some r) (hz : ∃ x f, zAt m r = some (zMtf c 0, x, f)) (hl : n + 1 ≤ st.length ∧ st.length ≤ n + 9) (ha : ∀ c ∈ st.take (n + 1), c < 8589934592) (hd : st.drop (n + 1) = st2) (he : zEn c (n + 1) st = l2) (g : gFin sc Q ((i, pc, ls, st2) :: frs) c 0 l2 [] m) : gFin sc Q frs i pc ls st m := by
  obtain ⟨x, f, hz⟩ := hz
  obtain ⟨h1, rfl, h3⟩ := ho
  exact h_call hw ⟨by unfold zIsC; rw [h1.1]; rfl, rfl⟩ (zCOk_v h1 hs hz ⟨rfl, h3⟩ hl ha) (by rw [h1.2]; exact hd) (by rw [h1.2]; exact he) g
theorem h_cs {c n : Nat} {st2 l2 : List Nat} (hw : zI i pc = w) (ho : (zop w = 40 ∧ zb w = n) ∧ za w = c ∧ n ≤ zMaxL c) (hl : n ≤ st.length ∧ st.length ≤ n + 8) (ha : ∀ c ∈ st.take n, c < 8589934592) (hd : st.drop n = st2) (he : zEn c n st = l2) (g : gFin sc Q ((i, pc, ls, st2) :: frs) c 0 l2 [] m) : gFin sc Q frs i pc ls st m := by
  obtain ⟨h1, rfl, h3⟩ := ho
  exact h_call hw ⟨by unfold zIsC; rw [h1.1]; rfl, rfl⟩ (zCOk_t h1 h3 hl ha) (by rw [h1.2]; exact hd) (by rw [h1.2]; exact he) g
theorem zA_o {o : Nat} (hS : bS b p a m0 m) (ho : o < 61) : ∃ f, zAt m (bR b o) = some (bKd o, bLn o, f) := by
  obtain ⟨f, h, -⟩ := bM_at (o := o) hS.1 hS.2.1.2.2 ho
  exact ⟨f, h⟩
theorem zA_H {c : Nat} (hS : bS b p a m0 m) (h : zMtf c 0 = 1 := by decide +kernel) : ∃ x f, zAt m (bR b 0) = some (zMtf c 0, x, f) := by
  obtain ⟨f, z⟩ := zA_o (o := 0) hS (by decide)
  exact ⟨_, f, by rw [h]; exact z⟩
theorem zA_A {c k : Nat} (hS : bS b p a m0 m) (hp : p k < 17) (h : zMtf c 0 = 0 := by decide +kernel) : ∃ x f, zAt m (bR b (8 + p k)) = some (zMtf c 0, x, f) := by
  obtain ⟨f, z⟩ := zA_o (o := 8 + p k) hS (by omega)
  exact ⟨_, f, by rw [h, z, (kA_o hp).1]⟩
theorem zA_L {c q : Nat} (hS : bS b p a m0 m) (hq : q < 12) (h : zMtf c 0 = 2 := by decide +kernel) : ∃ x f, zAt m (bR b (25 + 3 * q)) = some (zMtf c 0, x, f) := by
  obtain ⟨f, z⟩ := zA_o (o := 25 + 3 * q) hS (by omega)
  exact ⟨_, f, by rw [h, z, (kL_o (q := q)).1.1]⟩
theorem zA_G {c : Nat} (hS : bS b p a m0 m) (h : zMtf c 0 = 4 := by decide +kernel) : ∃ x f, zAt m (bR b 6) = some (zMtf c 0, x, f) := by
  obtain ⟨f, z⟩ := zA_o (o := 6) hS (by decide)
  exact ⟨_, f, by rw [h]; exact z⟩
theorem zIsC_f15 {w : Nat} (h : zop w = 15) : zIsC w = false := by
  unfold zIsC
  rw [h]
  rfl
theorem h_pop {x : Nat} (hw : zI i pc = w) (ho : zop w = 15 ∧ pc + 1 = pc2) (hx : x < 8589934592) (g : gFin sc Q frs i pc2 ls st m) : gFin sc Q frs i pc ls (x :: st) m := by
  subst hw
  obtain ⟨h1, rfl⟩ := ho
  have h2 : x < 1099511627776 := by omega
  exact gFin_step (zIsC_f15 h1) (by simp only [zOne, h1, ↓reduceIte, Nat.reduceEqDiff, zNx, if_pos h2]) g
end BK
/-- sums -/
def sm : Nat → (Nat → Nat) → Nat
  | 0, _ => 0
  | n + 1, f => sm n f + f n
theorem sm_le {f : Nat → Nat} (h : ∀ i, f i ≤ 1) : ∀ n, sm n f ≤ n
  | 0 => Nat.le_refl 0
  | n + 1 => by
    have h1 := sm_le h n
    have h2 := h n
    show sm n f + f n ≤ n + 1
    omega
def i1 (c : Bool) : Nat := bif c then 1 else 0
theorem i1_le {c : Bool} : i1 c ≤ 1 := by cases c <;> decide
section BG
variable {sc : List Nat} {Q : Nat → zM → Prop} {frs : gCf} {m m0 : zM} {b : Nat} {p a : Nat → Nat}
def fDo (a : Nat → Nat) (d k : Nat) : Nat := i1 (Nat.beq (a (100 + 8 * k + 2)) d)
def fAt (a : Nat → Nat) (q d k : Nat) : Nat := i1 (Nat.beq (a (100 + 8 * k + 1)) q && Nat.beq (a (100 + 8 * k + 2)) d)
def fTi (a : Nat → Nat) (k : Nat) : Nat := i1 (!Nat.beq (a (100 + 8 * k + 4)) 0)
theorem m27_loop {e : Nat} (hS : bS b p a m0 m) (he : e < 4294967296) : ∀ (d k s : Nat), k + d = a 1 → s = sm k (fDo a e) → gFin1 sc Q frs 27 (sm (a 1) (fDo a e)) m → gFin sc Q frs 27 4 [bR b 0, e, s, k] [] m := by
  have h17 := hS.2.1.2.1.2
  intro d
  induction d with
  | zero =>
    intro k s hk hs g
    have h1 := sm_le (f := fDo a e) (fun _ => i1_le) k
    rw [← show k = a 1 by omega, ← hs] at g
    refine h_ldi (w := 196866) (pc2 := 5) (by decide +kernel) (by decide +kernel) rfl (by omega) ?_
    refine h_ldr (w := 259) (pc2 := 6) (by decide +kernel) (by decide +kernel) rfl (bR_ref hS.2.1.2.2 (by omega)) ?_
    refine s_getHx (w := 59237383608142378255516438) (pc2 := 9) (by decide +kernel) (c := 1) (x := 1) (by decide +kernel) hS.1 hS.2.1 (by decide) ?_
    refine h_icmp (w := 844424932688658) (pc2 := 39) (by decide +kernel) (b := true) (by decide +kernel) (by omega) (hS.2.1.2.1.1 _) (zc_ge_t (by omega) (by omega) (by omega)) ?_
    refine h_ldi (w := 131330) (pc2 := 40) (by decide +kernel) (by decide +kernel) rfl (by omega) ?_
    exact h_ret (w := 301) (by decide +kernel) (by decide +kernel) (by omega) (fun h => absurd h (by decide +kernel)) g
  | succ d IH =>
    intro k s hk hs g
    have h1 := sm_le (f := fDo a e) (fun _ => i1_le) k
    have hi : k < a 1 := by omega
    have hp := hS.2.1.1.1 k (by omega)
    have t2 := hS.2.1.2.1.1 (100 + 8 * k + 2)
    have t1 := hS.2.1.2.1.1 (100 + 8 * k + 1)
    have t4 := hS.2.1.2.1.1 (100 + 8 * k + 4)
    refine h_ldi (w := 196866) (pc2 := 5) (by decide +kernel) (by decide +kernel) rfl (by omega) ?_
    refine h_ldr (w := 259) (pc2 := 6) (by decide +kernel) (by decide +kernel) rfl (bR_ref hS.2.1.2.2 (by omega)) ?_
    refine s_getHx (w := 59237383608142378255516438) (pc2 := 9) (by decide +kernel) (c := 1) (x := 1) (by decide +kernel) hS.1 hS.2.1 (by decide) ?_
    refine h_icmp (w := 844424932688658) (pc2 := 12) (by decide +kernel) (b := false) (by decide +kernel) (by omega) (hS.2.1.2.1.1 _) (zc_ge_f (by omega) (by omega) (by omega)) ?_
    refine h_ldi (w := 131330) (pc2 := 13) (by decide +kernel) (by decide +kernel) rfl (by omega) ?_
    refine h_ldr (w := 259) (pc2 := 14) (by decide +kernel) (by decide +kernel) rfl (bR_ref hS.2.1.2.2 (by omega)) ?_
    refine s_getHr (w := 13298220909530543326364438) (pc2 := 17) (by decide +kernel) (c := 2) (k := 1) (by decide +kernel) hS.1 hS.2.1 (by decide) ?_
    refine h_ldi (w := 196866) (pc2 := 18) (by decide +kernel) (by decide +kernel) rfl (by omega) ?_
    refine s_aldA (w := 286) (pc2 := 19) (by decide +kernel) (by decide +kernel) hS.1 hS.2.1 (by omega) ?_
    refine s_getA (w := 101549805741116998099010326) (pc2 := 22) (by decide +kernel) (c := 2) (by decide +kernel) hS.1 hS.2.1 hi ?_
    refine h_ldi (w := 65794) (pc2 := 23) (by decide +kernel) (by decide +kernel) rfl (by omega) ?_
    by_cases q0 : a (100 + 8 * k + 2) = e
    · skip
      refine h_icmp (w := 281474978677522) (pc2 := 26) (by decide +kernel) (b := false) (by decide +kernel) (hS.2.1.2.1.1 _) (by omega) (zc_ne_f q0) ?_
      refine h_con (w := 65793) (pc2 := 27) (by decide +kernel) (v := 1) (by decide +kernel) ?_
      refine h_goto (w := 2032403) (pc2 := 31) (by decide +kernel) (by decide +kernel) ?_
      refine h_add (w := 263) (pc2 := 32) (by decide +kernel) (by decide +kernel) (by omega) (by decide) (c := (s + 1)) (by show (_ + 1) % 4294967296 = _; omega) ?_
      refine h_sti (w := 131332) (pc2 := 33) (by decide +kernel) (n := 4) (by decide +kernel) rfl (by omega) (ls2 := [bR b 0, e, (s + 1), k]) rfl ?_
      refine h_inc (w := 844424930198278) (pc2 := 36) (by decide +kernel) (by decide +kernel) rfl (by omega) (c2 := (k + 1)) (by show (_ + 1) % 4294967296 = _; omega) (ls2 := [bR b 0, e, (s + 1), (k + 1)]) rfl ?_
      refine h_goto (w := 262931) (pc2 := 4) (by decide +kernel) (by decide +kernel) ?_
      exact IH (k + 1) _ (by omega) (by show s + 1 = sm k (fDo a e) + (fDo a e) k; rw [hs, show fDo a e k = 1 from by unfold fDo; rw [nb_eq.mpr q0]; rfl]) g
    · skip
      refine h_icmp (w := 281474978677522) (pc2 := 30) (by decide +kernel) (b := true) (by decide +kernel) (hS.2.1.2.1.1 _) (by omega) (zc_ne_t q0) ?_
      refine h_con (w := 257) (pc2 := 31) (by decide +kernel) (v := 0) (by decide +kernel) ?_
      refine h_add (w := 263) (pc2 := 32) (by decide +kernel) (by decide +kernel) (by omega) (by decide) (c := (s + 0)) (by show (_ + 0) % 4294967296 = _; omega) ?_
      refine h_sti (w := 131332) (pc2 := 33) (by decide +kernel) (n := 4) (by decide +kernel) rfl (by omega) (ls2 := [bR b 0, e, (s + 0), k]) rfl ?_
      refine h_inc (w := 844424930198278) (pc2 := 36) (by decide +kernel) (by decide +kernel) rfl (by omega) (c2 := (k + 1)) (by show (_ + 1) % 4294967296 = _; omega) (ls2 := [bR b 0, e, (s + 0), (k + 1)]) rfl ?_
      refine h_goto (w := 262931) (pc2 := 4) (by decide +kernel) (by decide +kernel) ?_
      exact IH (k + 1) _ (by omega) (by show s + 0 = sm k (fDo a e) + (fDo a e) k; rw [hs, show fDo a e k = 0 from by unfold fDo; rw [nb_ne.mpr q0]; rfl]) g
theorem m27 {e x y : Nat} (hS : bS b p a m0 m) (he : e < 4294967296) (g : gFin1 sc Q frs 27 (sm (a 1) (fDo a e)) m) : gFin sc Q frs 27 0 [bR b 0, e, x, y] [] m := by
  refine h_con (w := 257) (pc2 := 1) (by decide +kernel) (v := 0) (by decide +kernel) ?_
  refine h_sti (w := 131332) (pc2 := 2) (by decide +kernel) (n := 4) (by decide +kernel) rfl (by decide) (ls2 := [bR b 0, e, 0, y]) rfl ?_
  refine h_con (w := 257) (pc2 := 3) (by decide +kernel) (v := 0) (by decide +kernel) ?_
  refine h_sti (w := 196868) (pc2 := 4) (by decide +kernel) (n := 4) (by decide +kernel) rfl (by decide) (ls2 := [bR b 0, e, 0, 0]) rfl ?_
  exact m27_loop hS he (a 1) 0 0 (Nat.zero_add _) rfl g
theorem m28_loop {q e : Nat} (hS : bS b p a m0 m) (hq : q < 4294967296) (he : e < 4294967296) : ∀ (d k s : Nat), k + d = a 1 → s = sm k (fAt a q e) → gFin1 sc Q frs 28 (sm (a 1) (fAt a q e)) m → gFin sc Q frs 28 5 [bR b 0, q, e, s, k] [] m := by
  have h17 := hS.2.1.2.1.2
  intro d
  induction d with
  | zero =>
    intro k s hk hs g
    have h1 := sm_le (f := fAt a q e) (fun _ => i1_le) k
    rw [← show k = a 1 by omega, ← hs] at g
    refine h_ldi (w := 281474976973314) (pc2 := 7) (by decide +kernel) (by decide +kernel) rfl (by omega) ?_
    refine h_ldr (w := 259) (pc2 := 8) (by decide +kernel) (by decide +kernel) rfl (bR_ref hS.2.1.2.2 (by omega)) ?_
    refine s_getHx (w := 59237383608142378255516438) (pc2 := 11) (by decide +kernel) (c := 1) (x := 1) (by decide +kernel) hS.1 hS.2.1 (by decide) ?_
    refine h_icmp (w := 844424933802770) (pc2 := 56) (by decide +kernel) (b := true) (by decide +kernel) (by omega) (hS.2.1.2.1.1 _) (zc_ge_t (by omega) (by omega) (by omega)) ?_
    refine h_ldi (w := 196866) (pc2 := 57) (by decide +kernel) (by decide +kernel) rfl (by omega) ?_
    exact h_ret (w := 301) (by decide +kernel) (by decide +kernel) (by omega) (fun h => absurd h (by decide +kernel)) g
  | succ d IH =>
    intro k s hk hs g
    have h1 := sm_le (f := fAt a q e) (fun _ => i1_le) k
    have hi : k < a 1 := by omega
    have hp := hS.2.1.1.1 k (by omega)
    have t2 := hS.2.1.2.1.1 (100 + 8 * k + 2)
    have t1 := hS.2.1.2.1.1 (100 + 8 * k + 1)
    have t4 := hS.2.1.2.1.1 (100 + 8 * k + 4)
    refine h_ldi (w := 281474976973314) (pc2 := 7) (by decide +kernel) (by decide +kernel) rfl (by omega) ?_
    refine h_ldr (w := 259) (pc2 := 8) (by decide +kernel) (by decide +kernel) rfl (bR_ref hS.2.1.2.2 (by omega)) ?_
    refine s_getHx (w := 59237383608142378255516438) (pc2 := 11) (by decide +kernel) (c := 1) (x := 1) (by decide +kernel) hS.1 hS.2.1 (by decide) ?_
    refine h_icmp (w := 844424933802770) (pc2 := 14) (by decide +kernel) (b := false) (by decide +kernel) (by omega) (hS.2.1.2.1.1 _) (zc_ge_f (by omega) (by omega) (by omega)) ?_
    refine h_ldi (w := 196866) (pc2 := 15) (by decide +kernel) (by decide +kernel) rfl (by omega) ?_
    refine h_ldr (w := 259) (pc2 := 16) (by decide +kernel) (by decide +kernel) rfl (bR_ref hS.2.1.2.2 (by omega)) ?_
    refine s_getHr (w := 13298220909530543326364438) (pc2 := 19) (by decide +kernel) (c := 2) (k := 1) (by decide +kernel) hS.1 hS.2.1 (by decide) ?_
    refine h_ldi (w := 281474976973314) (pc2 := 21) (by decide +kernel) (by decide +kernel) rfl (by omega) ?_
    refine s_aldA (w := 286) (pc2 := 22) (by decide +kernel) (by decide +kernel) hS.1 hS.2.1 (by omega) ?_
    refine s_getA (w := 97923009835529036865143574) (pc2 := 25) (by decide +kernel) (c := 1) (by decide +kernel) hS.1 hS.2.1 hi ?_
    refine h_ldi (w := 65794) (pc2 := 26) (by decide +kernel) (by decide +kernel) rfl (by omega) ?_
    by_cases q0 : a (100 + 8 * k + 1) = q
    · skip
      refine h_icmp (w := 281474979791634) (pc2 := 29) (by decide +kernel) (b := false) (by decide +kernel) (hS.2.1.2.1.1 _) (by omega) (zc_ne_f q0) ?_
      refine h_ldr (w := 259) (pc2 := 30) (by decide +kernel) (by decide +kernel) rfl (bR_ref hS.2.1.2.2 (by omega)) ?_
      refine s_getHr (w := 13298220909530543326364438) (pc2 := 33) (by decide +kernel) (c := 2) (k := 1) (by decide +kernel) hS.1 hS.2.1 (by decide) ?_
      refine h_ldi (w := 281474976973314) (pc2 := 35) (by decide +kernel) (by decide +kernel) rfl (by omega) ?_
      refine s_aldA (w := 286) (pc2 := 36) (by decide +kernel) (by decide +kernel) hS.1 hS.2.1 (by omega) ?_
      refine s_getA (w := 101549805741116998099010326) (pc2 := 39) (by decide +kernel) (c := 2) (by decide +kernel) hS.1 hS.2.1 hi ?_
      refine h_ldi (w := 131330) (pc2 := 40) (by decide +kernel) (by decide +kernel) rfl (by omega) ?_
      by_cases q1 : a (100 + 8 * k + 2) = e
      · skip
        refine h_icmp (w := 281474979791634) (pc2 := 43) (by decide +kernel) (b := false) (by decide +kernel) (hS.2.1.2.1.1 _) (by omega) (zc_ne_f q1) ?_
        refine h_con (w := 65793) (pc2 := 44) (by decide +kernel) (v := 1) (by decide +kernel) ?_
        refine h_goto (w := 3146515) (pc2 := 48) (by decide +kernel) (by decide +kernel) ?_
        refine h_add (w := 263) (pc2 := 49) (by decide +kernel) (by decide +kernel) (by omega) (by decide) (c := (s + 1)) (by show (_ + 1) % 4294967296 = _; omega) ?_
        refine h_sti (w := 196868) (pc2 := 50) (by decide +kernel) (n := 5) (by decide +kernel) rfl (by omega) (ls2 := [bR b 0, q, e, (s + 1), k]) rfl ?_
        refine h_inc (w := 1125899906908934) (pc2 := 53) (by decide +kernel) (by decide +kernel) rfl (by omega) (c2 := (k + 1)) (by show (_ + 1) % 4294967296 = _; omega) (ls2 := [bR b 0, q, e, (s + 1), (k + 1)]) rfl ?_
        refine h_goto (w := 328467) (pc2 := 5) (by decide +kernel) (by decide +kernel) ?_
        exact IH (k + 1) _ (by omega) (by show s + 1 = sm k (fAt a q e) + (fAt a q e) k; rw [hs, show fAt a q e k = 1 from by unfold fAt; rw [nb_eq.mpr q0, nb_eq.mpr q1]; rfl]) g
      · skip
        refine h_icmp (w := 281474979791634) (pc2 := 47) (by decide +kernel) (b := true) (by decide +kernel) (hS.2.1.2.1.1 _) (by omega) (zc_ne_t q1) ?_
        refine h_con (w := 257) (pc2 := 48) (by decide +kernel) (v := 0) (by decide +kernel) ?_
        refine h_add (w := 263) (pc2 := 49) (by decide +kernel) (by decide +kernel) (by omega) (by decide) (c := (s + 0)) (by show (_ + 0) % 4294967296 = _; omega) ?_
        refine h_sti (w := 196868) (pc2 := 50) (by decide +kernel) (n := 5) (by decide +kernel) rfl (by omega) (ls2 := [bR b 0, q, e, (s + 0), k]) rfl ?_
        refine h_inc (w := 1125899906908934) (pc2 := 53) (by decide +kernel) (by decide +kernel) rfl (by omega) (c2 := (k + 1)) (by show (_ + 1) % 4294967296 = _; omega) (ls2 := [bR b 0, q, e, (s + 0), (k + 1)]) rfl ?_
        refine h_goto (w := 328467) (pc2 := 5) (by decide +kernel) (by decide +kernel) ?_
        exact IH (k + 1) _ (by omega) (by show s + 0 = sm k (fAt a q e) + (fAt a q e) k; rw [hs, show fAt a q e k = 0 from by unfold fAt; rw [nb_eq.mpr q0, nb_ne.mpr q1]; rfl]) g
    · skip
      refine h_icmp (w := 281474979791634) (pc2 := 47) (by decide +kernel) (b := true) (by decide +kernel) (hS.2.1.2.1.1 _) (by omega) (zc_ne_t q0) ?_
      refine h_con (w := 257) (pc2 := 48) (by decide +kernel) (v := 0) (by decide +kernel) ?_
      refine h_add (w := 263) (pc2 := 49) (by decide +kernel) (by decide +kernel) (by omega) (by decide) (c := (s + 0)) (by show (_ + 0) % 4294967296 = _; omega) ?_
      refine h_sti (w := 196868) (pc2 := 50) (by decide +kernel) (n := 5) (by decide +kernel) rfl (by omega) (ls2 := [bR b 0, q, e, (s + 0), k]) rfl ?_
      refine h_inc (w := 1125899906908934) (pc2 := 53) (by decide +kernel) (by decide +kernel) rfl (by omega) (c2 := (k + 1)) (by show (_ + 1) % 4294967296 = _; omega) (ls2 := [bR b 0, q, e, (s + 0), (k + 1)]) rfl ?_
      refine h_goto (w := 328467) (pc2 := 5) (by decide +kernel) (by decide +kernel) ?_
      exact IH (k + 1) _ (by omega) (by show s + 0 = sm k (fAt a q e) + (fAt a q e) k; rw [hs, show fAt a q e k = 0 from by unfold fAt; rw [nb_ne.mpr q0]; rfl]) g
theorem m28 {q e x y : Nat} (hS : bS b p a m0 m) (hq : q < 4294967296) (he : e < 4294967296) (g : gFin1 sc Q frs 28 (sm (a 1) (fAt a q e)) m) : gFin sc Q frs 28 0 [bR b 0, q, e, x, y] [] m := by
  refine h_con (w := 257) (pc2 := 1) (by decide +kernel) (v := 0) (by decide +kernel) ?_
  refine h_sti (w := 196868) (pc2 := 2) (by decide +kernel) (n := 5) (by decide +kernel) rfl (by decide) (ls2 := [bR b 0, q, e, 0, y]) rfl ?_
  refine h_con (w := 257) (pc2 := 3) (by decide +kernel) (v := 0) (by decide +kernel) ?_
  refine h_sti (w := 281474976973316) (pc2 := 5) (by decide +kernel) (n := 5) (by decide +kernel) rfl (by decide) (ls2 := [bR b 0, q, e, 0, 0]) rfl ?_
  exact m28_loop hS hq he (a 1) 0 0 (Nat.zero_add _) rfl g
theorem m29_loop (hS : bS b p a m0 m) : ∀ (d k s : Nat), k + d = a 1 → s = sm k (fTi a) → gFin1 sc Q frs 29 (sm (a 1) (fTi a)) m → gFin sc Q frs 29 4 [bR b 0, s, k] [] m := by
  have h17 := hS.2.1.2.1.2
  intro d
  induction d with
  | zero =>
    intro k s hk hs g
    have h1 := sm_le (f := fTi a) (fun _ => i1_le) k
    rw [← show k = a 1 by omega, ← hs] at g
    refine h_ldi (w := 131330) (pc2 := 5) (by decide +kernel) (by decide +kernel) rfl (by omega) ?_
    refine h_ldr (w := 259) (pc2 := 6) (by decide +kernel) (by decide +kernel) rfl (bR_ref hS.2.1.2.2 (by omega)) ?_
    refine s_getHx (w := 59237383608142378255516438) (pc2 := 9) (by decide +kernel) (c := 1) (x := 1) (by decide +kernel) hS.1 hS.2.1 (by decide) ?_
    refine h_icmp (w := 844424932623122) (pc2 := 38) (by decide +kernel) (b := true) (by decide +kernel) (by omega) (hS.2.1.2.1.1 _) (zc_ge_t (by omega) (by omega) (by omega)) ?_
    refine h_ldi (w := 65794) (pc2 := 39) (by decide +kernel) (by decide +kernel) rfl (by omega) ?_
    exact h_ret (w := 301) (by decide +kernel) (by decide +kernel) (by omega) (fun h => absurd h (by decide +kernel)) g
  | succ d IH =>
    intro k s hk hs g
    have h1 := sm_le (f := fTi a) (fun _ => i1_le) k
    have hi : k < a 1 := by omega
    have hp := hS.2.1.1.1 k (by omega)
    have t2 := hS.2.1.2.1.1 (100 + 8 * k + 2)
    have t1 := hS.2.1.2.1.1 (100 + 8 * k + 1)
    have t4 := hS.2.1.2.1.1 (100 + 8 * k + 4)
    refine h_ldi (w := 131330) (pc2 := 5) (by decide +kernel) (by decide +kernel) rfl (by omega) ?_
    refine h_ldr (w := 259) (pc2 := 6) (by decide +kernel) (by decide +kernel) rfl (bR_ref hS.2.1.2.2 (by omega)) ?_
    refine s_getHx (w := 59237383608142378255516438) (pc2 := 9) (by decide +kernel) (c := 1) (x := 1) (by decide +kernel) hS.1 hS.2.1 (by decide) ?_
    refine h_icmp (w := 844424932623122) (pc2 := 12) (by decide +kernel) (b := false) (by decide +kernel) (by omega) (hS.2.1.2.1.1 _) (zc_ge_f (by omega) (by omega) (by omega)) ?_
    refine h_ldi (w := 65794) (pc2 := 13) (by decide +kernel) (by decide +kernel) rfl (by omega) ?_
    refine h_ldr (w := 259) (pc2 := 14) (by decide +kernel) (by decide +kernel) rfl (bR_ref hS.2.1.2.2 (by omega)) ?_
    refine s_getHr (w := 13298220909530543326364438) (pc2 := 17) (by decide +kernel) (c := 2) (k := 1) (by decide +kernel) hS.1 hS.2.1 (by decide) ?_
    refine h_ldi (w := 131330) (pc2 := 18) (by decide +kernel) (by decide +kernel) rfl (by omega) ?_
    refine s_aldA (w := 286) (pc2 := 19) (by decide +kernel) (by decide +kernel) hS.1 hS.2.1 (by omega) ?_
    refine s_getA (w := 221233498776453433814418198) (pc2 := 22) (by decide +kernel) (c := 4) (by decide +kernel) hS.1 hS.2.1 hi ?_
    by_cases q0 : a (100 + 8 * k + 4) = 0
    · skip
      refine h_if (w := 1901329) (pc2 := 29) (by decide +kernel) (b := true) (by decide +kernel) (hS.2.1.2.1.1 _)  (zc_eq_t q0) ?_
      refine h_con (w := 257) (pc2 := 30) (by decide +kernel) (v := 0) (by decide +kernel) ?_
      refine h_add (w := 263) (pc2 := 31) (by decide +kernel) (by decide +kernel) (by omega) (by decide) (c := (s + 0)) (by show (_ + 0) % 4294967296 = _; omega) ?_
      refine h_sti (w := 65796) (pc2 := 32) (by decide +kernel) (n := 3) (by decide +kernel) rfl (by omega) (ls2 := [bR b 0, (s + 0), k]) rfl ?_
      refine h_inc (w := 562949953487622) (pc2 := 35) (by decide +kernel) (by decide +kernel) rfl (by omega) (c2 := (k + 1)) (by show (_ + 1) % 4294967296 = _; omega) (ls2 := [bR b 0, (s + 0), (k + 1)]) rfl ?_
      refine h_goto (w := 262931) (pc2 := 4) (by decide +kernel) (by decide +kernel) ?_
      exact IH (k + 1) _ (by omega) (by show s + 0 = sm k (fTi a) + (fTi a) k; rw [hs, show fTi a k = 0 from by unfold fTi; rw [nb_eq.mpr q0]; rfl]) g
    · skip
      refine h_if (w := 1901329) (pc2 := 25) (by decide +kernel) (b := false) (by decide +kernel) (hS.2.1.2.1.1 _)  (zc_eq_f q0) ?_
      refine h_con (w := 65793) (pc2 := 26) (by decide +kernel) (v := 1) (by decide +kernel) ?_
      refine h_goto (w := 1966867) (pc2 := 30) (by decide +kernel) (by decide +kernel) ?_
      refine h_add (w := 263) (pc2 := 31) (by decide +kernel) (by decide +kernel) (by omega) (by decide) (c := (s + 1)) (by show (_ + 1) % 4294967296 = _; omega) ?_
      refine h_sti (w := 65796) (pc2 := 32) (by decide +kernel) (n := 3) (by decide +kernel) rfl (by omega) (ls2 := [bR b 0, (s + 1), k]) rfl ?_
      refine h_inc (w := 562949953487622) (pc2 := 35) (by decide +kernel) (by decide +kernel) rfl (by omega) (c2 := (k + 1)) (by show (_ + 1) % 4294967296 = _; omega) (ls2 := [bR b 0, (s + 1), (k + 1)]) rfl ?_
      refine h_goto (w := 262931) (pc2 := 4) (by decide +kernel) (by decide +kernel) ?_
      exact IH (k + 1) _ (by omega) (by show s + 1 = sm k (fTi a) + (fTi a) k; rw [hs, show fTi a k = 1 from by unfold fTi; rw [nb_ne.mpr q0]; rfl]) g
theorem m29 {x y : Nat} (hS : bS b p a m0 m) (g : gFin1 sc Q frs 29 (sm (a 1) (fTi a)) m) : gFin sc Q frs 29 0 [bR b 0, x, y] [] m := by
  refine h_con (w := 257) (pc2 := 1) (by decide +kernel) (v := 0) (by decide +kernel) ?_
  refine h_sti (w := 65796) (pc2 := 2) (by decide +kernel) (n := 3) (by decide +kernel) rfl (by decide) (ls2 := [bR b 0, 0, y]) rfl ?_
  refine h_con (w := 257) (pc2 := 3) (by decide +kernel) (v := 0) (by decide +kernel) ?_
  refine h_sti (w := 131332) (pc2 := 4) (by decide +kernel) (n := 3) (by decide +kernel) rfl (by decide) (ls2 := [bR b 0, 0, 0]) rfl ?_
  exact m29_loop hS  (a 1) 0 0 (Nat.zero_add _) rfl g
def mIt (a : Nat → Nat) (k : Nat) : Nat := bif Nat.beq (mAw a k) 0 then 0 else a (100 + 8 * k + 7)
theorem mAw_lt {k : Nat} : mAw a k < 2 := by
  unfold mAw
  cases Nat.beq (a (100 + 8 * k + 2)) 0
  · exact (show 0 < 2 by decide)
  · cases Nat.beq (a (100 + 8 * k + 1)) (a (100 + 8 * k + 0))
    · exact (show 1 < 2 by decide)
    · exact (show 0 < 2 by decide)
theorem m5 {k : Nat} (hS : bS b p a m0 m) (hi : k < a 1) (g : gFin1 sc Q frs 5 (mIt a k) m) : gFin sc Q frs 5 0 [bR b (8 + p k)] [] m := by
  have h17 := hS.2.1.2.1.2
  have hp := hS.2.1.1.1 k (by omega)
  have ha := mAw_lt (a := a) (k := k)
  refine h_ldr (w := 259) (pc2 := 1) (by decide +kernel) (by decide +kernel) rfl (bR_ref hS.2.1.2.2 (by omega)) ?_
  refine h_cv (w := 44737117514818174394303269) (c := 4) (n := 0) (by decide +kernel) (by decide +kernel) rfl (zA_A hS (by omega)) ⟨Nat.le_of_ble_eq_true rfl, Nat.le_of_ble_eq_true rfl⟩ (show ∀ c ∈ [(bR b (8 + p k))], c < 8589934592 from zl_c (bR_ref hS.2.1.2.2 (by omega)).2 zl_n) (st2 := []) rfl (l2 := [(bR b (8 + p k))]) (by show (List.take 1 _).reverse ++ List.replicate (zMaxL 4 - 1) _ = _; rw [show zMaxL 4 = 1 by decide +kernel]; rfl) ?_
  refine m4 hS hi (gF_v (by decide +kernel) ?_)
  by_cases q0 : mAw a k = 0
  · rw [show mIt a k = 0 from by unfold mIt; rw [nb_eq.mpr q0]; rfl] at g
    refine h_if (w := 918289) (pc2 := 14) (by decide +kernel) (b := true) (by decide +kernel) (by omega)  (zc_eq_t q0) ?_
    refine h_con (w := 257) (pc2 := 15) (by decide +kernel) (v := 0) (by decide +kernel) ?_
    exact h_ret (w := 301) (by decide +kernel) (by decide +kernel) (by decide) (fun h => absurd h (by decide +kernel)) g
  · rw [show mIt a k = a (100 + 8 * k + 7) from by unfold mIt; rw [nb_ne.mpr q0]; rfl] at g
    refine h_if (w := 918289) (pc2 := 7) (by decide +kernel) (b := false) (by decide +kernel) (by omega)  (zc_eq_f q0) ?_
    refine h_ldr (w := 259) (pc2 := 8) (by decide +kernel) (by decide +kernel) rfl (bR_ref hS.2.1.2.2 (by omega)) ?_
    refine s_getA (w := 41103606994105907912246038) (pc2 := 11) (by decide +kernel) (c := 7) (by decide +kernel) hS.1 hS.2.1 hi ?_
    refine h_goto (w := 983827) (pc2 := 15) (by decide +kernel) (by decide +kernel) ?_
    exact h_ret (w := 301) (by decide +kernel) (by decide +kernel) (hS.2.1.2.1.1 _) (fun h => absurd h (by decide +kernel)) g
end BG
