/-! ===== the constructors, run by the kernel: the cells newest first, numbers worked out at each step ===== -/
/-- numbers are worked out before the run goes on -/
noncomputable def zF {α : Type} (n : Nat) (k : Nat → α) : α := Nat.rec (motive := fun _ => α) (k 0) (fun x _ => k (Nat.succ x)) n
theorem zF_eq {α : Type} {n : Nat} {k : Nat → α} : zF n k = k n := by
  cases n <;> rfl
noncomputable def zFL {α : Type} (l : List Nat) : (List Nat → α) → α := List.rec (motive := fun _ => (List Nat → α) → α) (fun k => k []) (fun a _ ih k => zF a (fun a => ih (fun t => k (a :: t)))) l
theorem zFL_eq {α : Type} : ∀ {l : List Nat} {k : List Nat → α}, zFL l k = k l
  | [], _ => rfl
  | a :: l, k => by
    show zF a (fun a => zFL l (fun t => k (a :: t))) = _
    rw [zF_eq, zFL_eq]
abbrev kR : Type := Option (Nat × List Nat × List Nat × Nat × zM)
def kNx (pc : Nat) (ls st : List Nat) (N : Nat) (R : zM) : kR := some (pc, ls, st, N, R)
def kAt (N : Nat) (R : zM) (r : Nat) : Option (Nat × Nat × (Nat → Nat)) := bif Nat.blt 4294967296 r && Nat.blt r (4294967297 + N) then R[N - 1 - (r - 4294967297)]? else none
def kSet (N : Nat) (R : zM) (r : Nat) (x : Nat × Nat × (Nat → Nat)) : zM := R.set (N - 1 - (r - 4294967297)) x
section KO
variable (w pc : Nat) (ls st : List Nat) (N : Nat) (R : zM)
def k1 : kR := kNx (pc + zln w) ls (za w :: st) N R
def k2 : kR := match ls[za w]? with
  | some c => bif Nat.blt c 4294967296 then kNx (pc + zln w) ls (c :: st) N R else none
  | none => none
def k3 : kR := match ls[za w]? with
  | some c => bif Nat.blt 4294967296 c && Nat.blt c 1099511627776 then kNx (pc + zln w) ls (c :: st) N R else none
  | none => none
def k4 : kR := match st with
  | c :: st => bif Nat.blt c 4294967296 && Nat.blt (za w) ls.length then kNx (pc + zln w) (ls.set (za w) c) st N R else none
  | [] => none
def k5 : kR := match st with
  | c :: st => bif (Nat.blt 4294967296 c && Nat.blt c 1099511627776) && Nat.blt (za w) ls.length then kNx (pc + zln w) (ls.set (za w) c) st N R else none
  | [] => none
def k6 : kR := match ls[zb w]? with
  | some c => bif Nat.blt c 4294967296 then kNx (pc + 3) (ls.set (zb w) ((c + za w) % 4294967296)) st N R else none
  | none => none
def k7 : kR := match st with
  | b :: a :: st => bif Nat.blt a 4294967296 && Nat.blt b 4294967296 then kNx (pc + 1) ls ((a + b) % 4294967296 :: st) N R else none
  | _ => none
def k14 : kR := match st with
  | a :: st => bif Nat.blt a 1099511627776 then kNx (pc + 1) ls (a :: a :: st) N R else none
  | _ => none
def k18 : kR := match st with
  | b :: a :: st => bif Nat.blt a 4294967296 && Nat.blt b 4294967296 then kNx (bif zCmp (zb w) a b then za w else pc + 3) ls st N R else none
  | _ => none
def k22 : kR := match st with
  | r :: st => (match kAt N R r with
    | some (kd, n, f) => bif Nat.beq kd (zb w) && Nat.blt (zc w) n then kNx (pc + 3) ls (f (zc w) :: st) N R else none
    | none => none)
  | _ => none
def k23 : kR := match st with
  | v :: r :: st => (match kAt N R r with
    | some (kd, n, f) => bif (Nat.beq kd (zb w) && Nat.blt (zc w) n) && zOkV (zTag (zTy (zb w) (zc w))) v then kNx (pc + 3) ls st N (kSet N R r (kd, n, zUp f (zc w) v)) else none
    | none => none)
  | _ => none
def k25 : kR := kNx (pc + 3) ls ((8589934592 + zb w) :: st) N R
def k26 : kR := match st with
  | j :: r :: st => bif Nat.ble 8589934592 r then (bif Nat.blt j 5 && Nat.blt r 8589934595 then kNx (pc + 1) ls ((zCT (r - 8589934592)).getD j 0 :: st) N R else none)
      else (match kAt N R r with
      | some (kd, n, f) => bif (Nat.beq kd 7 && (Nat.blt j n && Nat.blt n 2147483648)) && Nat.blt (f j) 4294967296 then kNx (pc + 1) ls (f j :: st) N R else none
      | none => none)
  | _ => none
def k27 : kR := match st with
  | v :: j :: r :: st => (match kAt N R r with
    | some (kd, n, f) => bif (Nat.beq kd 7 && (Nat.blt j n && Nat.blt n 2147483648)) && Nat.blt v 4294967296 then kNx (pc + 1) ls st N (kSet N R r (kd, n, zUp f j v)) else none
    | none => none)
  | _ => none
def k31 : kR := match st with
  | v :: j :: r :: st => (match kAt N R r, kAt N R v with
    | some (kd, n, f), some (kv, _, _) => bif (Nat.ble 9 kd && (Nat.ble kd 11 && (Nat.blt j n && Nat.blt n 2147483648))) && Nat.beq kv (zEl kd) then kNx (pc + 1) ls st N (kSet N R r (kd, n, zUp f j v)) else none
    | _, _ => none)
  | _ => none
def k32 : kR := match st with
  | r :: st => (match kAt N R r with
    | some (kd, n, _) => bif Nat.blt r 8589934592 && (Nat.ble 7 kd && (Nat.ble kd 11 && Nat.blt n 2147483648)) then kNx (pc + 1) ls (n :: st) N R else none
    | none => none)
  | _ => none
def k33 (d : Nat) : kR := match st with
  | n :: st => bif Nat.ble n 4000 && Nat.blt N 100000 then kNx (pc + zln w) ls ((4294967297 + N) :: st) (N + 1) (zNw (zb w) n d :: R) else none
  | _ => none
def k35 : kR := bif Nat.blt N 100000 then kNx (pc + 3) ls ((4294967297 + N) :: st) (N + 1) (zNo (zb w) :: R) else none
def k36 : kR := match st with
  | r :: st => bif (Nat.blt 4294967296 r && Nat.blt r 1099511627776) && Nat.ble st.length 8 then kNx (pc + 3) ls st N R else none
  | _ => none
def kOne (op : Nat) : kR :=
  bif Nat.ble op 14 then
    (bif Nat.ble op 3 then (bif Nat.beq op 1 then k1 w pc ls st N R else bif Nat.beq op 2 then k2 w pc ls st N R else bif Nat.beq op 3 then k3 w pc ls st N R else none)
     else bif Nat.beq op 4 then k4 w pc ls st N R else bif Nat.beq op 5 then k5 w pc ls st N R else bif Nat.beq op 6 then k6 w pc ls st N R else bif Nat.beq op 7 then k7 pc ls st N R else bif Nat.beq op 14 then k14 pc ls st N R else none)
  else bif Nat.ble op 26 then
    (bif Nat.beq op 18 then k18 w pc ls st N R else bif Nat.beq op 19 then kNx (za w) ls st N R else bif Nat.beq op 22 then k22 w pc ls st N R else bif Nat.beq op 23 || Nat.beq op 24 then k23 w pc ls st N R
     else bif Nat.beq op 25 then k25 w pc ls st N R else bif Nat.beq op 26 then k26 pc ls st N R else none)
  else (bif Nat.beq op 27 then k27 pc ls st N R else bif Nat.beq op 31 then k31 pc ls st N R else bif Nat.beq op 32 then k32 pc ls st N R else bif Nat.beq op 33 then k33 w pc ls st N R 0
    else bif Nat.beq op 34 then k33 w pc ls st N R 4294967296 else bif Nat.beq op 35 then k35 w pc ls st N R else bif Nat.beq op 36 then k36 pc ls st N R else none)
end KO
section KP
variable {sc : List Nat} {i w pc : Nat} {ls st : List Nat} {N : Nat} {R : zM} {pc2 : Nat} {ls2 st2 : List Nat} {N2 : Nat} {R2 : zM}
/-- what a step of the two is -/
def kSt (sc : List Nat) (i w pc : Nat) (ls st : List Nat) (R : zM) (pc2 : Nat) (ls2 st2 : List Nat) (N2 : Nat) (R2 : zM) : Prop := zOne sc i w pc ls st R.reverse = some (.inl (pc2, ls2, st2, R2.reverse)) ∧ N2 = R2.length ∧ N2 ≤ 100000
theorem kAt_ok {r : Nat} {x : Nat × Nat × (Nat → Nat)} (hN : N = R.length) (hb : N ≤ 100000) (h : kAt N R r = some x) : zAt R.reverse r = some x ∧ r < 8589934592 := by
  unfold kAt at h
  obtain ⟨h1, h⟩ := cs_and h
  simp only [Bool.and_eq_true, nl_lt] at h1
  unfold zAt
  rw [if_pos (by omega), List.getElem?_reverse (by omega), ← hN]
  exact ⟨h, by omega⟩
theorem kSet_ok {r : Nat} {x y : Nat × Nat × (Nat → Nat)} (hN : N = R.length) (h : kAt N R r = some y) : (kSet N R r x).reverse = R.reverse.set (r - 4294967297) x ∧ (kSet N R r x).length = N := by
  unfold kAt at h
  obtain ⟨h1, -⟩ := cs_and h
  simp only [Bool.and_eq_true, nl_lt] at h1
  unfold kSet
  refine ⟨?_, by rw [List.length_set, hN]⟩
  apply List.ext_getElem?
  intro k
  by_cases hk : k < R.length
  · rw [List.getElem?_reverse (by rw [List.length_set]; exact hk), List.getElem?_set, List.getElem?_set, List.length_set, List.length_reverse, List.getElem?_reverse hk]
    by_cases q : r - 4294967297 = k
    · rw [if_pos (by omega), if_pos q, if_pos (by omega), if_pos (by omega)]
    · rw [if_neg (by omega), if_neg q]
  · rw [List.getElem?_eq_none (by rw [List.length_reverse, List.length_set]; omega), List.getElem?_eq_none (by rw [List.length_set, List.length_reverse]; omega)]
theorem k18_ok (hN : N = R.length) (hb : N ≤ 100000) (hop : zop w = 18) (h : k18 w pc ls st N R = some (pc2, ls2, st2, N2, R2)) : kSt sc i w pc ls st R pc2 ls2 st2 N2 R2 := by
  unfold k18 at h
  split at h
  · rename_i b a st0
    obtain ⟨h1, h⟩ := cs_and h
    simp only [Bool.and_eq_true, nl_lt] at h1
    cases q2 : zCmp (zb w) a b
    · rw [q2, cond_false] at h
      cases h
      refine ⟨?_, hN, hb⟩
      simp only [zOne, hop, ↓reduceIte, Nat.reduceEqDiff, zNx, if_pos h1, q2, Bool.false_eq_true]
    · rw [q2, cond_true] at h
      cases h
      refine ⟨?_, hN, hb⟩
      simp only [zOne, hop, ↓reduceIte, Nat.reduceEqDiff, zNx, if_pos h1, q2]
  · cases h
theorem k22_ok (hN : N = R.length) (hb : N ≤ 100000) (hop : zop w = 22) (h : k22 w pc ls st N R = some (pc2, ls2, st2, N2, R2)) : kSt sc i w pc ls st R pc2 ls2 st2 N2 R2 := by
  unfold k22 at h
  split at h
  · rename_i r st0
    split at h
    · rename_i kd n f hx
      obtain ⟨h1, h⟩ := cs_and h
      cases h
      simp only [Bool.and_eq_true, nb_eq, nl_lt] at h1
      obtain ⟨e1, -⟩ := kAt_ok hN hb hx
      refine ⟨?_, hN, hb⟩
      simp only [zOne, hop, ↓reduceIte, Nat.reduceEqDiff, or_self, e1, zNx, if_pos h1]
    · cases h
  · cases h
theorem k23_ok (hN : N = R.length) (hb : N ≤ 100000) (hop : zop w = 23 ∨ zop w = 24) (h : k23 w pc ls st N R = some (pc2, ls2, st2, N2, R2)) : kSt sc i w pc ls st R pc2 ls2 st2 N2 R2 := by
  unfold k23 at h
  split at h
  · rename_i v r st0
    split at h
    · rename_i kd n f hx
      obtain ⟨h1, h⟩ := cs_and h
      cases h
      simp only [Bool.and_eq_true, nb_eq, nl_lt] at h1
      obtain ⟨e1, -⟩ := kAt_ok hN hb hx
      obtain ⟨e2, e3⟩ := kSet_ok (x := (kd, n, zUp f (zc w) v)) hN hx
      refine ⟨?_, e3.symm, by omega⟩
      rw [e2]
      rcases hop with hop | hop <;> simp only [zOne, hop, ↓reduceIte, Nat.reduceEqDiff, or_self, or_true, true_or, e1, zNx, if_pos h1]
    · cases h
  · cases h
theorem k26_ok (hN : N = R.length) (hb : N ≤ 100000) (hop : zop w = 26) (h : k26 pc ls st N R = some (pc2, ls2, st2, N2, R2)) : kSt sc i w pc ls st R pc2 ls2 st2 N2 R2 := by
  unfold k26 at h
  split at h
  · rename_i j r st0
    rcases cs_ite h with ⟨h0, h⟩ | ⟨h0, h⟩
    · obtain ⟨h1, h⟩ := cs_and h
      cases h
      simp only [Bool.and_eq_true, nl_lt] at h1
      have h0 := nl_le.mp h0
      refine ⟨?_, hN, hb⟩
      simp only [zOne, hop, ↓reduceIte, Nat.reduceEqDiff, or_self, zNx, if_pos h0, if_pos h1]
    · have h0 : ¬ 8589934592 ≤ r := by have := nl_nle.mp h0; omega
      split at h
      · rename_i kd n f hx
        obtain ⟨h1, h⟩ := cs_and h
        cases h
        simp only [Bool.and_eq_true, nb_eq, nl_lt] at h1
        obtain ⟨e1, -⟩ := kAt_ok hN hb hx
        refine ⟨?_, hN, hb⟩
        simp only [zOne, hop, ↓reduceIte, Nat.reduceEqDiff, or_self, e1, zNx, if_neg h0, if_pos h1]
      · cases h
  · cases h
theorem k27_ok (hN : N = R.length) (hb : N ≤ 100000) (hop : zop w = 27) (h : k27 pc ls st N R = some (pc2, ls2, st2, N2, R2)) : kSt sc i w pc ls st R pc2 ls2 st2 N2 R2 := by
  unfold k27 at h
  split at h
  · rename_i v j r st0
    split at h
    · rename_i kd n f hx
      obtain ⟨h1, h⟩ := cs_and h
      cases h
      simp only [Bool.and_eq_true, nb_eq, nl_lt] at h1
      obtain ⟨e1, -⟩ := kAt_ok hN hb hx
      obtain ⟨e2, e3⟩ := kSet_ok (x := (kd, n, zUp f j v)) hN hx
      refine ⟨?_, e3.symm, by omega⟩
      rw [e2]
      simp only [zOne, hop, ↓reduceIte, Nat.reduceEqDiff, or_self, e1, zNx, if_pos h1]
    · cases h
  · cases h
theorem k31_ok (hN : N = R.length) (hb : N ≤ 100000) (hop : zop w = 31) (h : k31 pc ls st N R = some (pc2, ls2, st2, N2, R2)) : kSt sc i w pc ls st R pc2 ls2 st2 N2 R2 := by
  unfold k31 at h
  split at h
  · rename_i v j r st0
    split at h
    · rename_i kd n f kv n2 f2 hx hy
      obtain ⟨h1, h⟩ := cs_and h
      cases h
      simp only [Bool.and_eq_true, nb_eq, nl_lt, nl_le] at h1
      obtain ⟨e1, -⟩ := kAt_ok hN hb hx
      obtain ⟨e4, -⟩ := kAt_ok hN hb hy
      obtain ⟨e2, e3⟩ := kSet_ok (x := (kd, n, zUp f j v)) hN hx
      refine ⟨?_, e3.symm, by omega⟩
      rw [e2]
      simp only [zOne, hop, ↓reduceIte, Nat.reduceEqDiff, or_self, e1, e4, zNx, if_pos h1]
    · cases h
  · cases h
theorem k32_ok (hN : N = R.length) (hb : N ≤ 100000) (hop : zop w = 32) (h : k32 pc ls st N R = some (pc2, ls2, st2, N2, R2)) : kSt sc i w pc ls st R pc2 ls2 st2 N2 R2 := by
  unfold k32 at h
  split at h
  · rename_i r st0
    split at h
    · rename_i kd n f hx
      obtain ⟨h1, h⟩ := cs_and h
      cases h
      simp only [Bool.and_eq_true, nl_lt, nl_le] at h1
      obtain ⟨e1, e0⟩ := kAt_ok hN hb hx
      have h0 : ¬ r = 8589934595 := by omega
      refine ⟨?_, hN, hb⟩
      simp only [zOne, hop, ↓reduceIte, Nat.reduceEqDiff, or_self, e1, zNx, if_neg h0, if_pos h1.2]
    · cases h
  · cases h
theorem k33_ok {d : Nat} (hN : N = R.length) (hop : zop w = 33 ∧ d = 0 ∨ zop w = 34 ∧ d = 4294967296) (h : k33 w pc ls st N R d = some (pc2, ls2, st2, N2, R2)) : kSt sc i w pc ls st R pc2 ls2 st2 N2 R2 := by
  unfold k33 at h
  split at h
  · rename_i n st0
    obtain ⟨h1, h⟩ := cs_and h
    cases h
    simp only [Bool.and_eq_true, nl_lt, nl_le] at h1
    refine ⟨?_, by rw [hN]; rfl, by omega⟩
    have h2 : n ≤ 4000 ∧ R.reverse.length < 100000 := ⟨h1.1, by rw [List.length_reverse]; omega⟩
    rw [List.reverse_cons, hN, ← List.length_reverse (as := R)]
    rcases hop with ⟨hop, rfl⟩ | ⟨hop, rfl⟩ <;> simp only [zOne, hop, ↓reduceIte, Nat.reduceEqDiff, or_self, or_true, true_or, zNx, if_pos h2]
  · cases h
theorem k35_ok (hN : N = R.length) (hop : zop w = 35) (h : k35 w pc ls st N R = some (pc2, ls2, st2, N2, R2)) : kSt sc i w pc ls st R pc2 ls2 st2 N2 R2 := by
  unfold k35 at h
  obtain ⟨h1, h⟩ := cs_and h
  cases h
  have h1 := nl_lt.mp h1
  refine ⟨?_, by rw [hN]; rfl, by omega⟩
  have h2 : R.reverse.length < 100000 := by rw [List.length_reverse]; omega
  rw [List.reverse_cons, hN, ← List.length_reverse (as := R)]
  simp only [zOne, hop, ↓reduceIte, Nat.reduceEqDiff, or_self, zNx, if_pos h2]
end KP
section KQ
variable {sc : List Nat} {i w pc : Nat} {ls st : List Nat} {N : Nat} {R : zM} {pc2 : Nat} {ls2 st2 : List Nat} {N2 : Nat} {R2 : zM}
theorem kA_ok (hN : N = R.length) (hb : N ≤ 100000) {op : Nat} (ho : op ≤ 14) (hop : zop w = op) (h : kOne w pc ls st N R op = some (pc2, ls2, st2, N2, R2)) : kSt sc i w pc ls st R pc2 ls2 st2 N2 R2 := by
  unfold kOne at h
  rw [nl_le.mpr ho, cond_true] at h
  rcases cs_ite h with ⟨-, h⟩ | ⟨-, h⟩
  · rcases cs_eq h with ⟨q, h⟩ | ⟨-, h⟩
    · cases h
      refine ⟨?_, hN, hb⟩
      simp only [zOne, hop, q, ↓reduceIte, zNx]
    rcases cs_eq h with ⟨q, h⟩ | ⟨-, h⟩
    · unfold k2 at h
      split at h
      · rename_i c hc
        obtain ⟨h1, h⟩ := cs_and h
        cases h
        refine ⟨?_, hN, hb⟩
        simp only [zOne, hop, q, ↓reduceIte, Nat.reduceEqDiff, hc, zNx, if_pos (nl_lt.mp h1)]
      · cases h
    rcases cs_eq h with ⟨q, h⟩ | ⟨-, h⟩
    · unfold k3 at h
      split at h
      · rename_i c hc
        obtain ⟨h1, h⟩ := cs_and h
        cases h
        simp only [Bool.and_eq_true, nl_lt] at h1
        refine ⟨?_, hN, hb⟩
        simp only [zOne, hop, q, ↓reduceIte, Nat.reduceEqDiff, hc, zNx, if_pos h1]
      · cases h
    · cases h
  · rcases cs_eq h with ⟨q, h⟩ | ⟨-, h⟩
    · unfold k4 at h
      split at h
      · rename_i c st0
        obtain ⟨h1, h⟩ := cs_and h
        cases h
        simp only [Bool.and_eq_true, nl_lt] at h1
        refine ⟨?_, hN, hb⟩
        simp only [zOne, hop, q, ↓reduceIte, Nat.reduceEqDiff, zNx, if_pos h1]
      · cases h
    rcases cs_eq h with ⟨q, h⟩ | ⟨-, h⟩
    · unfold k5 at h
      split at h
      · rename_i c st0
        obtain ⟨h1, h⟩ := cs_and h
        cases h
        simp only [Bool.and_eq_true, nl_lt] at h1
        refine ⟨?_, hN, hb⟩
        simp only [zOne, hop, q, ↓reduceIte, Nat.reduceEqDiff, zNx, if_pos h1]
      · cases h
    rcases cs_eq h with ⟨q, h⟩ | ⟨-, h⟩
    · unfold k6 at h
      split at h
      · rename_i c hc
        obtain ⟨h1, h⟩ := cs_and h
        cases h
        refine ⟨?_, hN, hb⟩
        simp only [zOne, hop, q, ↓reduceIte, Nat.reduceEqDiff, hc, zNx, if_pos (nl_lt.mp h1)]
      · cases h
    rcases cs_eq h with ⟨q, h⟩ | ⟨-, h⟩
    · unfold k7 at h
      split at h
      · rename_i b a st0
        obtain ⟨h1, h⟩ := cs_and h
        cases h
        simp only [Bool.and_eq_true, nl_lt] at h1
        refine ⟨?_, hN, hb⟩
        simp only [zOne, hop, q, ↓reduceIte, Nat.reduceEqDiff, zNx, if_pos h1]
      · cases h
    rcases cs_eq h with ⟨q, h⟩ | ⟨-, h⟩
    · unfold k14 at h
      split at h
      · rename_i a st0
        obtain ⟨h1, h⟩ := cs_and h
        cases h
        refine ⟨?_, hN, hb⟩
        simp only [zOne, hop, q, ↓reduceIte, Nat.reduceEqDiff, zNx, if_pos (nl_lt.mp h1)]
      · cases h
    · cases h
theorem kB_ok (hN : N = R.length) (hb : N ≤ 100000) {op : Nat} (ho : ¬ op ≤ 14) (hop : zop w = op) (h : kOne w pc ls st N R op = some (pc2, ls2, st2, N2, R2)) : kSt sc i w pc ls st R pc2 ls2 st2 N2 R2 := by
  unfold kOne at h
  rw [nl_nle.mpr (by omega), cond_false] at h
  rcases cs_ite h with ⟨-, h⟩ | ⟨-, h⟩
  · rcases cs_eq h with ⟨q, h⟩ | ⟨-, h⟩
    · exact k18_ok hN hb (hop.trans q) h
    rcases cs_eq h with ⟨q, h⟩ | ⟨-, h⟩
    · cases h
      refine ⟨?_, hN, hb⟩
      simp only [zOne, hop, q, ↓reduceIte, Nat.reduceEqDiff, zNx]
    rcases cs_eq h with ⟨q, h⟩ | ⟨-, h⟩
    · exact k22_ok hN hb (hop.trans q) h
    rcases cs_ite h with ⟨q, h⟩ | ⟨-, h⟩
    · simp only [Bool.or_eq_true, nb_eq] at q
      exact k23_ok hN hb (by omega) h
    rcases cs_eq h with ⟨q, h⟩ | ⟨-, h⟩
    · cases h
      refine ⟨?_, hN, hb⟩
      simp only [zOne, hop, q, ↓reduceIte, Nat.reduceEqDiff, or_self, zNx]
    rcases cs_eq h with ⟨q, h⟩ | ⟨-, h⟩
    · exact k26_ok hN hb (hop.trans q) h
    · cases h
  · rcases cs_eq h with ⟨q, h⟩ | ⟨-, h⟩
    · exact k27_ok hN hb (hop.trans q) h
    rcases cs_eq h with ⟨q, h⟩ | ⟨-, h⟩
    · exact k31_ok hN hb (hop.trans q) h
    rcases cs_eq h with ⟨q, h⟩ | ⟨-, h⟩
    · exact k32_ok hN hb (hop.trans q) h
    rcases cs_eq h with ⟨q, h⟩ | ⟨-, h⟩
    · exact k33_ok hN (Or.inl ⟨hop.trans q, rfl⟩) h
    rcases cs_eq h with ⟨q, h⟩ | ⟨-, h⟩
    · exact k33_ok hN (Or.inr ⟨hop.trans q, rfl⟩) h
    rcases cs_eq h with ⟨q, h⟩ | ⟨-, h⟩
    · exact k35_ok hN (hop.trans q) h
    rcases cs_eq h with ⟨q, h⟩ | ⟨-, h⟩
    · unfold k36 at h
      split at h
      · rename_i r st0
        obtain ⟨h1, h⟩ := cs_and h
        cases h
        simp only [Bool.and_eq_true, nl_lt, nl_le] at h1
        refine ⟨?_, hN, hb⟩
        simp only [zOne, hop, q, ↓reduceIte, Nat.reduceEqDiff, or_self, zNx, if_pos h1]
      · cases h
    · cases h
theorem kOne_ok (hN : N = R.length) (hb : N ≤ 100000) (h : kOne w pc ls st N R (zop w) = some (pc2, ls2, st2, N2, R2)) : kSt sc i w pc ls st R pc2 ls2 st2 N2 R2 := by
  by_cases q : zop w ≤ 14
  · exact kA_ok hN hb q rfl h
  · exact kB_ok hN hb q rfl h
end KQ
/-- a constructor's call is one: no answer, receiver and arguments as they are -/
noncomputable def kGo (n : Nat) : Nat → Nat → List Nat → List Nat → Nat → zM → Option (Nat × zM) :=
  Nat.rec (motive := fun _ => Nat → Nat → List Nat → List Nat → Nat → zM → Option (Nat × zM)) (fun _ _ _ _ _ _ => none)
    (fun _ ih i pc ls st N R => zF (zI i pc) (fun w => zF (zop w) (fun op =>
      bif Nat.ble op 36 then (match kOne w pc ls st N R op with
        | some (pc', ls', st', N', R') => zF pc' (fun pc' => zFL ls' (fun ls' => zFL st' (fun st' => zF N' (fun N' => ih i pc' ls' st' N' R'))))
        | none => none)
      else bif Nat.beq op 46 then (match st with | [] => bif Nat.beq (zRet i) 0 then some (N, R) else none | _ => none)
      else bif (Nat.beq op 39 || Nat.beq op 41) && Nat.beq (zRet (za w)) 0 then
        (bif zCOk w st [] then
          zFL (zEn (za w) (zb w) st) (fun l2 => zF (za w) (fun i2 => match ih i2 0 l2 [] N R with
          | some (N', R') => zF N' (fun N' => zFL (st.drop (zb w)) (fun st => zF (pc + 3) (fun pc => ih i pc ls st N' R')))
          | none => none))
        else none)
      else none))) n
theorem kGo_s {n i pc : Nat} {ls st : List Nat} {N : Nat} {R : zM} : kGo (n + 1) i pc ls st N R = (bif Nat.ble (zop (zI i pc)) 36 then (match kOne (zI i pc) pc ls st N R (zop (zI i pc)) with
        | some (pc', ls', st', N', R') => kGo n i pc' ls' st' N' R'
        | none => none)
      else bif Nat.beq (zop (zI i pc)) 46 then (match st with | [] => bif Nat.beq (zRet i) 0 then some (N, R) else none | _ => none)
      else bif (Nat.beq (zop (zI i pc)) 39 || Nat.beq (zop (zI i pc)) 41) && Nat.beq (zRet (za (zI i pc))) 0 then
        (bif zCOk (zI i pc) st [] then (match kGo n (za (zI i pc)) 0 (zEn (za (zI i pc)) (zb (zI i pc)) st) [] N R with
          | some (N', R') => kGo n i (pc + 3) ls (st.drop (zb (zI i pc))) N' R'
          | none => none)
        else none)
      else none) := by
  have h : kGo (n + 1) i pc ls st N R = zF (zI i pc) (fun w => zF (zop w) (fun op =>
      bif Nat.ble op 36 then (match kOne w pc ls st N R op with
        | some (pc', ls', st', N', R') => zF pc' (fun pc' => zFL ls' (fun ls' => zFL st' (fun st' => zF N' (fun N' => kGo n i pc' ls' st' N' R'))))
        | none => none)
      else bif Nat.beq op 46 then (match st with | [] => bif Nat.beq (zRet i) 0 then some (N, R) else none | _ => none)
      else bif (Nat.beq op 39 || Nat.beq op 41) && Nat.beq (zRet (za w)) 0 then
        (bif zCOk w st [] then
          zFL (zEn (za w) (zb w) st) (fun l2 => zF (za w) (fun i2 => match kGo n i2 0 l2 [] N R with
          | some (N', R') => zF N' (fun N' => zFL (st.drop (zb w)) (fun st => zF (pc + 3) (fun pc => kGo n i pc ls st N' R')))
          | none => none))
        else none)
      else none)) := rfl
  rw [h, zF_eq, zF_eq]
  simp only [zF_eq, zFL_eq]
theorem zCOk_m {w : Nat} {st : List Nat} {m : zM} (h : zop w = 39 ∨ zop w = 41) : zCOk w st m = zCOk w st [] := by
  unfold zCOk zRcv
  rw [if_neg (show ¬ zop w = 37 by omega), if_neg (show ¬ zop w = 37 by omega), if_pos h]
theorem zIsC_f {w : Nat} (h : zop w ≤ 36 ∨ zop w = 46) : zIsC w = false := by
  unfold zIsC
  rw [Bool.and_eq_false_iff, decide_eq_false_iff_not, decide_eq_false_iff_not]
  omega
theorem zIsC_t {w : Nat} (h : zop w = 39 ∨ zop w = 41) : zIsC w = true := by
  unfold zIsC
  rw [Bool.and_eq_true, decide_eq_true_eq, decide_eq_true_eq]
  omega
theorem kGo_ok {sc : List Nat} : ∀ {n i pc : Nat} {ls st : List Nat} {N : Nat} {R : zM} {N' : Nat} {R' : zM}, kGo n i pc ls st N R = some (N', R') → N = R.length → N ≤ 100000 → zGo sc n i pc ls st R.reverse = some (0, R'.reverse) ∧ N' = R'.length ∧ N' ≤ 100000
  | 0, _, _, _, _, _, _, _, _, h, _, _ => by cases h
  | n + 1, i, pc, ls, st, N, R, N', R', h, hN, hb => by
    rw [kGo_s] at h
    unfold zGo
    rcases cs_ite h with ⟨q, h⟩ | ⟨q, h⟩
    · rw [if_neg (by rw [zIsC_f (Or.inl (nl_le.mp q))]; decide)]
      split at h
      · rename_i pc2 ls2 st2 N2 R2 hk
        obtain ⟨g1, g2, g3⟩ := kOne_ok (sc := sc) (i := i) hN hb hk
        rw [g1]
        exact kGo_ok h g2 g3
      · cases h
    rcases cs_eq h with ⟨q, h⟩ | ⟨-, h⟩
    · rw [if_neg (by rw [zIsC_f (Or.inr q)]; decide)]
      split at h
      · obtain ⟨q2, h⟩ := cs_and h
        cases h
        have q2 := nb_eq.mp q2
        have hz : zOne sc i (zI i pc) pc ls [] R.reverse = some (.inr 0) := by simp only [zOne, q, ↓reduceIte, Nat.reduceEqDiff, or_self, q2]
        rw [hz]
        exact ⟨rfl, hN, hb⟩
      · cases h
    obtain ⟨q, h⟩ := cs_and h
    obtain ⟨q2, h⟩ := cs_and h
    simp only [Bool.and_eq_true, Bool.or_eq_true, nb_eq] at q
    rw [if_pos (zIsC_t q.1), if_pos (by rw [zCOk_m q.1]; exact q2)]
    split at h
    · rename_i N2 R2 hk
      obtain ⟨g1, g2, g3⟩ := kGo_ok (sc := sc) hk hN hb
      rw [g1]
      show zGo sc n i (pc + 3) ls (if zRet (za (zI i pc)) = 0 then _ else _) R2.reverse = _ ∧ _
      rw [if_pos q.2]
      exact kGo_ok h g2 g3
    · cases h
/-- some instructions of one method, constructors' calls run through -/
noncomputable def kFore (n i k : Nat) : Nat → List Nat → List Nat → Nat → zM → kR :=
  Nat.rec (motive := fun _ => Nat → List Nat → List Nat → Nat → zM → kR) (fun pc ls st N R => some (pc, ls, st, N, R))
    (fun _ ih pc ls st N R =>
      bif Nat.ble (zop (zI i pc)) 36 then (match kOne (zI i pc) pc ls st N R (zop (zI i pc)) with
        | some (pc', ls', st', N', R') => zF pc' (fun pc' => zFL ls' (fun ls' => zFL st' (fun st' => zF N' (fun N' => ih pc' ls' st' N' R'))))
        | none => none)
      else bif (Nat.beq (zop (zI i pc)) 39 || Nat.beq (zop (zI i pc)) 41) && Nat.beq (zRet (za (zI i pc))) 0 then
        (bif zCOk (zI i pc) st [] then
          zFL (zEn (za (zI i pc)) (zb (zI i pc)) st) (fun l2 => match kGo n (za (zI i pc)) 0 l2 [] N R with
          | some (N', R') => zF N' (fun N' => zFL (st.drop (zb (zI i pc))) (fun st => zF (pc + 3) (fun pc => ih pc ls st N' R')))
          | none => none)
        else none)
      else none) k
theorem kFore_s {n i k pc : Nat} {ls st : List Nat} {N : Nat} {R : zM} : kFore n i (k + 1) pc ls st N R = (bif Nat.ble (zop (zI i pc)) 36 then (match kOne (zI i pc) pc ls st N R (zop (zI i pc)) with
        | some (pc', ls', st', N', R') => kFore n i k pc' ls' st' N' R'
        | none => none)
      else bif (Nat.beq (zop (zI i pc)) 39 || Nat.beq (zop (zI i pc)) 41) && Nat.beq (zRet (za (zI i pc))) 0 then
        (bif zCOk (zI i pc) st [] then (match kGo n (za (zI i pc)) 0 (zEn (za (zI i pc)) (zb (zI i pc)) st) [] N R with
          | some (N', R') => kFore n i k (pc + 3) ls (st.drop (zb (zI i pc))) N' R'
          | none => none)
        else none)
      else none) := by
  have h : kFore n i (k + 1) pc ls st N R = (bif Nat.ble (zop (zI i pc)) 36 then (match kOne (zI i pc) pc ls st N R (zop (zI i pc)) with
        | some (pc', ls', st', N', R') => zF pc' (fun pc' => zFL ls' (fun ls' => zFL st' (fun st' => zF N' (fun N' => kFore n i k pc' ls' st' N' R'))))
        | none => none)
      else bif (Nat.beq (zop (zI i pc)) 39 || Nat.beq (zop (zI i pc)) 41) && Nat.beq (zRet (za (zI i pc))) 0 then
        (bif zCOk (zI i pc) st [] then
          zFL (zEn (za (zI i pc)) (zb (zI i pc)) st) (fun l2 => match kGo n (za (zI i pc)) 0 l2 [] N R with
          | some (N', R') => zF N' (fun N' => zFL (st.drop (zb (zI i pc))) (fun st => zF (pc + 3) (fun pc => kFore n i k pc ls st N' R')))
          | none => none)
        else none)
      else none) := rfl
  rw [h]
  simp only [zF_eq, zFL_eq]
theorem kFore_ok {sc : List Nat} {Q : Nat → zM → Prop} {n i : Nat} : ∀ {k pc : Nat} {ls st : List Nat} {N : Nat} {R : zM} {pc2 : Nat} {ls2 st2 : List Nat} {N2 : Nat} {R2 : zM}, kFore n i k pc ls st N R = some (pc2, ls2, st2, N2, R2) → N = R.length → N ≤ 100000 → gFin sc Q [] i pc2 ls2 st2 R2.reverse → gFin sc Q [] i pc ls st R.reverse
  | 0, _, _, _, _, _, _, _, _, _, _, h, _, _, g => by
    cases h
    exact g
  | k + 1, pc, ls, st, N, R, pc2, ls2, st2, N2, R2, h, hN, hb, g => by
    rw [kFore_s] at h
    rcases cs_ite h with ⟨q, h⟩ | ⟨q, h⟩
    · split at h
      · rename_i pc3 ls3 st3 N3 R3 hk
        obtain ⟨g1, g2, g3⟩ := kOne_ok (sc := sc) (i := i) hN hb hk
        exact gFin_step (zIsC_f (Or.inl (nl_le.mp q))) g1 (kFore_ok h g2 g3 g)
      · cases h
    obtain ⟨q, h⟩ := cs_and h
    obtain ⟨q2, h⟩ := cs_and h
    simp only [Bool.and_eq_true, Bool.or_eq_true, nb_eq] at q
    split at h
    · rename_i N3 R3 hk
      obtain ⟨g1, g2, g3⟩ := kGo_ok (sc := sc) hk hN hb
      refine gFin_call (zIsC_t q.1) (by rw [zCOk_m q.1]; exact q2) ⟨n, 0, _, g1, ?_⟩
      show gFin sc Q [] i (pc + 3) ls (if zRet (za (zI i pc)) = 0 then _ else _) R3.reverse
      rw [if_pos q.2]
      exact kFore_ok h g2 g3 g
    · cases h
/-! what a memory is looked through for -/
def cA (e : eE) (c : Nat) : Bool := match e with
  | (t, lo, hi, st, _) => bif Nat.beq t 3 then true
    else bif Nat.beq t 1 then Nat.ble 4294967297 c && (Nat.blt (c - 4294967297) eRG.length && Nat.beq (eRG.getD (c - 4294967297) 0) lo)
    else bif Nat.beq t 0 then (Nat.blt c 4294967296 && (Nat.ble lo (zs c) && Nat.ble (zs c) hi)) && Nat.beq ((zs c - lo) % st) 0
    else bif Nat.beq t 5 then (Nat.blt c 4294967296 && (Nat.ble lo (zs c) && Nat.ble (zs c) hi)) && Nat.ble c st else false
theorem cA_ok {e : eE} {c : Nat} (h : cA e c = true) : gA 0 e c := by
  obtain ⟨t, lo, hi, st, id, off⟩ := e
  unfold cA at h
  unfold gA
  rcases cs_ite h with ⟨q, h⟩ | ⟨q, h⟩
  · exact Or.inr (Or.inr (Or.inr (Or.inl (nb_eq.mp q))))
  rcases cs_ite h with ⟨q, h⟩ | ⟨q, h⟩
  · simp only [Bool.and_eq_true, nl_le, nl_lt, nb_eq] at h
    exact Or.inr (Or.inl ⟨nb_eq.mp q, c - 4294967297, h.2.1, by omega, h.2.2⟩)
  rcases cs_ite h with ⟨q, h⟩ | ⟨q, h⟩
  · simp only [Bool.and_eq_true, nl_le, nl_lt, nb_eq] at h
    exact Or.inl ⟨nb_eq.mp q, h.1.1, h.1.2, Nat.dvd_of_mod_eq_zero h.2⟩
  rcases cs_ite h with ⟨q, h⟩ | ⟨q, h⟩
  · simp only [Bool.and_eq_true, nl_le, nl_lt] at h
    exact Or.inr (Or.inr (Or.inr (Or.inr ⟨nb_eq.mp q, h.1.1, h.1.2, by rw [Nat.zero_add]; exact h.2⟩)))
  · cases h
def cSeg (f : Nat → Nat) : List (Nat × Nat × List eE) → Nat → Bool
  | [], _ => true
  | (n, per, tys) :: t, o => (List.range n).all (fun j => cA (tys.getD (j % per) eAny) (f (o + j))) && cSeg f t (o + n)
theorem cSeg_ok {f : Nat → Nat} : ∀ {segs : List (Nat × Nat × List eE)} {o : Nat}, cSeg f segs o = true → ∀ j : Nat, gA 0 (eSeg segs j) (f (o + j))
  | [], _, _, _ => Or.inr (Or.inr (Or.inr (Or.inl rfl)))
  | (n, per, tys) :: t, o, h, j => by
    simp only [cSeg, Bool.and_eq_true] at h
    simp only [eSeg]
    cases q : Nat.blt j n
    · have := cSeg_ok h.2 (j - n)
      rw [show o + n + (j - n) = o + j by have := nl_nlt.mp q; omega] at this
      exact this
    · exact cA_ok (List.all_eq_true.mp h.1 j (List.mem_range.mpr (nl_lt.mp q)))
def cCell (r : Nat) (x : Nat × Nat × (Nat → Nat)) : Bool := match x with
  | (kd, n, f) => (Nat.beq kd (eRTg r).1 && Nat.beq n (eRTg r).2.1) && cSeg f (eRTg r).2.2 0
theorem cCell_ok {r kd n : Nat} {f : Nat → Nat} (h : cCell r (kd, n, f) = true) : kd = eKd r ∧ n = eLen r ∧ ∀ j : Nat, gA 0 (eTy r j) (f j) := by
  simp only [cCell, Bool.and_eq_true, nb_eq] at h
  refine ⟨h.1.1, h.1.2, fun j => ?_⟩
  have := cSeg_ok h.2 j
  rwa [Nat.zero_add] at this
def cMem : zM → List Nat → Bool
  | [], [] => true
  | x :: m, r :: rs => cCell r x && cMem m rs
  | _, _ => false
theorem cMem_ok : ∀ {m : zM} {rs : List Nat}, cMem m rs = true → m.length = rs.length ∧ ∀ k : Nat, k < rs.length → ∃ f : Nat → Nat, m[k]? = some (eKd (rs.getD k 0), eLen (rs.getD k 0), f) ∧ ∀ j : Nat, j < eLen (rs.getD k 0) → gA 0 (eTy (rs.getD k 0) j) (f j)
  | [], [], _ => ⟨rfl, fun k h => by cases h⟩
  | [], _ :: _, h => by cases h
  | _ :: _, [], h => by cases h
  | (kd, n, f) :: m, r :: rs, h => by
    simp only [cMem, Bool.and_eq_true] at h
    obtain ⟨h3, h4⟩ := h
    obtain ⟨h1, h2, h3⟩ := cCell_ok h3
    obtain ⟨g1, g2⟩ := cMem_ok h4
    refine ⟨by simp [g1], fun k hk => ?_⟩
    rcases k with _ | k
    · exact ⟨f, by rw [h1, h2]; rfl, fun j _ => h3 j⟩
    · exact g2 k (by simpa using hk)
theorem cMem_gM {m : zM} (h : cMem m eRG = true) : gM 0 m := cMem_ok h
/-- a fact of a single cell -/
def cFact (m : zM) (f : eF) : Bool := match f with
  | (o, r, k1, k2, k3, e) => (Nat.beq k1 0 && (Nat.beq o (r + 1) && (Nat.beq k3 0 && Nat.beq (eId e) 0))) && (Nat.blt 0 (eSg.getD r 0) && (match m[eSg.getD r 0 - 1]? with
    | some (_, _, g) => cA e (g k2)
    | none => false))
def cRho (L x : Nat) : Nat := if x = 9500 then L else if x = 9003 then 0 else 4294967296 + eSg.getD (x - 1) 0
set_option maxRecDepth 100000 in
theorem eSg_len : eSg.length < 9000 := by decide +kernel
set_option maxRecDepth 100000 in
theorem eSg_ok : (List.range eSg.length).all (fun r => Nat.beq (eSg.getD r 0) 0 || (Nat.blt (eSg.getD r 0 - 1) eRG.length && Nat.beq (eRG.getD (eSg.getD r 0 - 1) 0) r)) = true := by decide +kernel
theorem eSg_lt {r : Nat} (h : 0 < eSg.getD r 0) : r < eSg.length := by
  apply Nat.lt_of_not_le
  intro q
  rw [List.getD_eq_getElem?_getD, List.getElem?_eq_none q] at h
  exact absurd h (by decide)
theorem eSg_rg {r : Nat} (h : 0 < eSg.getD r 0) : eSg.getD r 0 - 1 < eRG.length ∧ eRG.getD (eSg.getD r 0 - 1) 0 = r := by
  have h1 := List.all_eq_true.mp eSg_ok r (List.mem_range.mpr (eSg_lt h))
  simp only [Bool.or_eq_true, Bool.and_eq_true, nb_eq, nl_lt] at h1
  rcases h1 with h1 | h1
  · omega
  · exact h1
theorem cRho_at {L r : Nat} (h : 0 < eSg.getD r 0) : cRho L (r + 1) = 4294967297 + (eSg.getD r 0 - 1) := by
  have h1 := eSg_lt h
  have h2 := eSg_len
  unfold cRho
  rw [if_neg (by omega), if_neg (by omega), Nat.add_sub_cancel]
  omega
theorem cFact_ok {sc : List Nat} {m : zM} {f : eF} (h : cFact m f = true) : gF sc 0 (cRho sc.length) 10000 m f := by
  obtain ⟨o, r, k1, k2, k3, e⟩ := f
  simp only [cFact, Bool.and_eq_true, nb_eq, nl_lt] at h
  obtain ⟨⟨rfl, rfl, rfl, h4⟩, h5, h6⟩ := h
  have h1 := eSg_lt h5
  have h2 := eSg_len
  obtain ⟨h7, h8⟩ := eSg_rg h5
  split at h6
  · rename_i kd n g hg
    refine (gF_a (by decide)).mpr ⟨⟨by omega, Or.inl rfl⟩, g k2, ?_, gE_plain (by decide) (cA_ok h6) h4⟩
    unfold gSl
    rw [if_neg (by omega)]
    exact ⟨_, kd, n, g, ⟨h7, cRho_at h5, h8⟩, hg, rfl⟩
  · cases h6
theorem cRig {sc : List Nat} (h1 : sc.length < 2147483648) (h2 : eN.1 ≤ sc.length) (h3 : sc.length ≤ eN.2) (h4 : ∀ c ∈ sc, c < 4294967296) : gRig sc (cRho sc.length) := ⟨fun r h => cRho_at h, ⟨rfl, rfl⟩, ⟨h1, h2, h3⟩, h4⟩
