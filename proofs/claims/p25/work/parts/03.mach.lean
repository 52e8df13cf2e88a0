/-! ===== THE PURE MACHINE. A value is a number: an int below 2^32 by its bits; 2^32 is null; 2^32+1+k the cell k; 2^33+j the static array j (0 to 2; 3 is the law's script, sc); 2^40 a local that isn't set. A memory is a list of cells: kind (0 to 6 a class of vwCl; 7 int, 8 char, 9 Arm, 10 Line, 11 Harbour arrays), length, contents. ===== -/
abbrev zM : Type := List (Nat × Nat × (Nat → Nat))
def zB : Nat := 4294967296
def zB2 : Nat := 8589934592
def zU : Nat := 1099511627776
def zop (w : Nat) : Nat := w % 256
def zln (w : Nat) : Nat := (w >>> 8) % 256
def za (w : Nat) : Nat := (w >>> 16) % 4294967296
def zb (w : Nat) : Nat := (w >>> 48) % 65536
def zc (w : Nat) : Nat := (w >>> 64) % 65536
def zd (w : Nat) : Nat := (w >>> 80) % 65536
def zI (i pc : Nat) : Nat := ((zTab.getD i 0) >>> (96 * pc)) % 79228162514264337593543950336
def zMtf (i k : Nat) : Nat := (zMt.getD i []).getD k 0
def zMaxL (i : Nat) : Nat := zMtf i 1
def zRet (i : Nat) : Nat := zMtf i 2
def zNf (i : Nat) : Nat := zMtf i 3
def zNl (i : Nat) : Nat := zMtf i 4
/-- a method's bytes: as the tables' word of the method has them (65: the law's entry) -/
def zCode (i : Nat) : ByteArray := if i = 65 then code else match lw_tbl[zMtf i 5]? with
  | some (.code _ b _ _) => b
  | _ => cX0_init
def zY (i : Nat) : MethodName := zYs.getD i yX0_init
def zRt (i : Nat) : Option FieldType := match zRet i with
  | 0 => none
  | 1 => some .int
  | _ => some .boolean
def zTy (ci k : Nat) : FieldType := match ci with
  | 0 => tyX0 k
  | 1 => tyX1 k
  | 2 => tyX2 k
  | 3 => tyX3 k
  | 4 => tyX4 k
  | 5 => tyX5 k
  | _ => tyX6 k
def zTT (ci : Nat) : u_T := match ci with
  | 0 => TX0
  | 1 => TX1
  | 2 => TX2
  | 3 => TX3
  | 4 => TX4
  | 5 => TX5
  | _ => TX6
def zCn (ci : Nat) : String := match ci with
  | 0 => RX0
  | 1 => RX1
  | 2 => RX2
  | 3 => RX3
  | 4 => RX4
  | 5 => RX5
  | _ => RL
def zNF (ci : Nat) : Nat := match ci with
  | 0 => 8
  | 1 => 11
  | 2 => 5
  | 3 => 7
  | 4 => 2
  | 5 => 7
  | _ => 0
def zTag (t : FieldType) : Nat := match t with
  | .int => 0
  | .boolean => 1
  | _ => 2
def zDf (ci k : Nat) : Nat := if zTag (zTy ci k) = 2 then 4294967296 else 0
/-- what may be stored in a field -/
def zOkV (tag v : Nat) : Bool := match tag with
  | 0 => decide (v < 4294967296)
  | 1 => decide (v < 2)
  | _ => decide (4294967296 ≤ v) && decide (v < 1099511627776)
def zs (c : Nat) : Nat := if c < 2147483648 then c + 2147483648 else c - 2147483648
def zlt (a b : Nat) : Bool := decide (zs a < zs b)
def zCmp (k a b : Nat) : Bool := match k with
  | 0 => decide (a = b)
  | 1 => !decide (a = b)
  | 2 => zlt a b
  | 3 => !zlt a b
  | 4 => zlt b a
  | _ => !zlt b a
/-- an arithmetic shift to the right, through the machine's ints -/
def zShr (a b : Nat) : Nat := (nI a >>> (nI b &&& 31)).toBitVec.toNat
def zUp (f : Nat → Nat) (k v : Nat) : Nat → Nat := fun j => if j = k then v else f j
def zCpy (f g : Nat → Nat) (sp dp n : Nat) : Nat → Nat := fun k => if dp ≤ k ∧ k < dp + n then f (sp + (k - dp)) else g k
/-- the static arrays' contents -/
def zCT (j : Nat) : List Nat := match j with
  | 0 => [2, 6, 2, 8, 0]
  | 1 => [1, 1, 1, 1, 0]
  | _ => [20, 50, 64, 64, 99]
def zSn (j : Nat) : String := match j with
  | 0 => "FIRST_SETTING"
  | 1 => "LOWEST_SETTING"
  | _ => "HIGHEST_SETTING"
def zAt (m : zM) (r : Nat) : Option (Nat × Nat × (Nat → Nat)) := if 4294967296 < r ∧ r < 8589934592 then m[r - 4294967297]? else none
/-- the class of the cells that an array of references of a kind holds -/
def zEl (kd : Nat) : Nat := match kd with
  | 9 => 0
  | 10 => 2
  | _ => 1
def zSwt (x : Nat) (t : List (Nat × Nat)) (d : Nat) : Nat := match t with
  | [] => d
  | q :: t => if x = q.1 then q.2 else zSwt x t d
/-- a new array, a new object -/
def zNw (kd n d : Nat) : Nat × Nat × (Nat → Nat) := (kd, n, fun _ => d)
def zNo (ci : Nat) : Nat × Nat × (Nat → Nat) := (ci, zNF ci, zDf ci)
abbrev zR : Type := (Nat × List Nat × List Nat × zM) ⊕ Nat
def zNx (pc : Nat) (ls st : List Nat) (m : zM) : Option zR := some (.inl (pc, ls, st, m))
def zOne (sc : List Nat) (i w pc : Nat) (ls st : List Nat) (m : zM) : Option zR :=
  if zop w = 1 then zNx (pc + zln w) ls (za w :: st) m
  else if zop w = 2 then (match ls[za w]? with
    | some c => if c < 4294967296 then zNx (pc + zln w) ls (c :: st) m else none
    | none => none)
  else if zop w = 3 then (match ls[za w]? with
    | some c => if 4294967296 < c ∧ c < 1099511627776 then zNx (pc + zln w) ls (c :: st) m else none
    | none => none)
  else if zop w = 4 then (match st with
    | c :: st => if c < 4294967296 ∧ za w < ls.length then zNx (pc + zln w) (ls.set (za w) c) st m else none
    | _ => none)
  else if zop w = 5 then (match st with
    | c :: st => if (4294967296 < c ∧ c < 1099511627776) ∧ za w < ls.length then zNx (pc + zln w) (ls.set (za w) c) st m else none
    | _ => none)
  else if zop w = 6 then (match ls[zb w]? with
    | some c => if c < 4294967296 then zNx (pc + 3) (ls.set (zb w) ((c + za w) % 4294967296)) st m else none
    | none => none)
  else if zop w = 7 then (match st with
    | b :: a :: st => if a < 4294967296 ∧ b < 4294967296 then zNx (pc + 1) ls ((a + b) % 4294967296 :: st) m else none
    | _ => none)
  else if zop w = 8 then (match st with
    | b :: a :: st => if a < 4294967296 ∧ b < 4294967296 then zNx (pc + 1) ls ((a + 4294967296 - b) % 4294967296 :: st) m else none
    | _ => none)
  else if zop w = 9 then (match st with
    | b :: a :: st => if a < 4294967296 ∧ b < 4294967296 then zNx (pc + 1) ls ((a * b) % 4294967296 :: st) m else none
    | _ => none)
  else if zop w = 10 then (match st with
    | b :: a :: st => if a < 2147483648 ∧ 0 < b ∧ b < 2147483648 then zNx (pc + 1) ls (a / b :: st) m else none
    | _ => none)
  else if zop w = 11 then (match st with
    | b :: a :: st => if a < 2147483648 ∧ 0 < b ∧ b < 2147483648 then zNx (pc + 1) ls (a % b :: st) m else none
    | _ => none)
  else if zop w = 12 then (match st with
    | b :: a :: st => if a < 4294967296 ∧ b < 4294967296 then zNx (pc + 1) ls ((a &&& b) :: st) m else none
    | _ => none)
  else if zop w = 47 then (match st with
    | b :: a :: st => if a < 4294967296 ∧ b < 4294967296 then zNx (pc + 1) ls (zShr a b :: st) m else none
    | _ => none)
  else if zop w = 13 then (match st with
    | a :: st => if a < 4294967296 then zNx (pc + 1) ls (a % 65536 :: st) m else none
    | _ => none)
  else if zop w = 14 then (match st with
    | a :: st => if a < 1099511627776 then zNx (pc + 1) ls (a :: a :: st) m else none
    | _ => none)
  else if zop w = 15 then (match st with
    | a :: st => if a < 1099511627776 then zNx (pc + 1) ls st m else none
    | _ => none)
  else if zop w = 16 then (match st with
    | b :: a :: st => if a < 1099511627776 ∧ b < 1099511627776 then zNx (pc + 1) ls (b :: a :: b :: a :: st) m else none
    | _ => none)
  else if zop w = 17 then (match st with
    | a :: st => if a < 4294967296 then zNx (if zCmp (zb w) a 0 then za w else pc + 3) ls st m else none
    | _ => none)
  else if zop w = 18 then (match st with
    | b :: a :: st => if a < 4294967296 ∧ b < 4294967296 then zNx (if zCmp (zb w) a b then za w else pc + 3) ls st m else none
    | _ => none)
  else if zop w = 19 then zNx (za w) ls st m
  else if zop w = 20 ∨ zop w = 21 then (match st with
    | a :: st => if a < 4294967296 then zNx (zSwt a (zSw.getD (za w) (0, [], 0)).2.1 (zSw.getD (za w) (0, [], 0)).2.2) ls st m else none
    | _ => none)
  else if zop w = 22 then (match st with
    | r :: st => (match zAt m r with
      | some (kd, n, f) => if kd = zb w ∧ zc w < n then zNx (pc + 3) ls (f (zc w) :: st) m else none
      | none => none)
    | _ => none)
  else if zop w = 23 ∨ zop w = 24 then (match st with
    | v :: r :: st => (match zAt m r with
      | some (kd, n, f) => if (kd = zb w ∧ zc w < n) ∧ zOkV (zTag (zTy (zb w) (zc w))) v = true then zNx (pc + 3) ls st (m.set (r - 4294967297) (kd, n, zUp f (zc w) v)) else none
      | none => none)
    | _ => none)
  else if zop w = 25 then zNx (pc + 3) ls ((8589934592 + zb w) :: st) m
  else if zop w = 26 then (match st with
    | j :: r :: st => if 8589934592 ≤ r then (if j < 5 ∧ r < 8589934595 then zNx (pc + 1) ls ((zCT (r - 8589934592)).getD j 0 :: st) m
        else if (r = 8589934595 ∧ j < sc.length ∧ sc.length < 2147483648) ∧ sc.getD j 0 < 4294967296 then zNx (pc + 1) ls (sc.getD j 0 :: st) m else none)
      else (match zAt m r with
      | some (kd, n, f) => if (kd = 7 ∧ j < n ∧ n < 2147483648) ∧ f j < 4294967296 then zNx (pc + 1) ls (f j :: st) m else none
      | none => none)
    | _ => none)
  else if zop w = 27 then (match st with
    | v :: j :: r :: st => (match zAt m r with
      | some (kd, n, f) => if (kd = 7 ∧ j < n ∧ n < 2147483648) ∧ v < 4294967296 then zNx (pc + 1) ls st (m.set (r - 4294967297) (kd, n, zUp f j v)) else none
      | none => none)
    | _ => none)
  else if zop w = 28 then (match st with
    | j :: r :: st => (match zAt m r with
      | some (kd, n, f) => if (kd = 8 ∧ j < n ∧ n < 2147483648) ∧ f j < 4294967296 then zNx (pc + 1) ls (f j :: st) m else none
      | none => none)
    | _ => none)
  else if zop w = 29 then (match st with
    | v :: j :: r :: st => (match zAt m r with
      | some (kd, n, f) => if (kd = 8 ∧ j < n ∧ n < 2147483648) ∧ v < 65536 then zNx (pc + 1) ls st (m.set (r - 4294967297) (kd, n, zUp f j v)) else none
      | none => none)
    | _ => none)
  else if zop w = 30 then (match st with
    | j :: r :: st => (match zAt m r with
      | some (kd, n, f) => if 9 ≤ kd ∧ kd ≤ 11 ∧ j < n ∧ n < 2147483648 then zNx (pc + 1) ls (f j :: st) m else none
      | none => none)
    | _ => none)
  else if zop w = 31 then (match st with
    | v :: j :: r :: st => (match zAt m r, zAt m v with
      | some (kd, n, f), some (kv, _, _) => if (9 ≤ kd ∧ kd ≤ 11 ∧ j < n ∧ n < 2147483648) ∧ kv = zEl kd then zNx (pc + 1) ls st (m.set (r - 4294967297) (kd, n, zUp f j v)) else none
      | _, _ => none)
    | _ => none)
  else if zop w = 32 then (match st with
    | r :: st => if r = 8589934595 then (if sc.length < 2147483648 then zNx (pc + 1) ls (sc.length :: st) m else none) else (match zAt m r with
      | some (kd, n, _) => if 7 ≤ kd ∧ kd ≤ 11 ∧ n < 2147483648 then zNx (pc + 1) ls (n :: st) m else none
      | none => none)
    | _ => none)
  else if zop w = 33 ∨ zop w = 34 then (match st with
    | n :: st => if n ≤ 4000 ∧ m.length < 100000 then zNx (pc + zln w) ls ((4294967297 + m.length) :: st) (m ++ [zNw (zb w) n (if zop w = 33 then 0 else 4294967296)]) else none
    | _ => none)
  else if zop w = 35 then (if m.length < 100000 then zNx (pc + 3) ls ((4294967297 + m.length) :: st) (m ++ [zNo (zb w)]) else none)
  else if zop w = 36 then (match st with
    | r :: st => if (4294967296 < r ∧ r < 1099511627776) ∧ st.length ≤ 8 then zNx (pc + 3) ls st m else none
    | _ => none)
  else if zop w = 42 then (match st with
    | b :: a :: st => if (a < 4294967296 ∧ b < 4294967296) ∧ st.length ≤ 8 then zNx (pc + 3) ls ((if zlt b a then b else a) :: st) m else none
    | _ => none)
  else if zop w = 43 then (match st with
    | b :: a :: st => if (a < 4294967296 ∧ b < 4294967296) ∧ st.length ≤ 8 then zNx (pc + 3) ls ((if zlt a b then b else a) :: st) m else none
    | _ => none)
  else if zop w = 44 then (match st with
    | n :: dp :: rd :: sp :: rs :: st => (match zAt m rs, zAt m rd with
      | some (k0, n0, f), some (k1, n1, g) => if (k0 = 7 ∧ k1 = 7 ∧ sp + n ≤ n0 ∧ dp + n ≤ n1) ∧ n0 < 2147483648 ∧ n1 < 2147483648 ∧ st.length ≤ 8 then zNx (pc + 3) ls st (m.set (rd - 4294967297) (k1, n1, zCpy f g sp dp n)) else none
      | _, _ => none)
    | _ => none)
  else if zop w = 45 then (match st with
    | [v] => if v < 4294967296 ∧ (zRet i = 1 ∨ (zRet i = 2 ∧ v < 2)) then some (.inr v) else none
    | _ => none)
  else if zop w = 46 then (match st with
    | [] => if zRet i = 0 then some (.inr 0) else none
    | _ => none)
  else none
/-- whether an instruction is a call of one of our methods -/
def zIsC (w : Nat) : Bool := decide (37 ≤ zop w) && decide (zop w ≤ 41)
/-- whether the receiver fits -/
def zRcv (w : Nat) (st : List Nat) (m : zM) : Bool :=
  if zop w = 37 then (match st[zb w - 1]? with
    | some r => (match zAt m r with
      | some (kd, _, _) => decide (kd = zMtf (za w) 0) && decide (0 < zb w)
      | none => false)
    | none => false)
  else if zop w = 39 ∨ zop w = 41 then (match st[zb w - 1]? with
    | some r => decide (4294967296 < r ∧ r < 1099511627776) && decide (0 < zb w)
    | none => false)
  else true
/-- a method's locals at its start, of what lies on the caller's stack -/
def zEn (a nb : Nat) (st : List Nat) : List Nat := (st.take nb).reverse ++ List.replicate (zMaxL a - nb) 1099511627776
def zCOk (w : Nat) (st : List Nat) (m : zM) : Bool := (decide (zb w ≤ st.length) && decide (st.length ≤ zb w + 8)) && (zRcv w st m && ((st.take (zb w)).all (fun c => decide (c < 1099511627776)) && decide (zb w ≤ zMaxL (za w))))
def zGo (sc : List Nat) : Nat → Nat → Nat → List Nat → List Nat → zM → Option (Nat × zM)
  | 0, _, _, _, _, _ => none
  | n + 1, i, pc, ls, st, m =>
    if zIsC (zI i pc) = true then
      (if zCOk (zI i pc) st m = true then
        (match zGo sc n (za (zI i pc)) 0 (zEn (za (zI i pc)) (zb (zI i pc)) st) [] m with
        | some (v, m') => zGo sc n i (pc + 3) ls (if zRet (za (zI i pc)) = 0 then st.drop (zb (zI i pc)) else v :: st.drop (zb (zI i pc))) m'
        | none => none)
      else none)
    else (match zOne sc i (zI i pc) pc ls st m with
      | some (.inl (pc', ls', st', m')) => zGo sc n i pc' ls' st' m'
      | some (.inr v) => some (v, m)
      | none => none)
/-- a memory's elements together -/
def zSl (m : zM) : Nat := (m.map (fun x => x.2.1)).sum
