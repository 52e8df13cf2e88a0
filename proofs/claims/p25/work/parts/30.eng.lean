/-! ===== THE ABSTRACT INTERPRETER over the pure machine. An entry (t, lo, hi, st, id, off): t = 0 an int whose code c has zs c within [lo, hi] on the grid lo + k * st; 1 a cell of the region lo; 2 the static array lo; 3 anything; 5 a counter: as 0, and at most st above the counters' bound. id, off: a name: the value is the name's value + off. ===== -/
abbrev eE : Type := Nat × Nat × Nat × Nat × Nat × Nat
/-- a fact (o, r, k1, k2, k3, e): of the object named o (of region r) the slot k2 (k1 = 0) or the slot that the name k2 + k3 tells (k1 = 1) holds e; k1 = 2: the name k2 + k3 is at most the script's length; k1 = 7, 9: the sum, the product of k2 and k3 is e -/
abbrev eF : Type := Nat × Nat × Nat × Nat × Nat × eE
abbrev eFr : Type := Nat × Nat × List eE × List eE
/-- frames, method, place, locals, stack, facts, the next name -/
abbrev eS : Type := List eFr × Nat × Nat × List eE × List eE × List eF × Nat
def eTop : eE := (0, 0, 4294967295, 1, 0, 0)
def eAny : eE := (3, 0, 0, 0, 0, 0)
def eNorm (lo hi st : Nat) : eE := (0, lo, hi, bif Nat.beq lo hi then 0 else st, 0, 0)
def eCon (a : Nat) : eE := (0, zs a, zs a, 0, 0, 0)
def eNat (n : Nat) : eE := (0, 2147483648 + n, 2147483648 + n, 0, 0, 0)
/-- as an int: t = 0 or 5 -/
def eInt : eE → Bool
  | (t, _) => Nat.beq t 0 || Nat.beq t 5
def eCnt : eE → eE
  | (t, lo, hi, st, id, off) => bif Nat.beq t 5 then (0, lo, hi, 1, id, off) else (t, lo, hi, st, id, off)
def eSub : eE → eE → Bool
  | (t, lo, hi, st, _), (u, lo2, hi2, st2, _) =>
    bif Nat.beq u 3 then true
    else bif Nat.beq u 5 then Nat.beq t 5 && (Nat.ble lo2 lo && (Nat.ble hi hi2 && Nat.ble st st2))
    else bif Nat.beq u 0 then (Nat.beq t 0 || Nat.beq t 5) && ((Nat.ble lo2 lo && Nat.ble hi hi2) && (Nat.beq st2 1 || (Nat.beq t 0 && (Nat.beq ((lo - lo2) % st2) 0 && (Nat.beq lo hi || Nat.beq (st % st2) 0)))))
    else Nat.beq t u && Nat.beq lo lo2
def eAdd : eE → eE → eE
  | (_, lx, hx, sx, _), (_, ly, hy, sy, _) => bif Nat.ble 2147483648 (lx + ly) && Nat.blt (hx + hy) 6442450944 then eNorm (lx + ly - 2147483648) (hx + hy - 2147483648) (Nat.gcd sx sy) else eTop
def eDif : eE → eE → eE
  | (_, lx, hx, sx, _), (_, ly, hy, _, _) => bif Nat.ble hy (lx + 2147483648) && Nat.blt (hx + 2147483648 - ly) 4294967296 then eNorm (lx + 2147483648 - hy) (hx + 2147483648 - ly) (bif Nat.beq ly hy then sx else 1) else eTop
def eMul : eE → eE → eE
  | (_, lx, hx, sx, _), (_, ly, hy, sy, _) => bif (Nat.ble 2147483648 lx && Nat.ble 2147483648 ly) && Nat.blt ((hx - 2147483648) * (hy - 2147483648)) 2147483648 then eNorm ((lx - 2147483648) * (ly - 2147483648) + 2147483648) ((hx - 2147483648) * (hy - 2147483648) + 2147483648) (bif Nat.beq ly hy then sx * (ly - 2147483648) else bif Nat.beq lx hx then sy * (lx - 2147483648) else 1) else eTop
def eSin : eE → Bool
  | (t, lo, hi, _) => Nat.beq t 0 && Nat.beq lo hi
/-- a value's name, packed: a constant by itself -/
def eNm : eE → Nat
  | (t, lo, hi, _, id, off) => bif Nat.beq t 0 && Nat.beq lo hi then lo else id * 4294967296 + off
def eHasNm : eE → Bool
  | (t, lo, hi, _, id, off) => (Nat.beq t 0 && Nat.beq lo hi) || (Nat.blt 0 id && Nat.blt off 4294967296)
def eWith : eE → Nat → Nat → eE
  | (t, lo, hi, st, _), id, off => (t, lo, hi, st, id, off)
def eId : eE → Nat
  | (_, _, _, _, id, _) => id
def eOff : eE → Nat
  | (_, _, _, _, _, off) => off
/-- an entry whose code is d more (below 2^31), or 2^32 - d less, than one within [lo, hi] -/
def eRef2 (d lo hi : Nat) : eE → eE
  | (t, l, h, s, i, o) =>
    bif Nat.blt d 2147483648 then
      (bif Nat.blt (hi + d) 4294967296 then (t, max l (lo + d), min h (hi + d), bif Nat.beq t 5 then s else 1, i, o) else (t, l, h, s, i, o))
    else (bif Nat.ble (4294967296 - d) lo && Nat.blt 2147483648 d then (t, max l (lo - (4294967296 - d)), min h (hi - (4294967296 - d)), bif Nat.beq t 5 then s else 1, i, o) else (t, l, h, s, i, o))
/-- what is known of all that bear a name's value: the value of (id, off) lies in [lo, hi] -/
def eRef1 (id off lo hi st : Nat) : eE → eE
  | (t, l, h, s, i, o) =>
    bif Nat.beq i id && (Nat.beq t 0 || Nat.beq t 5) then
      (bif Nat.beq o off then (t, lo, hi, bif Nat.beq t 5 then s else st, i, o)
       else eRef2 ((o + 4294967296 - off % 4294967296) % 4294967296) lo hi (t, l, h, s, i, o))
    else (t, l, h, s, i, o)
def eMapF (f : eE → eE) : eF → eF
  | (o, r, k1, k2, k3, e) => (o, r, k1, k2, k3, f e)
def eMapFr (f : eE → eE) : eFr → eFr
  | (i, pc, ls, st) => (i, pc, ls.map f, st.map f)
def eMapS (f : eE → eE) : eS → eS
  | (fr, i, pc, ls, st, fs, nx) => (fr.map (eMapFr f), i, pc, ls.map f, st.map f, fs.map (eMapF f), nx)
/-- refine by a new entry for e's value -/
def eRefine : eE → eE → eS → eS
  | (_, _, _, _, id, off), (_, lo, hi, st, _), s => bif Nat.beq id 0 then s else eMapS (eRef1 id off lo hi st) s
/-- e cut to [lo, hi] -/
def eCut : eE → Nat → Nat → eE
  | (_, l, h, st, id, off), lo, hi => (0, bif Nat.ble lo l then l else (bif Nat.ble st 1 then lo else l + (lo - l + st - 1) / st * st), bif Nat.ble h hi then h else (bif Nat.ble st 1 then hi else l + (hi - l) / st * st), st, id, off)
def eEmp : eE → Bool
  | (_, l, h, _) => Nat.blt h l
def eOne : eE → eE
  | (t, l, h, st, id, off) => (t, l, h, bif Nat.beq l h then 0 else st, id, off)
/-- e without the single value v (an end of it) -/
def eNe : eE → Nat → eE
  | (_, l, h, st, id, off), v => bif Nat.beq l v then eCut (0, l, h, st, id, off) (v + max st 1) 4294967296 else bif Nat.beq h v then eCut (0, l, h, st, id, off) 0 (v - 1) else (0, l, h, st, id, off)
def eLo : eE → Nat
  | (_, l, _) => l
def eHi : eE → Nat
  | (_, _, h, _) => h
/-- x and y behind a comparison that held; (none: it can't) -/
def eRel : Nat → eE → eE → Option (eE × eE)
  | 0, x, y => some (eOne (eCut x (eLo y) (eHi y)), eOne (eCut y (eLo x) (eHi x)))
  | 1, x, y => bif (eSin x && eSin y) && Nat.beq (eLo x) (eLo y) then none else some (eOne (bif eSin y then eNe x (eLo y) else x), eOne (bif eSin x then eNe y (eLo x) else y))
  | 2, x, y => bif Nat.beq (eHi y) 0 then none else some (eOne (eCut x 0 (eHi y - 1)), eOne (eCut y (eLo x + 1) 4294967296))
  | _, x, y => some (eOne (eCut x (eLo y) 4294967296), eOne (eCut y 0 (eHi x)))
def eSame : eE → eE → Bool
  | (_, _, _, _, id, off), (_, _, _, _, id2, off2) => Nat.blt 0 id && (Nat.beq id id2 && Nat.beq off off2)
def eOkP : Option (eE × eE) → Option (eE × eE)
  | some (x, y) => bif eEmp x || eEmp y then none else some (x, y)
  | none => none
def eSwp : Option (eE × eE) → Option (eE × eE)
  | some (x, y) => some (y, x)
  | none => none
/-- a comparison k that holds: what x and y are then -/
def eCmp (k : Nat) (x y : eE) : Option (eE × eE) :=
  bif eSame x y then (bif Nat.beq k 0 || (Nat.beq k 3 || Nat.beq k 5) then some (x, y) else none)
  else bif Nat.beq k 4 then eSwp (eOkP (eRel 2 y x)) else bif Nat.beq k 5 then eSwp (eOkP (eRel 3 y x)) else eOkP (eRel k x y)
