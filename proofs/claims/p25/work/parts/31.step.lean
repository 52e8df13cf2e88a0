/-! ===== the world that the interpreter speaks of: regions (kind, length, what each slot holds, by stretches with a period), cells' regions, single cells, the script's length ===== -/
def eRTg (r : Nat) : Nat × Nat × List (Nat × Nat × List eE) := eRT.getD r (99, 0, [])
def eKd (r : Nat) : Nat := (eRTg r).1
def eLen (r : Nat) : Nat := (eRTg r).2.1
def eSeg : List (Nat × Nat × List eE) → Nat → eE
  | [], _ => eAny
  | (n, per, tys) :: t, j => bif Nat.blt j n then tys.getD (j % per) eAny else eSeg t (j - n)
def eTy (r j : Nat) : eE := eSeg (eRTg r).2.2 j
def eSing (r : Nat) : Bool := Nat.blt 0 (eSg.getD r 0)
def eFind (o k1 k2 k3 : Nat) : List eF → Option eE
  | [] => none
  | (o2, _, a, b, c, e) :: t => bif (Nat.beq o o2 && Nat.beq k2 b) && (Nat.beq k1 a && Nat.beq k3 c) then some e else eFind o k1 k2 k3 t
/-- a slot is read: what it holds, a name for it, the facts -/
def eLd2 (o r k1 k2 k3 : Nat) (ty : eE) (fs : List eF) (nx : Nat) : Option (eE × List eF × Nat) :=
  bif Nat.beq ty.1 3 then none
  else bif Nat.beq ty.1 1 && eSing ty.2.1 then some (eWith ty (ty.2.1 + 1) 0, fs, nx)
  else some (eWith ty nx 0, bif Nat.beq o 0 then fs else (o, r, k1, k2, k3, eWith ty nx 0) :: fs, nx + 1)
def eLd (o r k1 k2 k3 : Nat) (ty : eE) (fs : List eF) (nx : Nat) : Option (eE × List eF × Nat) :=
  match (bif Nat.beq o 0 then none else eFind o k1 k2 k3 fs) with
  | some e => bif Nat.beq (eId e) 0 && (Nat.beq e.1 0 && !Nat.beq (eLo e) (eHi e)) then some (eWith e nx 0, (o, r, k1, k2, k3, eWith e nx 0) :: fs, nx + 1) else some (e, fs, nx)
  | none => eLd2 o r k1 k2 k3 ty fs nx
def eKeep (r lo hi : Nat) : eF → Bool
  | (_, r2, k1, k2, _) => !Nat.beq r r2 || (Nat.beq k1 0 && (Nat.blt k2 lo || Nat.blt hi k2))
def eKill (r lo hi : Nat) (fs : List eF) : List eF := fs.filter (eKeep r lo hi)
def eInW (W : List (Nat × Nat × Nat)) (r lo hi : Nat) : Bool := W.any (fun q => Nat.beq q.1 r && (Nat.ble q.2.1 lo && Nat.ble hi q.2.2))
/-- all slots of an index entry -/
def eAllIx (f : Nat → Bool) : Nat → Nat → Nat → Bool
  | 0, _, _ => true
  | n + 1, x, st => f x && eAllIx f n (x + st) st
def eCount : eE → Nat
  | (_, lo, hi, st, _) => bif Nat.beq lo hi then 1 else (hi - lo) / st + 1
def eJoin : eE → eE → eE
  | (t, lo, hi, st, _), (u, lo2, hi2, st2, _) => bif Nat.beq t 0 && Nat.beq u 0 then eNorm (min lo lo2) (max hi hi2) (Nat.gcd (Nat.gcd st st2) (max lo lo2 - min lo lo2)) else bif (Nat.beq t u && Nat.beq lo lo2) && (Nat.beq hi hi2 && Nat.beq st st2) then (t, lo, hi, st, 0, 0) else eAny
def eJoinIx (r : Nat) : Nat → Nat → Nat → eE → eE
  | 0, _, _, e => e
  | n + 1, x, st, e => eJoinIx r n (x + st) st (eJoin e (eTy r (x - 2147483648)))
/-- what the slots of an index entry hold together -/
def eTyIx (r : Nat) : eE → eE
  | (t, lo, hi, st, id, off) => eJoinIx r (eCount (t, lo, hi, st, id, off) - 1) (lo + st) st (eTy r (lo - 2147483648))
def eKey1 : eE → Nat
  | (t, lo, hi, _) => bif Nat.beq t 0 && Nat.beq lo hi then 0 else 1
def eKey2 : eE → Nat
  | (t, lo, hi, _, id, _) => bif Nat.beq t 0 && Nat.beq lo hi then lo - 2147483648 else id
def eKey3 : eE → Nat
  | (t, lo, hi, _, _, off) => bif Nat.beq t 0 && Nat.beq lo hi then 0 else off
/-- an object's name for a slot that an index entry tells: 0 if the index has no name -/
def eObj (o : Nat) (x : eE) : Nat := bif eHasNm x then o else 0
abbrev eR : Type := Option (Nat × List eS)
def eMk (fr : List eFr) (i pc : Nat) (ls st : List eE) (fs : List eF) (nx : Nat) : eR := some (0, [(fr, i, pc, ls, st, fs, nx)])
def eName (e : eE) (nx : Nat) : eE := bif Nat.beq (eId e) 0 then eWith e nx 0 else e
section EO
variable (W : List (Nat × Nat × Nat)) (fr : List eFr) (i pc : Nat) (ls st : List eE) (fs : List eF) (nx : Nat)
def eoLoad (ref : Bool) (a ln : Nat) : eR :=
  match ls[a]? with
  | some e => bif (bif ref then Nat.beq e.1 1 || Nat.beq e.1 2 else eInt e) then eMk fr i (pc + ln) ls (e :: st) fs nx else none
  | none => none
def eoStore (ref : Bool) (a ln : Nat) : eR :=
  match st with
  | e :: st => bif (bif ref then Nat.beq e.1 1 || Nat.beq e.1 2 else eInt e) && Nat.blt a ls.length then eMk fr i (pc + ln) (ls.set a (eName e nx)) st fs (nx + 1) else none
  | [] => none
def eoInc (a b : Nat) : eR :=
  match ls[b]? with
  | some e => bif eInt e then eMk fr i (pc + 3) (ls.set b (bif Nat.beq (eId e) 0 then eWith (eAdd (eCnt e) (eCon a)) nx 0 else eWith (eAdd (eCnt e) (eCon a)) (eId e) ((eOff e + a) % 4294967296))) st fs (nx + 1) else none
  | none => none
def eMemo (op : Nat) (x y n : eE) (st : List eE) : eR :=
  bif (eHasNm x && eHasNm y) && !(eSin x && eSin y) then
    (match eFind 9700 op (eNm x) (eNm y) fs with
    | some e => eMk fr i (pc + 1) ls (e :: st) fs nx
    | none => eMk fr i (pc + 1) ls (eWith n nx 0 :: st) ((9700, 9996, op, eNm x, eNm y, eWith n nx 0) :: fs) (nx + 1))
  else eMk fr i (pc + 1) ls (n :: st) fs nx
def eoAdd : eR :=
  match st with
  | y :: x :: st => bif eInt x && eInt y then
      (bif (Nat.beq x.1 5 && eSin y) && (Nat.ble 2147483648 (eLo y) && Nat.blt (eHi x + eLo y) 6442450944) then eMk fr i (pc + 1) ls ((5, eLo x + eLo y - 2147483648, eHi x + eLo y - 2147483648, x.2.2.2.1 + (eLo y - 2147483648), 0, 0) :: st) fs nx
      else bif eSin y && Nat.blt 0 (eId x) then eMk fr i (pc + 1) ls (eWith (eAdd (eCnt x) y) (eId x) ((eOff x + zs (eLo y)) % 4294967296) :: st) fs nx
      else bif eSin x && Nat.blt 0 (eId y) then eMk fr i (pc + 1) ls (eWith (eAdd x (eCnt y)) (eId y) ((eOff y + zs (eLo x)) % 4294967296) :: st) fs nx
      else eMemo fr i pc ls fs nx 7 (eCnt x) (eCnt y) (eAdd (eCnt x) (eCnt y)) st)
    else none
  | _ => none
def eoSub : eR :=
  match st with
  | y :: x :: st => bif eInt x && eInt y then
      (bif eSin y && Nat.blt 0 (eId x) then eMk fr i (pc + 1) ls (eWith (eDif (eCnt x) y) (eId x) ((eOff x + (4294967296 - zs (eLo y))) % 4294967296) :: st) fs nx
      else eMk fr i (pc + 1) ls (eDif (eCnt x) (eCnt y) :: st) fs nx)
    else none
  | _ => none
def eoMul : eR :=
  match st with
  | y :: x :: st => bif eInt x && eInt y then eMemo fr i pc ls fs nx 9 (eCnt x) (eCnt y) (eMul (eCnt x) (eCnt y)) st else none
  | _ => none
def eoDiv (rem : Bool) : eR :=
  match st with
  | y :: x :: st => bif (eInt x && eSin y) && (Nat.ble 2147483648 (eLo x) && Nat.blt 2147483648 (eLo y)) then
      eMk fr i (pc + 1) ls ((bif rem then (bif Nat.blt (eHi x - 2147483648) (eLo y - 2147483648) then eNorm (eLo x) (eHi x) (eCnt x).2.2.2.1 else eNorm 2147483648 (2147483648 + min (eLo y - 2147483648 - 1) (eHi x - 2147483648)) 1) else eNorm ((eLo x - 2147483648) / (eLo y - 2147483648) + 2147483648) ((eHi x - 2147483648) / (eLo y - 2147483648) + 2147483648) 1) :: st) fs nx
    else none
  | _ => none
def eoAnd : eR :=
  match st with
  | y :: x :: st => bif (eInt x && eSin y) && Nat.ble 2147483648 (eLo y) then eMk fr i (pc + 1) ls (eNorm 2147483648 (eLo y) 1 :: st) fs nx else none
  | _ => none
def eoI2c : eR :=
  match st with
  | x :: st => bif eInt x then eMk fr i (pc + 1) ls ((bif Nat.ble 2147483648 (eLo x) && Nat.blt (eHi x) 2147549184 then x else (0, 2147483648, 2147549183, 1, 0, 0)) :: st) fs nx else none
  | _ => none
def eoDup : eR :=
  match st with
  | x :: st => bif Nat.beq x.1 3 then none else eMk fr i (pc + 1) ls (x :: x :: st) fs nx
  | _ => none
def eoPop : eR :=
  match st with
  | x :: st => bif Nat.beq x.1 3 then none else eMk fr i (pc + 1) ls st fs nx
  | _ => none
def eoDup2 : eR :=
  match st with
  | y :: x :: st => bif Nat.beq x.1 3 || Nat.beq y.1 3 then none else eMk fr i (pc + 1) ls (y :: x :: y :: x :: st) fs nx
  | _ => none
/-- the script's limit, told by 'x at most its length less a number' -/
def eLim (k : Nat) (x y : eE) (fs : List eF) : List eF :=
  bif (Nat.beq k 5 && Nat.beq (eId y) 9500) && ((Nat.blt 0 (eId x) && Nat.beq (eOff x) 0) && (Nat.ble 2147483648 (eLo x) && (Nat.ble 2147483648 (eOff y) && Nat.blt (eOff y) 4294967296))) then (9500, 9999, 2, eId x, 4294967296 - eOff y, eAny) :: fs else fs
def eBr (k tgt : Nat) (x y : eE) (st : List eE) : List eS :=
  match eCmp k x y with
  | some (x2, y2) => [eRefine y y2 (eRefine x x2 (fr, i, tgt, ls, st, eLim k x y fs, nx))]
  | none => []
def eInv : Nat → Nat
  | 0 => 1
  | 1 => 0
  | 2 => 3
  | 3 => 2
  | 4 => 5
  | _ => 4
def eoIf (k a : Nat) : eR :=
  match st with
  | x :: st => bif eInt x && Nat.blt k 6 then some (0, eBr fr i ls fs nx k a (eCnt x) (eNat 0) st ++ eBr fr i ls fs nx (eInv k) (pc + 3) (eCnt x) (eNat 0) st) else none
  | _ => none
def eoCmp (k a : Nat) : eR :=
  match st with
  | y :: x :: st => bif (eInt x && eInt y) && Nat.blt k 6 then some (0, eBr fr i ls fs nx k a (eCnt x) (eCnt y) st ++ eBr fr i ls fs nx (eInv k) (pc + 3) (eCnt x) (eCnt y) st) else none
  | _ => none
def eSwi (x : eE) (st : List eE) : List (Nat × Nat) → eE → Nat → List eS
  | [], _, d => eBr fr i ls fs nx 0 d x x st
  | (k, t) :: tb, r, d => eBr fr i ls fs nx 0 t x (eCon k) st ++ bif eSin x && Nat.beq (eLo x) (zs k) then [] else eSwi x st tb r d
def eoSwitch (a : Nat) : eR :=
  match st with
  | x :: st => bif eInt x && (zSw.getD a (0, [], 0)).2.1.all (fun q => Nat.blt q.1 4294967296) then some (0, eSwi fr i ls fs nx (eCnt x) st (zSw.getD a (0, [], 0)).2.1 (eCnt x) (zSw.getD a (0, [], 0)).2.2) else none
  | _ => none
def eoGet (b c : Nat) : eR :=
  match st with
  | e :: st => bif Nat.beq e.1 1 && (Nat.beq (eKd e.2.1) b && Nat.blt c (eLen e.2.1)) then
      (match eLd (eId e) e.2.1 0 c 0 (eTy e.2.1 c) fs nx with
      | some (v, fs2, nx2) => eMk fr i (pc + 3) ls (v :: st) fs2 nx2
      | none => none)
    else none
  | _ => none
/-- the cost of a value that comes into a slot, if it may -/
def ePut (v ty : eE) : Option Nat :=
  bif Nat.beq ty.1 5 then (bif (Nat.beq v.1 5 && Nat.ble 2147483648 (eLo v)) && (Nat.ble ty.2.1 2147483648 && Nat.ble 3221225472 ty.2.2.1) then some v.2.2.2.1 else none)
  else bif eSub v ty && !Nat.beq ty.1 3 then some 0 else none
def ePutF (o r k1 k2 k3 : Nat) (v ty : eE) (fs : List eF) (nx : Nat) : List eF :=
  bif Nat.beq o 0 then fs else (o, r, k1, k2, k3, eName (bif Nat.beq ty.1 5 then (v.1, v.2.1, v.2.2.1, 0, v.2.2.2.2) else v) nx) :: fs
def eoPut (b c : Nat) : eR :=
  match st with
  | v :: e :: st => bif Nat.beq e.1 1 && (Nat.beq (eKd e.2.1) b && (Nat.blt c (eLen e.2.1) && (eInW W e.2.1 c c && Nat.blt b 7))) then
      (match ePut v (eTy e.2.1 c) with
      | some k => some (k, [(fr, i, pc + 3, ls, st, ePutF (eId e) e.2.1 0 c 0 v (eTy e.2.1 c) (eKill e.2.1 c c fs) nx, nx + 1)])
      | none => none)
    else none
  | _ => none
def eIxOk (r : Nat) (x : eE) : Bool := eInt x && (Nat.ble 2147483648 (eLo x) && Nat.blt (eHi x) (2147483648 + eLen r))
def eScOk (x : eE) (fs : List eF) : Bool :=
  (eSin x && fs.any (fun f => Nat.beq f.2.2.1 2 && (Nat.beq f.2.2.2.1 0 && Nat.blt (eLo x - 2147483648) f.2.2.2.2.1))) || fs.any (fun f => Nat.beq f.2.2.1 2 && (Nat.beq f.2.2.2.1 (eId x) && (Nat.blt 0 (eId x) && Nat.blt (eOff x) f.2.2.2.2.1)))
def eCTj (j a n : Nat) : eE := match ((zCT j).drop a).take n with
  | [] => eTop
  | a :: t => eNorm (2147483648 + t.foldl min a) (2147483648 + t.foldl max a) 1
def eoAld (kd : Nat) : eR :=
  match st with
  | x :: e :: st =>
    bif Nat.beq e.1 2 && Nat.beq kd 7 then
      (bif Nat.beq e.2.1 3 then
        (bif (eInt x && Nat.ble 2147483648 (eLo x)) && eScOk x fs then
          (match eLd (eObj 9003 x) 9998 (eKey1 x) (eKey2 x) (eKey3 x) eTop fs nx with
          | some (v, fs2, nx2) => eMk fr i (pc + 1) ls (v :: st) fs2 nx2
          | none => none)
        else none)
      else (bif eInt x && (Nat.ble 2147483648 (eLo x) && Nat.blt (eHi x) 2147483653) then eMk fr i (pc + 1) ls (eCTj e.2.1 (eLo x - 2147483648) (eHi x - eLo x + 1) :: st) fs nx else none))
    else bif (Nat.beq e.1 1 && (Nat.beq (eKd e.2.1) kd || (Nat.beq kd 9 && (Nat.ble 9 (eKd e.2.1) && Nat.ble (eKd e.2.1) 11)))) && (eIxOk e.2.1 x && Nat.beq x.1 0) then
      (match eLd (eObj (eId e) x) e.2.1 (eKey1 x) (eKey2 x) (eKey3 x) (eTyIx e.2.1 x) fs nx with
      | some (v, fs2, nx2) => eMk fr i (pc + 1) ls (v :: st) fs2 nx2
      | none => none)
    else none
  | _ => none
def eoAst (kd : Nat) : eR :=
  match st with
  | v :: x :: e :: st =>
    bif ((Nat.beq e.1 1 && (Nat.beq (eKd e.2.1) kd || (Nat.beq kd 9 && (Nat.ble 9 (eKd e.2.1) && Nat.ble (eKd e.2.1) 11)))) && (eIxOk e.2.1 x && Nat.beq x.1 0)) && (eInW W e.2.1 (eLo x - 2147483648) (eHi x - 2147483648) && eAllIx (fun j => eSub v (eTy e.2.1 (j - 2147483648)) && Nat.ble (eTy e.2.1 (j - 2147483648)).1 1) (eCount x) (eLo x) x.2.2.2.1) then
      eMk fr i (pc + 1) ls st (ePutF (eObj (eId e) x) e.2.1 (eKey1 x) (eKey2 x) (eKey3 x) v eTop (eKill e.2.1 (eLo x - 2147483648) (eHi x - 2147483648) fs) nx) (nx + 1)
    else none
  | _ => none
def eoAlen : eR :=
  match st with
  | e :: st => bif Nat.beq e.1 2 then (bif Nat.beq e.2.1 3 then eMk fr i (pc + 1) ls ((0, 2147483648 + eN.1, 2147483648 + eN.2, bif Nat.beq eN.1 eN.2 then 0 else 1, 9500, 0) :: st) fs nx else none)
      else bif Nat.beq e.1 1 && Nat.ble 7 (eKd e.2.1) then eMk fr i (pc + 1) ls (eNat (eLen e.2.1) :: st) fs nx else none
  | _ => none
/-- min, max: the two cases apart -/
def eoMin (mx : Bool) : eR :=
  match st with
  | y :: x :: st => bif (eInt x && eInt y) && Nat.ble st.length 8 then
      some (0, (match eCmp 2 (bif mx then eCnt x else eCnt y) (bif mx then eCnt y else eCnt x) with
        | some (p, q) => [eRefine (bif mx then eCnt y else eCnt x) q (eRefine (bif mx then eCnt x else eCnt y) p (fr, i, pc + 3, ls, (bif mx then q else p) :: st, fs, nx))]
        | none => []) ++ (match eCmp 3 (bif mx then eCnt x else eCnt y) (bif mx then eCnt y else eCnt x) with
        | some (p, q) => [eRefine (bif mx then eCnt y else eCnt x) q (eRefine (bif mx then eCnt x else eCnt y) p (fr, i, pc + 3, ls, (bif mx then p else q) :: st, fs, nx))]
        | none => []))
    else none
  | _ => none
def eoCpy : eR :=
  match st with
  | n :: dp :: rd :: sp :: rs :: st =>
    bif ((eInt n && ((eInt dp && eInt sp) && Nat.ble st.length 8)) && (Nat.ble 2147483648 (eLo n) && (Nat.ble 2147483648 (eLo dp) && Nat.ble 2147483648 (eLo sp)))) && (((Nat.beq rs.1 1 && Nat.beq rd.1 1) && (Nat.beq (eKd rs.2.1) 7 && Nat.beq (eKd rd.2.1) 7)) && ((Nat.ble (eHi sp + eHi n) (4294967296 + eLen rs.2.1) && Nat.ble (eHi dp + eHi n) (4294967296 + eLen rd.2.1)) && (eInW W rd.2.1 0 (eLen rd.2.1 - 1) && ((List.range (eLen rd.2.1)).all (fun j => eSub eTop (eTy rd.2.1 j)) && (List.range (eLen rs.2.1)).all (fun j => Nat.beq (eTy rs.2.1 j).1 0))))) then
      eMk fr i (pc + 3) ls st (eKill rd.2.1 0 4294967296 fs) nx
    else none
  | _ => none
end EO
