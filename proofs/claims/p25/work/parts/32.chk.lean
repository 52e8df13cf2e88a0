/-! ===== one instruction; a row of states matched with a wanted one; loop rows; the check ===== -/
def eDis1 (op a b c ln : Nat) (W : List (Nat × Nat × Nat)) (fr : List eFr) (i pc : Nat) (ls st : List eE) (fs : List eF) (nx : Nat) : eR :=
  bif Nat.ble op 6 then
    (bif Nat.ble op 3 then
      (bif Nat.beq op 1 then eMk fr i (pc + ln) ls (eCon a :: st) fs nx
       else bif Nat.beq op 2 then eoLoad fr i pc ls st fs nx false a ln
       else bif Nat.beq op 3 then eoLoad fr i pc ls st fs nx true a ln else none)
     else (bif Nat.beq op 4 then eoStore fr i pc ls st fs nx false a ln
       else bif Nat.beq op 5 then eoStore fr i pc ls st fs nx true a ln
       else eoInc fr i pc ls st fs nx a b))
  else bif Nat.ble op 11 then
    (bif Nat.beq op 7 then eoAdd fr i pc ls st fs nx
     else bif Nat.beq op 8 then eoSub fr i pc ls st fs nx
     else bif Nat.beq op 9 then eoMul fr i pc ls st fs nx
     else eoDiv fr i pc ls st fs nx (Nat.beq op 11))
  else (bif Nat.beq op 12 then eoAnd fr i pc ls st fs nx
     else bif Nat.beq op 13 then eoI2c fr i pc ls st fs nx
     else bif Nat.beq op 14 then eoDup fr i pc ls st fs nx
     else bif Nat.beq op 15 then eoPop fr i pc ls st fs nx
     else eoDup2 fr i pc ls st fs nx)
def eDis2 (op a b c ln : Nat) (W : List (Nat × Nat × Nat)) (fr : List eFr) (i pc : Nat) (ls st : List eE) (fs : List eF) (nx : Nat) : eR :=
  bif Nat.ble op 22 then
    (bif Nat.beq op 17 then eoIf fr i pc ls st fs nx b a
     else bif Nat.beq op 18 then eoCmp fr i pc ls st fs nx b a
     else bif Nat.beq op 19 then eMk fr i a ls st fs nx
     else bif Nat.beq op 22 then eoGet fr i pc ls st fs nx b c
     else eoSwitch fr i ls st fs nx a)
  else bif Nat.ble op 27 then
    (bif Nat.beq op 23 then eoPut W fr i pc ls st fs nx b c
     else bif Nat.beq op 25 then (bif Nat.ble b 3 then eMk fr i (pc + 3) ls ((2, b, 0, 0, 0, 0) :: st) fs nx else none)
     else bif Nat.beq op 26 then eoAld fr i pc ls st fs nx 7
     else bif Nat.beq op 27 then eoAst W fr i pc ls st fs nx 7 else none)
  else (bif Nat.beq op 28 then eoAld fr i pc ls st fs nx 8
     else bif Nat.beq op 29 then eoAst W fr i pc ls st fs nx 8
     else bif Nat.beq op 30 then eoAld fr i pc ls st fs nx 9
     else bif Nat.beq op 31 then eoAst W fr i pc ls st fs nx 9
     else bif Nat.beq op 32 then eoAlen fr i pc ls st fs nx
     else bif Nat.beq op 42 then eoMin fr i pc ls st fs nx false
     else bif Nat.beq op 43 then eoMin fr i pc ls st fs nx true
     else bif Nat.beq op 44 then eoCpy W fr i pc ls st fs nx else none)
def eStep (W : List (Nat × Nat × Nat)) (w : Nat) : eS → eR
  | (fr, i, pc, ls, st, fs, nx) => bif Nat.ble (zop w) 16 then eDis1 (zop w) (za w) (zb w) (zc w) (zln w) W fr i pc ls st fs nx else eDis2 (zop w) (za w) (zb w) (zc w) (zln w) W fr i pc ls st fs nx
/-! matching -/
def eVLoc (lb : Nat) : eS → Nat → Option eE
  | (fr, _, _, ls, _), x => bif Nat.blt (x - lb) 100 then ls[x - lb]? else (match fr[(x - lb) / 100 - 1]? with | some (_, _, l, _) => l[(x - lb) % 100]? | none => none)
/-- the name in S that stands for a name of the wanted state: (id, off); constants have none -/
def eTr (lb : Nat) (S : eS) (x : Nat) : Option (Nat × Nat) :=
  bif Nat.blt x lb then some (x, 0) else (match eVLoc lb S x with | some e => bif Nat.blt 0 (eId e) && (eInt e || Nat.beq (eOff e) 0) then some (eId e, eOff e) else none | none => none)
def eFs : eS → List eF
  | (_, _, _, _, _, fs, _) => fs
def eFindR (o r k1 k2 k3 : Nat) : List eF → Option eE
  | [] => none
  | (o2, r2, a, b, c, e) :: t => bif (Nat.beq o o2 && Nat.beq k2 b) && ((Nat.beq k1 a && Nat.beq k3 c) && Nat.beq r r2) then some e else eFindR o r k1 k2 k3 t
/-- a limit of the wanted state is one of S -/
def eLimV (lb : Nat) (S : eS) (k2 k3 : Nat) : Bool :=
  bif Nat.beq k2 0 then (eFs S).any (fun g => Nat.beq g.2.2.1 2 && (Nat.beq g.2.2.2.1 0 && Nat.ble k3 g.2.2.2.2.1))
  else (match eTr lb S k2 with
    | some (q, f) => (Nat.beq f 0 && Nat.blt 0 q) && (eFs S).any (fun g => Nat.beq g.2.2.1 2 && (Nat.beq g.2.2.2.1 q && Nat.ble k3 g.2.2.2.2.1))
    | none => false)
/-- what S holds where the wanted state has a fact -/
def eFV (lb : Nat) (S : eS) : eF → Option eE
  | (o, r, k1, k2, k3, _) => bif Nat.beq k1 2 then (bif Nat.beq r 9999 && eLimV lb S k2 k3 then some eAny else none) else (match eTr lb S o with
    | some (o2, f2) => bif Nat.beq f2 0 && (Nat.beq o 9003 || !Nat.beq o2 9003) then
        (bif Nat.beq k1 1 then (match eTr lb S k2 with | some (q, f) => eFindR o2 r 1 q ((f + k3) % 4294967296) (eFs S) | none => none)
         else bif Nat.beq k1 0 then eFindR o2 r 0 k2 k3 (eFs S) else none) else none
    | none => none)
def eValue (lb : Nat) (P S : eS) (x : Nat) : Option eE :=
  bif Nat.blt x (lb + 5000) then eVLoc lb S x else (match (eFs P)[x - lb - 5000]? with | some f => eFV lb S f | none => none)
def eSameV (a b : eE) : Bool := eSame a b || ((eSin a && eSin b) && Nat.beq (eLo a) (eLo b))
/-- an entry of S at a place (its own name there: own) fits the wanted one -/
def eFit (lb : Nat) (P S : eS) (own : Nat) (s p : eE) : Bool :=
  bif Nat.beq p.1 3 then Nat.beq (eId p) 0 else
  eSub s p && (bif Nat.beq (eId p) 0 then true
    else bif Nat.beq (eId p) own then Nat.beq (eOff p) 0
    else bif Nat.blt (eId p) lb then Nat.beq (eId s) (eId p) && Nat.beq (eOff s) (eOff p)
    else Nat.beq (eOff p) 0 && (match eValue lb P S (eId p) with | some v => eSameV s v | none => false))
def eFitL (lb : Nat) (P S : eS) : Nat → List eE → List eE → Bool
  | _, [], [] => true
  | own, s :: ss, p :: ps => eFit lb P S own s p && eFitL lb P S (own + 1) ss ps
  | _, _, _ => false
def eFitFr (lb : Nat) (P S : eS) : Nat → List eFr → List eFr → Bool
  | _, [], [] => true
  | own, (i, pc, ls, st) :: ss, (i2, pc2, ls2, st2) :: ps => (Nat.beq i i2 && Nat.beq pc pc2) && ((eFitL lb P S own ls ls2 && eFitL lb P S 1000000 st st2) && eFitFr lb P S (own + 100) ss ps)
  | _, _, _ => false
def eFitF (lb : Nat) (P S : eS) : Nat → List eF → Bool
  | _, [] => true
  | own, f :: t => (match eFV lb S f with | some v => eFit lb P S own v f.2.2.2.2.2 | none => false) && eFitF lb P S (own + 1) t
def eMatch (lb : Nat) (S P : eS) : Bool :=
  (Nat.beq S.2.1 P.2.1 && Nat.beq S.2.2.1 P.2.2.1) && ((eFitFr lb P S (lb + 100) S.1 P.1 && eFitL lb P S lb S.2.2.2.1 P.2.2.2.1) && (eFitL lb P S 1000000 S.2.2.2.2.1 P.2.2.2.2.1 && eFitF lb P S (lb + 5000) (eFs P)))
def eWfE (nx : Nat) (e : eE) : Bool := Nat.blt (eId e) nx
def eWfF (lb nx : Nat) (f : eF) : Bool := ((Nat.blt f.1 (lb + 5000) && Nat.blt f.1 nx) && (Nat.beq f.2.2.1 0 || (Nat.blt f.2.2.2.1 (lb + 5000) && Nat.blt f.2.2.2.1 nx))) && eWfE nx f.2.2.2.2.2
def eWfR (nx : Nat) (q : eFr) : Bool := (q.2.2.1.all (eWfE nx) && q.2.2.2.all (eWfE nx)) && Nat.ble q.2.2.1.length 100
/-- a wanted state's names are in order -/
def eWf (lb : Nat) (P : eS) : Bool := ((Nat.ble 10000 lb && Nat.ble lb P.2.2.2.2.2.2) && (Nat.ble P.2.2.2.2.2.2 1000000 && (Nat.ble P.2.2.2.1.length 100 && Nat.ble P.1.length 40))) && ((P.2.2.2.1.all (eWfE P.2.2.2.2.2.2) && P.2.2.2.2.1.all (eWfE P.2.2.2.2.2.2)) && (P.1.all (eWfR P.2.2.2.2.2.2) && (eFs P).all (eWfF lb P.2.2.2.2.2.2)))
/-- a loop row: its names' base; its measure (name, 1 up or 2 down, lowest, highest); its states -/
abbrev eCt : Type := Nat × (Nat × Nat × Nat × Nat) × List eS
def eKeyFr : List eFr → List eFr → Bool
  | [], [] => true
  | (i, pc, _) :: a, (i2, pc2, _) :: b => (Nat.beq i i2 && Nat.beq pc pc2) && eKeyFr a b
  | _, _ => false
def eKeyEq (S P : eS) : Bool := (Nat.beq S.2.2.1 P.2.2.1 && Nat.beq S.2.1 P.2.1) && eKeyFr S.1 P.1
def eMeasE (ms : Nat × Nat × Nat × Nat) (e : eE) : Bool :=
  Nat.beq ms.2.1 0 || (Nat.beq (eId e) ms.1 && eSub e (0, ms.2.2.1, ms.2.2.2, 1, 0, 0)) &&
  (bif Nat.beq ms.2.1 1 then Nat.blt 0 (eOff e) && Nat.blt (ms.2.2.2 - ms.2.2.1 + eOff e) 4294967296
   else Nat.blt 0 (4294967296 - eOff e) && (Nat.blt 0 (eOff e) && Nat.blt (ms.2.2.2 - ms.2.2.1 + (4294967296 - eOff e)) 4294967296))
/-- S fits a state of the row, and its measure has gone on -/
def eBack (c : eCt) (S : eS) : Bool := c.2.2.any (fun P => eMatch c.1 S P && (match eValue c.1 P S c.2.1.1 with | some e => eMeasE c.2.1 e | none => false))
def eFitsC (c : eCt) (S : eS) : Bool := c.2.2.any (fun P => eMatch c.1 S P && (match eValue c.1 P S c.2.1.1 with | some e => eSub e (0, c.2.1.2.2.1, c.2.1.2.2.2, 1, 0, 0) | none => false))
/-- a method's row: its number, its start, its ends (an answer; its facts), what it may write, its cost -/
abbrev eSm : Type := Nat × eS × List (eE × List eF) × List (Nat × Nat × Nat) × Nat
def eSmAt (a : Nat) (S : eS) : List eSm → Option eSm
  | [] => none
  | (a2, P, rest) :: t => bif Nat.beq a a2 then (bif eMatch 10000 S P then some (a2, P, rest) else eSmAt a S t) else eSmAt a S t
def eNames : List eE → Nat → List eE
  | [], _ => []
  | e :: t, nx => eName e nx :: eNames t (nx + 1)
def eKillW (W : List (Nat × Nat × Nat)) (fs : List eF) : List eF := fs.filter (fun f => W.all (fun q => eKeep q.1 q.2.1 q.2.2 f))
def ePush (a : Nat) (v : eE) (st : List eE) : List eE := bif Nat.beq (zRet a) 0 then st else v :: st
/-- the rows of a method's ends, behind its call -/
def eEnds (fr : List eFr) (i pc : Nat) (ls st : List eE) (fs : List eF) (nx a : Nat) : List (eE × List eF) → List eS
  | [] => []
  | (v, f) :: t => (fr, i, pc + 3, ls, ePush a (bif Nat.beq v.1 0 then eWith v nx 0 else v) st, f ++ fs, nx + 1) :: eEnds fr i pc ls st fs nx a t
/-- facts of an end that contradict what is known: that end isn't taken -/
def eConf (f fs : List eF) : Bool := f.any (fun g => Nat.ble g.2.2.1 1 && (match eFindR g.1 g.2.1 g.2.2.1 g.2.2.2.1 g.2.2.2.2.1 fs with
  | some v => (Nat.beq v.1 0 && Nat.beq g.2.2.2.2.2.1 0) && (Nat.blt (eHi v) (eLo g.2.2.2.2.2) || Nat.blt (eHi g.2.2.2.2.2) (eLo v))
  | none => false))
def eSubW (W V : List (Nat × Nat × Nat)) : Bool := V.all (fun q => eInW W q.1 q.2.1 q.2.2)
def eRcv (w : Nat) (st : List eE) : Bool := bif Nat.beq (zop w) 38 || Nat.beq (zop w) 40 then true else bif Nat.beq (zop w) 37 then (match st[zb w - 1]? with | some e => Nat.beq e.1 1 && (Nat.beq (eKd e.2.1) (zMtf (za w) 0) && Nat.blt 0 (zb w)) | none => false) else false
def eCallOk (w : Nat) (st : List eE) : Bool := (Nat.ble (zb w) st.length && Nat.ble st.length (zb w + 8)) && (eRcv w st && ((st.take (zb w)).all (fun e => !Nat.beq e.1 3) && (Nat.ble (zb w) (zMaxL (za w)) && Nat.ble (zb w) 100)))
def eCall (su : List eSm) (inl : Bool) (W : List (Nat × Nat × Nat)) (w : Nat) : eS → eR
  | (fr, i, pc, ls, st, fs, nx) => bif eCallOk w st then
      (bif inl then some (0, [((i, pc, ls, st.drop (zb w)) :: fr, za w, 0, eNames (st.take (zb w)).reverse nx ++ List.replicate (zMaxL (za w) - zb w) eAny, [], fs, nx + 100)])
       else (match eSmAt (za w) ([], za w, 0, (st.take (zb w)).reverse ++ List.replicate (zMaxL (za w) - zb w) eAny, [], fs, nx) su with
        | some (_, _, ends, V, k) => bif eSubW W V then some (k, eEnds fr i pc ls (st.drop (zb w)) (eKillW V fs) nx (za w) (ends.filter (fun q => !eConf q.2 (eKillW V fs)))) else none
        | none => none))
    else none
/-- where a state is split: (method, place, 0 stack or 1 local, which, lowest, highest) -/
abbrev eSp : Type := Nat × Nat × Nat × Nat × Nat × Nat
def eSpAt (i pc : Nat) : List eSp → Option (Nat × Nat × Nat × Nat)
  | [] => none
  | (i2, pc2, q) :: t => bif Nat.beq pc pc2 && Nat.beq i i2 then some q else eSpAt i pc t
def eSet1 (k n : Nat) (v : eE) : eS → eS
  | (fr, i, pc, ls, st, fs, nx) => bif Nat.beq k 0 then (fr, i, pc, ls, st.set n v, fs, nx) else (fr, i, pc, ls.set n v, st, fs, nx)
def eSpl1 (k n : Nat) (e : eE) (lo hi st : Nat) (s : eS) : eS := eSet1 k n (e.1, lo, hi, bif Nat.beq e.1 5 then e.2.2.2.1 else st, e.2.2.2.2) (eRefine e (0, lo, hi, st, 0, 0) s)
def eSplV (k n : Nat) (e : eE) (s : eS) : Nat → Nat → Nat → List eS
  | 0, _, _ => []
  | c + 1, x, st => eSpl1 k n e x x 0 s :: eSplV k n e s c (x + st) st
/-- classes that cover a range -/
def eClsOk (tb : List (Nat × Nat × Nat)) (lo hi : Nat) : Bool := Nat.ble hi (lo + 5000) && (List.range (hi - lo + 1)).all (fun d => tb.any (fun c => (Nat.ble c.1 (lo + d) && Nat.ble (lo + d) c.2.1) && Nat.beq ((lo + d - c.1) % c.2.2) 0))
def eSplC (tb : List (Nat × Nat × Nat)) (k n : Nat) (e : eE) (s : eS) : Option (List eS) :=
  bif Nat.beq e.1 0 && (!(tb.any (fun c => eSub e (0, c.1, c.2.1, c.2.2, 0, 0))) && eClsOk tb (eLo e) (eHi e)) then some ((tb.filter (fun c => Nat.ble (eLo e) c.2.1 && Nat.ble c.1 (eHi e))).map (fun c => eSpl1 k n e c.1 c.2.1 c.2.2 s)) else none
def eSplit (q : Nat × Nat × Nat × Nat) (s : eS) : Option (List eS) :=
  match (bif Nat.beq q.1 0 then s.2.2.2.2.1[q.2.1]? else s.2.2.2.1[q.2.1]?) with
  | some e => bif !eInt e || (eSin e || Nat.beq (eLo e) (eHi e)) then none
      else bif Nat.ble 8589934592 q.2.2.1 then eSplC (eCls.getD (q.2.2.1 - 8589934592) []) q.1 q.2.1 e s
      else bif Nat.beq e.1 0 && (Nat.ble q.2.2.1 (eLo e) && Nat.ble (eHi e) q.2.2.2) then some (eSplV q.1 q.2.1 e s (eCount e) (eLo e) e.2.2.2.1)
      else bif (Nat.ble (eLo e) q.2.2.1 && Nat.blt q.2.2.1 (eHi e)) && (Nat.ble q.2.2.2 (eHi e) && Nat.ble q.2.2.1 q.2.2.2) then
        some (eSplV q.1 q.2.1 e s (q.2.2.2 - q.2.2.1 + 1) q.2.2.1 1 ++ ((bif Nat.blt (eLo e) q.2.2.1 then [eSpl1 q.1 q.2.1 e (eLo e) (q.2.2.1 - 1) 1 s] else []) ++ (bif Nat.blt q.2.2.2 (eHi e) then [eSpl1 q.1 q.2.1 e (q.2.2.2 + 1) (eHi e) 1 s] else [])))
      else none
  | none => none
def eMaxM (f : eS → Option Nat) : List eS → Option Nat
  | [] => some 0
  | s :: t => match f s with
    | some a => (match eMaxM f t with | some b => some (max a b) | none => none)
    | none => none
/-- what a check runs under: methods' rows, what is run through (a method, or one call), what may be written, the ends, the loop rows, splits, loop rows that are checked already with their costs -/
abbrev eCf : Type := List eSm × (List Nat × List (Nat × Nat)) × List (Nat × Nat × Nat) × List (eE × List eF) × List eCt × List eSp × List (eCt × Nat)
def eInl (q : List Nat × List (Nat × Nat)) (i pc a : Nat) : Bool := q.1.any (fun b => Nat.beq a b) || q.2.any (fun b => Nat.beq pc b.2 && Nat.beq i b.1)
def eFHas (fs : List eF) : eF → Bool
  | (o, r, k1, k2, k3, e) => ((Nat.ble k1 1 && Nat.blt o 10000) && (Nat.beq k1 0 || Nat.blt k2 10000)) && (match eFindR o r k1 k2 k3 fs with | some v => eSub v e && Nat.beq (eId e) 0 | none => false)
def ePostOk (ends : List (eE × List eF)) (fs : List eF) (v : eE) : Bool := ends.any (fun q => eSub v q.1 && (Nat.beq (eId q.1) 0 && q.2.all (fun f => eFHas fs f)))
def eRetV (w i : Nat) (st : List eE) : Option eE :=
  bif Nat.beq (zop w) 46 then (match st with | [] => bif Nat.beq (zRet i) 0 then some (eNat 0) else none | _ => none)
  else (match st with | [v] => bif eInt v && (Nat.beq (zRet i) 1 || (Nat.beq (zRet i) 2 && eSub v (0, 2147483648, 2147483649, 1, 0, 0))) then some v else none | _ => none)
def eRetS (v : eE) (i : Nat) (fs : List eF) (nx : Nat) : List eFr → Option eS
  | (i2, pc2, ls2, st2) :: fr => some (fr, i2, pc2 + 3, ls2, ePush i v st2, fs, nx)
  | [] => none
def eKeyC (c : eCt) (S : eS) : Bool := match c.2.2 with | P :: _ => eKeyEq S P | [] => false
def eHyOk (hy : List eCt) (c : eCt) : Bool := hy.all (fun d => Nat.blt d.1 c.1 && Nat.blt d.2.1.1 c.1)
/-- a loop's cost, of its body's -/
def eLoopK (c : eCt) (b : Nat) : Nat := (c.2.1.2.2.2 - c.2.1.2.2.1 + 1) * b
/-- one instruction, or a split: the states behind it -/
def eNext (cf : eCf) (s : eS) : eR :=
  match (match eSpAt s.2.1 s.2.2.1 cf.2.2.2.2.2.1 with | some q => eSplit q s | none => none) with
  | some L => some (0, L)
  | none => none
def eRun1 (cf : eCf) (s : eS) : eR :=
  bif zIsC (zI s.2.1 s.2.2.1) then eCall cf.1 (eInl cf.2.1 s.2.1 s.2.2.1 (za (zI s.2.1 s.2.2.1))) cf.2.2.1 (zI s.2.1 s.2.2.1) s
  else eStep cf.2.2.1 (zI s.2.1 s.2.2.1) s
def eIsRet (s : eS) : Bool := Nat.beq (zop (zI s.2.1 s.2.2.1)) 45 || Nat.beq (zop (zI s.2.1 s.2.2.1)) 46
noncomputable def eChk (cf : eCf) (fuel : Nat) : Bool → List eCt → eS → Option Nat :=
  Nat.rec (motive := fun _ => Bool → List eCt → eS → Option Nat) (fun _ _ _ => none)
    (fun _ ih skip hy s =>
      bif !skip && hy.any (fun d => eKeyC d s && eBack d s) then some 0
      else match (bif skip then none else cf.2.2.2.2.2.2.find? (fun q => eKeyC q.1 s && eFitsC q.1 s)) with
      | some q => some q.2
      | none => match (bif skip then none else cf.2.2.2.2.1.find? (fun c => eKeyC c s && (eHyOk hy c && eFitsC c s))) with
        | some c => (match eMaxM (ih true (c :: hy)) c.2.2 with | some b => some (eLoopK c b) | none => none)
        | none => match eNext cf s with
          | some q => eMaxM (ih true hy) q.2
          | none => bif eIsRet s then
                (match eRetV (zI s.2.1 s.2.2.1) s.2.1 s.2.2.2.2.1 with
                | some v => (match eRetS v s.2.1 (eFs s) s.2.2.2.2.2.2 s.1 with
                  | some t => ih false hy t
                  | none => bif ePostOk cf.2.2.2.1 (eFs s) v then some 0 else none)
                | none => none)
              else (match eRun1 cf s with
                | some q => (match eMaxM (ih false hy) q.2 with | some b => some (q.1 + b) | none => none)
                | none => none)) fuel
theorem eChk_z {cf : eCf} {skip : Bool} {hy : List eCt} {s : eS} : eChk cf 0 skip hy s = none := rfl
theorem eChk_s {cf : eCf} {n : Nat} {skip : Bool} {hy : List eCt} {s : eS} : eChk cf (n + 1) skip hy s =
      bif !skip && hy.any (fun d => eKeyC d s && eBack d s) then some 0
      else match (bif skip then none else cf.2.2.2.2.2.2.find? (fun q => eKeyC q.1 s && eFitsC q.1 s)) with
      | some q => some q.2
      | none => match (bif skip then none else cf.2.2.2.2.1.find? (fun c => eKeyC c s && (eHyOk hy c && eFitsC c s))) with
        | some c => (match eMaxM (eChk cf n true (c :: hy)) c.2.2 with | some b => some (eLoopK c b) | none => none)
        | none => match eNext cf s with
          | some q => eMaxM (eChk cf n true hy) q.2
          | none => bif eIsRet s then
                (match eRetV (zI s.2.1 s.2.2.1) s.2.1 s.2.2.2.2.1 with
                | some v => (match eRetS v s.2.1 (eFs s) s.2.2.2.2.2.2 s.1 with
                  | some t => eChk cf n false hy t
                  | none => bif ePostOk cf.2.2.2.1 (eFs s) v then some 0 else none)
                | none => none)
              else (match eRun1 cf s with
                | some q => (match eMaxM (eChk cf n false hy) q.2 with | some b => some (q.1 + b) | none => none)
                | none => none) := rfl
/-- the loop rows one by one, each with those behind it -/
noncomputable def eLems (cf : eCf) (fuel : Nat) : List eCt → Option (List (eCt × Nat))
  | [] => some cf.2.2.2.2.2.2
  | c :: t => match eLems cf fuel t with
    | some L => (match eMaxM (eChk (cf.1, cf.2.1, cf.2.2.1, cf.2.2.2.1, cf.2.2.2.2.1, cf.2.2.2.2.2.1, L) fuel true [c]) c.2.2 with | some b => some ((c, eLoopK c b) :: L) | none => none)
    | none => none
