/-! ===== WHAT IS CHECKED OF EACH PACKED WORD: its instruction in the method's bytes, the tables' words that it needs, its depth ===== -/
def zWT : List Cond := lw_tbl.filter goodWord
def zHas (k : Nat) (w : Cond) : Bool := decide (lw_tbl[k]? = some w) && goodWord w
def zHasN (k : Nat) (w : Cond) : Bool := decide (lw_tbl[k]? = some w)
theorem zHas_in {k : Nat} {w : Cond} (h : zHas k w = true) : w ∈ zWT := by
  simp only [zHas, Bool.and_eq_true, decide_eq_true_eq] at h
  exact List.mem_filter.mpr ⟨List.mem_of_getElem? h.1, h.2⟩
theorem zHasN_in {k : Nat} {w : Cond} (h : zHasN k w = true) : w ∈ lw_tbl := by
  simp only [zHasN, decide_eq_true_eq] at h
  exact List.mem_of_getElem? h
theorem zWT_good : GoodIn lw_tbl zWT := fun _ hw => ⟨(List.mem_filter.mp hw).1, good_of_word (List.mem_filter.mp hw).2⟩
theorem zWT_self : GoodIn zWT zWT := fun _ hw => ⟨hw, good_of_word (List.mem_filter.mp hw).2⟩
def zSg (a : Nat) : Int := if a < 2147483648 then (a : Int) else (a : Int) - 4294967296
def zOwn (i : Nat) : String := (zY i).cls
def zNp (i : Nat) : Nat := match parseMethodDescriptor (zY i).desc with
  | some d => d.parameters.length
  | none => 0
def zOkF (i w : Nat) : Bool := zHas (za w) (.fieldLink (zOwn i) (zd w) (zCn (zb w)) (zTT (zb w) (zc w)).2.1 (zTT (zb w) (zc w)).2.2.1) && (decide (zc w < zNF (zb w)) && (decide (zb w < 6) && decide ((zTT (zb w) (zc w)).1 = zCn (zb w))))
def zOkD (i w : Nat) : Bool := decide (zNf (za w) + 1 ≤ zNf i) && (decide (8 + (zMaxL (za w) + 11) + zNl (za w) ≤ zNl i) && decide (za w < 65))
def zOkI (i pc w : Nat) : Bool :=
  if zop w = 1 then (match zb w with
    | 0 => decide (decode (zCode i) pc = .ok (.iconst (zSg (za w)), 1)) && (decide (zln w = 1) && decide (Int32.ofInt (zSg (za w)) = nI (za w)))
    | 1 => decide (decode (zCode i) pc = .ok (.bipush (zSg (za w)), 2)) && (decide (zln w = 2) && decide ((Int8.ofInt (zSg (za w))).toInt32 = nI (za w)))
    | 2 => decide (decode (zCode i) pc = .ok (.sipush (zSg (za w)), 3)) && (decide (zln w = 3) && decide ((Int16.ofInt (zSg (za w))).toInt32 = nI (za w)))
    | _ => decide (decode (zCode i) pc = .ok (.ldc (zc w), 2)) && (decide (zln w = 2) && zHas (zd w) (.constant (zOwn i) (zc w) (nI (za w)))))
  else if zop w = 2 then (match zb w with
    | 0 => decide (decode (zCode i) pc = .ok (.iload_n (Fin.ofNat 4 (za w)), 1)) && (decide (zln w = 1) && decide (za w < 4))
    | _ => decide (decode (zCode i) pc = .ok (.iload (za w), 2)) && decide (zln w = 2))
  else if zop w = 3 then (match zb w with
    | 0 => decide (decode (zCode i) pc = .ok (.aload_n (Fin.ofNat 4 (za w)), 1)) && (decide (zln w = 1) && decide (za w < 4))
    | _ => decide (decode (zCode i) pc = .ok (.aload (za w), 2)) && decide (zln w = 2))
  else if zop w = 4 then (match zb w with
    | 0 => decide (decode (zCode i) pc = .ok (.istore_n (Fin.ofNat 4 (za w)), 1)) && (decide (zln w = 1) && decide (za w < 4))
    | _ => decide (decode (zCode i) pc = .ok (.istore (za w), 2)) && decide (zln w = 2))
  else if zop w = 5 then (match zb w with
    | 0 => decide (decode (zCode i) pc = .ok (.astore_n (Fin.ofNat 4 (za w)), 1)) && (decide (zln w = 1) && decide (za w < 4))
    | _ => decide (decode (zCode i) pc = .ok (.astore (za w), 2)) && decide (zln w = 2))
  else if zop w = 6 then decide (decode (zCode i) pc = .ok (.iinc (zb w) (zSg (za w)), 3)) && decide (Int32.ofInt (zSg (za w)) = nI (za w))
  else if zop w = 7 then decide (decode (zCode i) pc = .ok (.iadd, 1))
  else if zop w = 8 then decide (decode (zCode i) pc = .ok (.isub, 1))
  else if zop w = 9 then decide (decode (zCode i) pc = .ok (.imul, 1))
  else if zop w = 10 then decide (decode (zCode i) pc = .ok (.idiv, 1))
  else if zop w = 11 then decide (decode (zCode i) pc = .ok (.irem, 1))
  else if zop w = 12 then decide (decode (zCode i) pc = .ok (.iand, 1))
  else if zop w = 47 then decide (decode (zCode i) pc = .ok (.ishr, 1))
  else if zop w = 13 then decide (decode (zCode i) pc = .ok (.i2c, 1))
  else if zop w = 14 then decide (decode (zCode i) pc = .ok (.dup, 1))
  else if zop w = 15 then decide (decode (zCode i) pc = .ok (.pop, 1))
  else if zop w = 16 then decide (decode (zCode i) pc = .ok (.dup2, 1))
  else if zop w = 17 then (match zb w with
    | 0 => decide (decode (zCode i) pc = .ok (.ifCond .eq ((za w : Int) - (pc : Int)), 3))
    | 1 => decide (decode (zCode i) pc = .ok (.ifCond .ne ((za w : Int) - (pc : Int)), 3))
    | 2 => decide (decode (zCode i) pc = .ok (.ifCond .lt ((za w : Int) - (pc : Int)), 3))
    | 3 => decide (decode (zCode i) pc = .ok (.ifCond .ge ((za w : Int) - (pc : Int)), 3))
    | 4 => decide (decode (zCode i) pc = .ok (.ifCond .gt ((za w : Int) - (pc : Int)), 3))
    | _ => decide (decode (zCode i) pc = .ok (.ifCond .le ((za w : Int) - (pc : Int)), 3)))
  else if zop w = 18 then (match zb w with
    | 0 => decide (decode (zCode i) pc = .ok (.if_icmp .eq ((za w : Int) - (pc : Int)), 3))
    | 1 => decide (decode (zCode i) pc = .ok (.if_icmp .ne ((za w : Int) - (pc : Int)), 3))
    | 2 => decide (decode (zCode i) pc = .ok (.if_icmp .lt ((za w : Int) - (pc : Int)), 3))
    | 3 => decide (decode (zCode i) pc = .ok (.if_icmp .ge ((za w : Int) - (pc : Int)), 3))
    | 4 => decide (decode (zCode i) pc = .ok (.if_icmp .gt ((za w : Int) - (pc : Int)), 3))
    | _ => decide (decode (zCode i) pc = .ok (.if_icmp .le ((za w : Int) - (pc : Int)), 3)))
  else if zop w = 19 then decide (decode (zCode i) pc = .ok (.goto ((za w : Int) - (pc : Int)), 3))
  else if zop w = 20 then (match decode (zCode i) pc with
    | .ok (.tableswitch d lo hi offs, _) => decide (lo = 0) && (decide (hi + 1 = ((zSw.getD (za w) (0, [], 0)).2.1.length : Int)) && (decide ((pc : Int) + d = ((zSw.getD (za w) (0, [], 0)).2.2 : Int)) && (decide (offs.toList = (zSw.getD (za w) (0, [], 0)).2.1.map (fun q => (q.2 : Int) - (pc : Int))) && (decide ((zSw.getD (za w) (0, [], 0)).2.1.map (fun q => q.1) = List.range (zSw.getD (za w) (0, [], 0)).2.1.length) && decide ((zSw.getD (za w) (0, [], 0)).2.1.length < 100)))))
    | _ => false)
  else if zop w = 21 then (match decode (zCode i) pc with
    | .ok (.lookupswitch d ps, _) => decide ((pc : Int) + d = ((zSw.getD (za w) (0, [], 0)).2.2 : Int)) && (decide (ps.toList = (zSw.getD (za w) (0, [], 0)).2.1.map (fun q => (zSg q.1, (q.2 : Int) - (pc : Int)))) && ((ps.toList.zip (ps.toList.drop 1)).all (fun (a, next) => a.1 < next.1) && (zSw.getD (za w) (0, [], 0)).2.1.all (fun q => decide (q.1 < 4294967296))))
    | _ => false)
  else if zop w = 22 then decide (decode (zCode i) pc = .ok (.getfield (zd w), 3)) && zOkF i w
  else if zop w = 23 then decide (decode (zCode i) pc = .ok (.putfield (zd w), 3)) && (zOkF i w && decide ((zTT (zb w) (zc w)).2.2.2 = false))
  else if zop w = 24 then decide (decode (zCode i) pc = .ok (.putfield (zd w), 3)) && (zOkF i w && (decide ((zTT (zb w) (zc w)).2.2.2 = true) && (decide ((zY i).name = "<init>") && decide (zCn (zb w) = zOwn i))))
  else if zop w = 25 then decide (decode (zCode i) pc = .ok (.getstatic (zd w), 3)) && (decide (zb w < 3) && (match zc w with
    | 0 => zHas (za w) (.fieldLink (zOwn i) (zd w) RX5 (zSn (zb w)) "[I")
    | _ => zHasN (za w) (.fieldLinkNest (zOwn i) (zd w) RX5 (zSn (zb w)) "[I" RX5)))
  else if zop w = 26 then decide (decode (zCode i) pc = .ok (.iaload, 1))
  else if zop w = 27 then decide (decode (zCode i) pc = .ok (.iastore, 1))
  else if zop w = 28 then decide (decode (zCode i) pc = .ok (.caload, 1))
  else if zop w = 29 then decide (decode (zCode i) pc = .ok (.castore, 1))
  else if zop w = 30 then decide (decode (zCode i) pc = .ok (.aaload, 1))
  else if zop w = 31 then decide (decode (zCode i) pc = .ok (.aastore, 1))
  else if zop w = 32 then decide (decode (zCode i) pc = .ok (.arraylength, 1))
  else if zop w = 33 then decide (zln w = 2) && (match zb w with
    | 7 => decide (decode (zCode i) pc = .ok (.newarray .int, 2)) && zHas (za w) (.arrayClass .int)
    | 8 => decide (decode (zCode i) pc = .ok (.newarray .char, 2)) && zHas (za w) (.arrayClass .char)
    | _ => false)
  else if zop w = 34 then decide (decode (zCode i) pc = .ok (.anewarray (zd w), 3)) && (decide (zln w = 3) && ((decide (9 ≤ zb w) && decide (zb w ≤ 11)) && zHas (za w) (.classLink (zOwn i) (zd w) (zCn (zEl (zb w))))))
  else if zop w = 35 then decide (decode (zCode i) pc = .ok (.new (zd w), 3)) && (decide (zb w < 6) && (zHas (za w) (.classLink (zOwn i) (zd w) (zCn (zb w))) && (zHas (zc w) (.instantiable (zCn (zb w)) (zNF (zb w))) && decide (Cond.initialized (zCn (zb w)) ∈ lw_tbl))))
  else if zop w = 36 then decide (decode (zCode i) pc = .ok (.invokespecial (zd w), 3)) && (zHas (za w) (.methodLink (zOwn i) (zd w) objectInit) && (decide (1 ≤ zNf i) && decide (20 ≤ zNl i)))
  else if zop w = 37 then decide (decode (zCode i) pc = .ok (.invokevirtual (zd w), 3)) && (zHas (zc w) (.methodLink (zOwn i) (zd w) (zY (za w))) && (decide (zb w = zNp (za w) + 1) && (decide (zMtf (za w) 8 = 0) && (decide ((zY (za w)).name ≠ "<init>") && zOkD i w))))
  else if zop w = 38 then decide (decode (zCode i) pc = .ok (.invokestatic (zd w), 3)) && (zHas (zc w) (.methodLink (zOwn i) (zd w) (zY (za w))) && (decide (zb w = zNp (za w)) && (decide (zMtf (za w) 8 = 1) && zOkD i w)))
  else if zop w = 39 then decide (decode (zCode i) pc = .ok (.invokespecial (zd w), 3)) && (zHas (zc w) (.methodLink (zOwn i) (zd w) (zY (za w))) && (decide (zb w = zNp (za w) + 1) && (decide (zMtf (za w) 8 = 0) && (decide ((zY (za w)).name = "<init>") && (decide (zRet (za w) = 0) && zOkD i w)))))
  else if zop w = 40 then decide (decode (zCode i) pc = .ok (.invokestatic (zd w), 3)) && (zHasN (zc w) (.methodLinkNest (zOwn i) (zd w) (zY (za w)) RX5) && (decide (zb w = zNp (za w)) && (decide (zMtf (za w) 8 = 1) && zOkD i w)))
  else if zop w = 41 then decide (decode (zCode i) pc = .ok (.invokespecial (zd w), 3)) && (zHasN (zc w) (.methodLinkNest (zOwn i) (zd w) (zY (za w)) RX5) && (decide (zb w = zNp (za w) + 1) && (decide (zMtf (za w) 8 = 0) && (decide ((zY (za w)).name = "<init>") && (decide (zRet (za w) = 0) && zOkD i w)))))
  else if zop w = 42 then decide (decode (zCode i) pc = .ok (.invokestatic (zd w), 3)) && (zHas (za w) (.methodLink (zOwn i) (zd w) Lib.Math.min.name) && (decide (1 ≤ zNf i) && decide (21 ≤ zNl i)))
  else if zop w = 43 then decide (decode (zCode i) pc = .ok (.invokestatic (zd w), 3)) && (zHas (za w) (.methodLink (zOwn i) (zd w) Lib.Math.max.name) && (decide (1 ≤ zNf i) && decide (21 ≤ zNl i)))
  else if zop w = 44 then decide (decode (zCode i) pc = .ok (.invokestatic (zd w), 3)) && (zHas (za w) (.methodLink (zOwn i) (zd w) arraycopyName) && (decide (1 ≤ zNf i) && decide (26 ≤ zNl i)))
  else if zop w = 45 then decide (decode (zCode i) pc = .ok (.ireturn, 1))
  else if zop w = 46 then decide (decode (zCode i) pc = .ok (.return_, 1))
  else false
def zTop (i : Nat) : Nat := zLens.getD i 0
def zChk (i : Nat) : Bool := (List.range (zTop i)).all (fun pc => decide (zop (zI i pc) = 0) || zOkI i pc (zI i pc)) && decide (zTab.getD i 0 < 2 ^ (96 * zTop i))
/-- what is checked of each method -/
def zChM (a : Nat) : Bool := ((match lw_tbl[zMtf a 5]? with
  | some (.code y _ n r) => decide (y = zY a) && (decide (n = zMaxL a) && decide (r = zRt a))
  | _ => false) && zHas (zMtf a 6) (if zMtf a 8 = 1 then .static (zY a) else .instanceMethod (zY a))) && ((decide (zMtf a 8 = 1) || (decide ((zY a).name = "<init>") || zHas (zMtf a 7) (.selects (zOwn a) (zY a) (zY a)))) && (zHas (zMtf a 9) (.initialized (zOwn a)) && ((decide (zOwn a = zCn (zMtf a 0)) && (decide (zMtf a 0 < 6) || decide (zMtf a 8 = 1))) && (plainName (zOwn a) && (decide (zOwn a ≠ "java/lang/invoke/MethodHandle") && (decide (zOwn a ≠ "java/lang/invoke/VarHandle") && decide ((parseMethodDescriptor (zY a).desc).map (fun d => d.parameters.length) = some (zNp a))))))))
