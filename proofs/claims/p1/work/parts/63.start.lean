/-! ===== the claim's walk ===== -/
def p1_ok (x : Option (Nat × List Nat × List Nat × zM)) : Bool := match x with
  | some (pc, ls, st, m) => (Nat.beq pc 16 && (decide (ls = [8589934595, 4294967297 + (eSg.getD 0 0 - 1), 4294967297 + (eSg.getD 1 0 - 1), 1099511627776]) && decide (st = []))) && (cMem m eRG && p1_F.all (fun f => cFact m f))
  | none => false
set_option maxRecDepth 100000 in
theorem p1_pre : p1_ok (zFore 20000 138 8 0 ([8589934595] ++ List.replicate 3 1099511627776) [] []) = true := by decide +kernel
set_option maxRecDepth 100000 in
theorem p1_at : (decide (0 < eSg.getD 0 0) && decide (0 < eSg.getD 1 0)) && (decide (p1_L.2.2.2.1 = [(2, 3, 0, 0, 0, 0), (1, 0, 0, 0, 1, 0), (1, 1, 0, 0, 2, 0), eAny]) && (decide (p1_L.2.2.2.2.1 = []) && (decide (p1_L.1 = []) && (decide (p1_L.2.1 = 138) && (decide (p1_L.2.2.1 = 16) && decide (p1_L.2.2.2.2.2.2 = 10000)))))) = true := by decide +kernel
