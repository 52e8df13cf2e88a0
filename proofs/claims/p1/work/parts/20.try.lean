set_option maxRecDepth 1000000 in
theorem zT1 : (match zGo [] 20000 138 0 ([8589934595] ++ List.replicate 3 1099511627776) [] [] with | some (v, m) => decide (v = 1) && decide (m.length = 441) | none => false) = true := by decide +kernel
