/-! ===== the checks, by the kernel ===== -/
set_option maxRecDepth 100000 in
theorem zk_m : (List.range 138).all zChM = true := by decide +kernel
set_option maxRecDepth 100000 in
theorem zk_0 : (List.range 20).all zChk = true := by decide +kernel
