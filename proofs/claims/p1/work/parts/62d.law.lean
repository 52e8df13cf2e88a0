def p1_c15 : eCt := (20000, (20003, 1, 2147483648, 2147483648), [([], 138, 535, [(2, 3, 0, 0, 0, 0), (1, 0, 0, 0, 1, 0), (1, 1, 0, 0, 2, 0), (0, 2147483648, 2147483648, 0, 20003, 0)], [], (9500, 9999, 2, 20003, 4, eAny) :: p1_F, 30000)])
set_option maxRecDepth 100000 in
theorem p1_ct15 : eMaxM (eChk (p1_s36, ([29, 38, 69, 76, 81, 83, 85, 126, 127, 128, 129], []), p1_W, p1_E, [], [(69, 0, 1, 2, 2147483648, 2147483654), (69, 9, 1, 1, 2147483648, 2147483659)], []) 100000 true []) p1_c15.2.2 = some 0 := by decide +kernel
def p1_q16 : List (eCt × Nat) := (p1_c15, 0) :: p1_q15
set_option maxRecDepth 100000 in
theorem p1_g16 (sc : List Nat) : gLs sc p1_E p1_W p1_q16 := gLs_cons (by decide +kernel) (eLem_of eDat_t (p1_h36 sc) p1_ct15) (p1_g15 sc)
