def p1_c20 : eCt := (20000, (20003, 1, 2147483648, 2147483648), [([], 138, 710, [(2, 3, 0, 0, 0, 0), (1, 0, 0, 0, 1, 0), (1, 1, 0, 0, 2, 0), (0, 2147483648, 2147483648, 0, 20003, 0)], [], (9500, 9999, 2, 20003, 4, eAny) :: p1_F, 30000)])
set_option maxRecDepth 100000 in
theorem p1_ct20 : eMaxM (eChk (p1_s36, ([1, 9, 74, 81, 103, 135], []), p1_W, p1_E, [], [], []) 100000 true []) p1_c20.2.2 = some 0 := by decide +kernel
def p1_q21 : List (eCt × Nat) := (p1_c20, 0) :: p1_q20
set_option maxRecDepth 100000 in
theorem p1_g21 (sc : List Nat) : gLs sc p1_E p1_W p1_q21 := gLs_cons (by decide +kernel) (eLem_of eDat_t (p1_h36 sc) p1_ct20) (p1_g20 sc)
def p1_c21 : eCt := (20000, (20003, 1, 2147483648, 2147483648), [([], 138, 733, [(2, 3, 0, 0, 0, 0), (1, 0, 0, 0, 1, 0), (1, 1, 0, 0, 2, 0), (0, 2147483648, 2147483648, 0, 20003, 0)], [], (9500, 9999, 2, 20003, 4, eAny) :: p1_F, 30000)])
set_option maxRecDepth 100000 in
theorem p1_ct21 : eMaxM (eChk (p1_s36, ([28, 31, 75, 81, 85, 113, 126, 136, 137], []), p1_W, p1_E, [], [(75, 0, 1, 1, 2147483648, 2147483669)], []) 100000 true []) p1_c21.2.2 = some 0 := by decide +kernel
def p1_q22 : List (eCt × Nat) := (p1_c21, 0) :: p1_q21
set_option maxRecDepth 100000 in
theorem p1_g22 (sc : List Nat) : gLs sc p1_E p1_W p1_q22 := gLs_cons (by decide +kernel) (eLem_of eDat_t (p1_h36 sc) p1_ct21) (p1_g21 sc)
def p1_c22 : eCt := (20000, (20003, 1, 2147483648, 2147483648), [([], 138, 756, [(2, 3, 0, 0, 0, 0), (1, 0, 0, 0, 1, 0), (1, 1, 0, 0, 2, 0), (0, 2147483648, 2147483648, 0, 20003, 0)], [], (9500, 9999, 2, 20003, 4, eAny) :: p1_F, 30000)])
set_option maxRecDepth 100000 in
theorem p1_ct22 : eMaxM (eChk (p1_s36, ([], []), p1_W, p1_E, [], [], []) 100000 true []) p1_c22.2.2 = some 0 := by decide +kernel
def p1_q23 : List (eCt × Nat) := (p1_c22, 0) :: p1_q22
set_option maxRecDepth 100000 in
theorem p1_g23 (sc : List Nat) : gLs sc p1_E p1_W p1_q23 := gLs_cons (by decide +kernel) (eLem_of eDat_t (p1_h36 sc) p1_ct22) (p1_g22 sc)
set_option maxRecDepth 100000 in
theorem p1_Lt : eChk (p1_s36, ([], []), p1_W, p1_E, [], [], p1_q23) 100000 false [] p1_L = some 0 := by decide +kernel
