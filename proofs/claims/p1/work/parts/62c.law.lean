def p1_c9 : eCt := (20000, (20003, 1, 2147483648, 2147483648), [([], 138, 425, [(2, 3, 0, 0, 0, 0), (1, 0, 0, 0, 1, 0), (1, 1, 0, 0, 2, 0), (0, 2147483648, 2147483648, 0, 20003, 0)], [], (9500, 9999, 2, 20003, 4, eAny) :: p1_F, 30000)])
set_option maxRecDepth 100000 in
theorem p1_ct9 : eMaxM (eChk (p1_s36, ([41, 63, 119], []), p1_W, p1_E, [], [], []) 100000 true []) p1_c9.2.2 = some 0 := by decide +kernel
def p1_q10 : List (eCt × Nat) := (p1_c9, 0) :: p1_q9
set_option maxRecDepth 100000 in
theorem p1_g10 (sc : List Nat) : gLs sc p1_E p1_W p1_q10 := gLs_cons (by decide +kernel) (eLem_of eDat_t (p1_h36 sc) p1_ct9) (p1_g9 sc)
def p1_c10 : eCt := (20000, (20003, 1, 2147483648, 2147483648), [([], 138, 450, [(2, 3, 0, 0, 0, 0), (1, 0, 0, 0, 1, 0), (1, 1, 0, 0, 2, 0), (0, 2147483648, 2147483648, 0, 20003, 0)], [], (9500, 9999, 2, 20003, 4, eAny) :: p1_F, 30000)])
set_option maxRecDepth 100000 in
theorem p1_ct10 : eMaxM (eChk (p1_s36, ([64, 120], []), p1_W, p1_E, [], [], []) 100000 true []) p1_c10.2.2 = some 0 := by decide +kernel
def p1_q11 : List (eCt × Nat) := (p1_c10, 0) :: p1_q10
set_option maxRecDepth 100000 in
theorem p1_g11 (sc : List Nat) : gLs sc p1_E p1_W p1_q11 := gLs_cons (by decide +kernel) (eLem_of eDat_t (p1_h36 sc) p1_ct10) (p1_g10 sc)
def p1_c11 : eCt := (20000, (20003, 1, 2147483648, 2147483648), [([], 138, 463, [(2, 3, 0, 0, 0, 0), (1, 0, 0, 0, 1, 0), (1, 1, 0, 0, 2, 0), (0, 2147483648, 2147483648, 0, 20003, 0)], [], (9500, 9999, 2, 20003, 4, eAny) :: p1_F, 30000)])
set_option maxRecDepth 100000 in
theorem p1_ct11 : eMaxM (eChk (p1_s36, ([65, 88], []), p1_W, p1_E, [], [], []) 100000 true []) p1_c11.2.2 = some 0 := by decide +kernel
def p1_q12 : List (eCt × Nat) := (p1_c11, 0) :: p1_q11
set_option maxRecDepth 100000 in
theorem p1_g12 (sc : List Nat) : gLs sc p1_E p1_W p1_q12 := gLs_cons (by decide +kernel) (eLem_of eDat_t (p1_h36 sc) p1_ct11) (p1_g11 sc)
def p1_c12 : eCt := (20000, (20003, 1, 2147483648, 2147483648), [([], 138, 476, [(2, 3, 0, 0, 0, 0), (1, 0, 0, 0, 1, 0), (1, 1, 0, 0, 2, 0), (0, 2147483648, 2147483648, 0, 20003, 0)], [], (9500, 9999, 2, 20003, 4, eAny) :: p1_F, 30000)])
set_option maxRecDepth 100000 in
theorem p1_ct12 : eMaxM (eChk (p1_s36, ([66, 89], []), p1_W, p1_E, [], [], []) 100000 true []) p1_c12.2.2 = some 0 := by decide +kernel
def p1_q13 : List (eCt × Nat) := (p1_c12, 0) :: p1_q12
set_option maxRecDepth 100000 in
theorem p1_g13 (sc : List Nat) : gLs sc p1_E p1_W p1_q13 := gLs_cons (by decide +kernel) (eLem_of eDat_t (p1_h36 sc) p1_ct12) (p1_g12 sc)
def p1_c13 : eCt := (20000, (20003, 1, 2147483648, 2147483648), [([], 138, 489, [(2, 3, 0, 0, 0, 0), (1, 0, 0, 0, 1, 0), (1, 1, 0, 0, 2, 0), (0, 2147483648, 2147483648, 0, 20003, 0)], [], (9500, 9999, 2, 20003, 4, eAny) :: p1_F, 30000)])
set_option maxRecDepth 100000 in
theorem p1_ct13 : eMaxM (eChk (p1_s36, ([67, 90], []), p1_W, p1_E, [], [], []) 100000 true []) p1_c13.2.2 = some 0 := by decide +kernel
def p1_q14 : List (eCt × Nat) := (p1_c13, 0) :: p1_q13
set_option maxRecDepth 100000 in
theorem p1_g14 (sc : List Nat) : gLs sc p1_E p1_W p1_q14 := gLs_cons (by decide +kernel) (eLem_of eDat_t (p1_h36 sc) p1_ct13) (p1_g13 sc)
def p1_c14 : eCt := (20000, (20003, 1, 2147483648, 2147483648), [([], 138, 502, [(2, 3, 0, 0, 0, 0), (1, 0, 0, 0, 1, 0), (1, 1, 0, 0, 2, 0), (0, 2147483648, 2147483648, 0, 20003, 0)], [], (9500, 9999, 2, 20003, 4, eAny) :: p1_F, 30000)])
set_option maxRecDepth 100000 in
theorem p1_ct14 : eMaxM (eChk (p1_s36, ([8, 68, 81, 82, 125], []), p1_W, p1_E, [], [], []) 100000 true []) p1_c14.2.2 = some 0 := by decide +kernel
def p1_q15 : List (eCt × Nat) := (p1_c14, 0) :: p1_q14
set_option maxRecDepth 100000 in
theorem p1_g15 (sc : List Nat) : gLs sc p1_E p1_W p1_q15 := gLs_cons (by decide +kernel) (eLem_of eDat_t (p1_h36 sc) p1_ct14) (p1_g14 sc)
