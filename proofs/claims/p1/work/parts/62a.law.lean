/-! ===== the law on a fresh object: printed by wip/gen/emit1.py ===== -/
def p1_W : List (Nat × Nat × Nat) := [(0, 2, 2), (0, 4, 4), (1, 3, 3), (1, 5, 5), (1, 7, 8), (1, 11, 11), (2, 0, 1), (2, 10, 10), (3, 0, 1), (3, 8, 10), (4, 0, 1), (4, 8, 10), (5, 0, 1), (5, 8, 10), (6, 0, 7), (7, 0, 0), (8, 2, 2), (9, 2, 2), (10, 2, 2), (11, 2, 2), (12, 2, 2), (13, 2, 2), (14, 2, 2), (15, 2, 2), (16, 2, 2), (17, 2, 2), (18, 2, 2), (19, 2, 2), (22, 0, 4), (23, 0, 1), (24, 0, 1), (28, 0, 8), (29, 2, 4), (32, 0, 4), (33, 0, 1), (34, 0, 1), (35, 0, 79), (36, 1, 1), (38, 0, 8), (39, 2, 4), (42, 0, 4), (43, 0, 1), (44, 0, 1), (45, 0, 79), (46, 1, 1), (47, 0, 7), (49, 0, 8), (50, 2, 4), (53, 0, 4), (54, 0, 1), (55, 0, 1), (56, 0, 79), (57, 1, 1), (58, 0, 0), (61, 1, 3), (63, 0, 10), (63, 95, 102), (63, 231, 231), (63, 233, 234), (63, 251, 251), (63, 253, 254), (63, 271, 271), (63, 273, 274), (63, 291, 291), (63, 293, 294), (63, 311, 311), (63, 313, 314), (63, 331, 331), (63, 333, 334), (63, 351, 351), (63, 353, 354), (63, 371, 371), (63, 373, 374), (63, 391, 391), (63, 393, 394), (63, 411, 411), (63, 413, 414), (63, 431, 431), (63, 433, 434), (63, 451, 451), (63, 453, 454), (64, 0, 470), (65, 0, 470), (66, 0, 470), (67, 0, 0)]
def p1_E : List (eE × List eF) := [((0, 2147483649, 2147483649, 0, 0, 0), [])]
def p1_q0 : List (eCt × Nat) := []
theorem p1_g0 (sc : List Nat) : gLs sc p1_E p1_W p1_q0 := fun BF m0 ρ0 h q hq => by cases hq
def p1_c0 : eCt := (20000, (20003, 1, 2147483648, 2147483648), [([], 138, 136, [(2, 3, 0, 0, 0, 0), (1, 0, 0, 0, 1, 0), (1, 1, 0, 0, 2, 0), (0, 2147483648, 2147483648, 0, 20003, 0)], [], (9500, 9999, 2, 20003, 4, eAny) :: p1_F, 30000)])
set_option maxRecDepth 100000 in
theorem p1_ct0 : eMaxM (eChk (p1_s36, ([1, 9, 54, 76, 78, 81, 83, 87, 103, 104], []), p1_W, p1_E, [], [], []) 100000 true []) p1_c0.2.2 = some 0 := by decide +kernel
def p1_q1 : List (eCt × Nat) := (p1_c0, 0) :: p1_q0
set_option maxRecDepth 100000 in
theorem p1_g1 (sc : List Nat) : gLs sc p1_E p1_W p1_q1 := gLs_cons (by decide +kernel) (eLem_of eDat_t (p1_h36 sc) p1_ct0) (p1_g0 sc)
def p1_c1 : eCt := (20000, (20003, 1, 2147483648, 2147483648), [([], 138, 185, [(2, 3, 0, 0, 0, 0), (1, 0, 0, 0, 1, 0), (1, 1, 0, 0, 2, 0), (0, 2147483648, 2147483648, 0, 20003, 0)], [], (9500, 9999, 2, 20003, 4, eAny) :: p1_F, 30000)])
set_option maxRecDepth 100000 in
theorem p1_ct1 : eMaxM (eChk (p1_s36, ([8, 55, 81, 82, 106], []), p1_W, p1_E, [], [], []) 100000 true []) p1_c1.2.2 = some 0 := by decide +kernel
def p1_q2 : List (eCt × Nat) := (p1_c1, 0) :: p1_q1
set_option maxRecDepth 100000 in
theorem p1_g2 (sc : List Nat) : gLs sc p1_E p1_W p1_q2 := gLs_cons (by decide +kernel) (eLem_of eDat_t (p1_h36 sc) p1_ct1) (p1_g1 sc)
def p1_c2 : eCt := (20000, (20003, 1, 2147483648, 2147483648), [([], 138, 208, [(2, 3, 0, 0, 0, 0), (1, 0, 0, 0, 1, 0), (1, 1, 0, 0, 2, 0), (0, 2147483648, 2147483648, 0, 20003, 0)], [], (9500, 9999, 2, 20003, 4, eAny) :: p1_F, 30000)])
set_option maxRecDepth 100000 in
theorem p1_ct2 : eMaxM (eChk (p1_s36, ([8, 56, 81, 82, 108], []), p1_W, p1_E, [], [], []) 100000 true []) p1_c2.2.2 = some 0 := by decide +kernel
def p1_q3 : List (eCt × Nat) := (p1_c2, 0) :: p1_q2
set_option maxRecDepth 100000 in
theorem p1_g3 (sc : List Nat) : gLs sc p1_E p1_W p1_q3 := gLs_cons (by decide +kernel) (eLem_of eDat_t (p1_h36 sc) p1_ct2) (p1_g2 sc)
def p1_c3 : eCt := (20000, (20003, 1, 2147483648, 2147483648), [([], 138, 257, [(2, 3, 0, 0, 0, 0), (1, 0, 0, 0, 1, 0), (1, 1, 0, 0, 2, 0), (0, 2147483648, 2147483648, 0, 20003, 0)], [], (9500, 9999, 2, 20003, 4, eAny) :: p1_F, 30000)])
set_option maxRecDepth 100000 in
theorem p1_ct3 : eMaxM (eChk (p1_s36, ([8, 57, 81, 82, 109], []), p1_W, p1_E, [], [], []) 100000 true []) p1_c3.2.2 = some 0 := by decide +kernel
def p1_q4 : List (eCt × Nat) := (p1_c3, 0) :: p1_q3
set_option maxRecDepth 100000 in
theorem p1_g4 (sc : List Nat) : gLs sc p1_E p1_W p1_q4 := gLs_cons (by decide +kernel) (eLem_of eDat_t (p1_h36 sc) p1_ct3) (p1_g3 sc)
def p1_c4 : eCt := (20000, (20003, 1, 2147483648, 2147483648), [([], 138, 290, [(2, 3, 0, 0, 0, 0), (1, 0, 0, 0, 1, 0), (1, 1, 0, 0, 2, 0), (0, 2147483648, 2147483648, 0, 20003, 0)], [], (9500, 9999, 2, 20003, 4, eAny) :: p1_F, 30000)])
set_option maxRecDepth 100000 in
theorem p1_ct4 : eMaxM (eChk (p1_s36, ([8, 58, 81, 82, 110], []), p1_W, p1_E, [], [], []) 100000 true []) p1_c4.2.2 = some 0 := by decide +kernel
def p1_q5 : List (eCt × Nat) := (p1_c4, 0) :: p1_q4
set_option maxRecDepth 100000 in
theorem p1_g5 (sc : List Nat) : gLs sc p1_E p1_W p1_q5 := gLs_cons (by decide +kernel) (eLem_of eDat_t (p1_h36 sc) p1_ct4) (p1_g4 sc)
def p1_c5 : eCt := (20000, (20003, 1, 2147483648, 2147483648), [([], 138, 323, [(2, 3, 0, 0, 0, 0), (1, 0, 0, 0, 1, 0), (1, 1, 0, 0, 2, 0), (0, 2147483648, 2147483648, 0, 20003, 0)], [], (9500, 9999, 2, 20003, 4, eAny) :: p1_F, 30000)])
set_option maxRecDepth 100000 in
theorem p1_ct5 : eMaxM (eChk (p1_s36, ([34, 59, 76, 78, 81, 83, 85, 87, 111, 112], []), p1_W, p1_E, [], [(59, 23, 1, 1, 2147483648, 2147483659)], []) 100000 true []) p1_c5.2.2 = some 0 := by decide +kernel
def p1_q6 : List (eCt × Nat) := (p1_c5, 0) :: p1_q5
set_option maxRecDepth 100000 in
theorem p1_g6 (sc : List Nat) : gLs sc p1_E p1_W p1_q6 := gLs_cons (by decide +kernel) (eLem_of eDat_t (p1_h36 sc) p1_ct5) (p1_g5 sc)
def p1_c6 : eCt := (20000, (20003, 1, 2147483648, 2147483648), [([], 138, 356, [(2, 3, 0, 0, 0, 0), (1, 0, 0, 0, 1, 0), (1, 1, 0, 0, 2, 0), (0, 2147483648, 2147483648, 0, 20003, 0)], [], (9500, 9999, 2, 20003, 4, eAny) :: p1_F, 30000)])
set_option maxRecDepth 100000 in
theorem p1_ct6 : eMaxM (eChk (p1_s36, ([42, 44, 45, 46, 60, 115, 121, 122, 123, 124], []), p1_W, p1_E, [], [], []) 100000 true []) p1_c6.2.2 = some 0 := by decide +kernel
def p1_q7 : List (eCt × Nat) := (p1_c6, 0) :: p1_q6
set_option maxRecDepth 100000 in
theorem p1_g7 (sc : List Nat) : gLs sc p1_E p1_W p1_q7 := gLs_cons (by decide +kernel) (eLem_of eDat_t (p1_h36 sc) p1_ct6) (p1_g6 sc)
def p1_c7 : eCt := (20000, (20003, 1, 2147483648, 2147483648), [([], 138, 369, [(2, 3, 0, 0, 0, 0), (1, 0, 0, 0, 1, 0), (1, 1, 0, 0, 2, 0), (0, 2147483648, 2147483648, 0, 20003, 0)], [], (9500, 9999, 2, 20003, 4, eAny) :: p1_F, 30000)])
set_option maxRecDepth 100000 in
theorem p1_ct7 : eMaxM (eChk (p1_s36, ([61, 78, 81, 87, 116], []), p1_W, p1_E, [], [], []) 100000 true []) p1_c7.2.2 = some 0 := by decide +kernel
def p1_q8 : List (eCt × Nat) := (p1_c7, 0) :: p1_q7
set_option maxRecDepth 100000 in
theorem p1_g8 (sc : List Nat) : gLs sc p1_E p1_W p1_q8 := gLs_cons (by decide +kernel) (eLem_of eDat_t (p1_h36 sc) p1_ct7) (p1_g7 sc)
