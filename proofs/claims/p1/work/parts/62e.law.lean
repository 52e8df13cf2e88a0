def p1_c16 : eCt := (20000, (20003, 1, 2147483648, 2147483648), [([], 138, 568, [(2, 3, 0, 0, 0, 0), (1, 0, 0, 0, 1, 0), (1, 1, 0, 0, 2, 0), (0, 2147483648, 2147483648, 0, 20003, 0)], [], (9500, 9999, 2, 20003, 4, eAny) :: p1_F, 30000)])
set_option maxRecDepth 100000 in
theorem p1_ct16 : eMaxM (eChk (p1_s36, ([70, 76, 81, 83, 85, 130], []), p1_W, p1_E, [], [(70, 11, 1, 1, 2147483648, 2147483659)], []) 100000 true []) p1_c16.2.2 = some 0 := by decide +kernel
def p1_q17 : List (eCt × Nat) := (p1_c16, 0) :: p1_q16
set_option maxRecDepth 100000 in
theorem p1_g17 (sc : List Nat) : gLs sc p1_E p1_W p1_q17 := gLs_cons (by decide +kernel) (eLem_of eDat_t (p1_h36 sc) p1_ct16) (p1_g16 sc)
def p1_c17 : eCt := (20000, (20003, 1, 2147483648, 2147483648), [([], 138, 611, [(2, 3, 0, 0, 0, 0), (1, 0, 0, 0, 1, 0), (1, 1, 0, 0, 2, 0), (0, 2147483648, 2147483648, 0, 20003, 0)], [], (9500, 9999, 2, 20003, 4, eAny) :: p1_F, 30000)])
set_option maxRecDepth 100000 in
theorem p1_ct17 : eMaxM (eChk (p1_s36, ([8, 71, 81, 82, 132], []), p1_W, p1_E, [], [], []) 100000 true []) p1_c17.2.2 = some 0 := by decide +kernel
def p1_q18 : List (eCt × Nat) := (p1_c17, 0) :: p1_q17
set_option maxRecDepth 100000 in
theorem p1_g18 (sc : List Nat) : gLs sc p1_E p1_W p1_q18 := gLs_cons (by decide +kernel) (eLem_of eDat_t (p1_h36 sc) p1_ct17) (p1_g17 sc)
def p1_c18 : eCt := (20000, (20003, 1, 2147483648, 2147483648), [([], 138, 644, [(2, 3, 0, 0, 0, 0), (1, 0, 0, 0, 1, 0), (1, 1, 0, 0, 2, 0), (0, 2147483648, 2147483648, 0, 20003, 0)], [], (9500, 9999, 2, 20003, 4, eAny) :: p1_F, 30000)])
set_option maxRecDepth 100000 in
theorem p1_ct18 : eMaxM (eChk (p1_s36, ([51, 72, 81, 133], []), p1_W, p1_E, [], [], []) 100000 true []) p1_c18.2.2 = some 0 := by decide +kernel
def p1_q19 : List (eCt × Nat) := (p1_c18, 0) :: p1_q18
set_option maxRecDepth 100000 in
theorem p1_g19 (sc : List Nat) : gLs sc p1_E p1_W p1_q19 := gLs_cons (by decide +kernel) (eLem_of eDat_t (p1_h36 sc) p1_ct18) (p1_g18 sc)
def p1_c19 : eCt := (20000, (20003, 1, 2147483648, 2147483648), [([], 138, 677, [(2, 3, 0, 0, 0, 0), (1, 0, 0, 0, 1, 0), (1, 1, 0, 0, 2, 0), (0, 2147483648, 2147483648, 0, 20003, 0)], [], (9500, 9999, 2, 20003, 4, eAny) :: p1_F, 30000)])
set_option maxRecDepth 100000 in
theorem p1_ct19 : eMaxM (eChk (p1_s36, ([73, 81, 85, 113, 134], []), p1_W, p1_E, [], [(73, 0, 1, 2, 2147483648, 2147483651)], []) 100000 true []) p1_c19.2.2 = some 0 := by decide +kernel
def p1_q20 : List (eCt × Nat) := (p1_c19, 0) :: p1_q19
set_option maxRecDepth 100000 in
theorem p1_g20 (sc : List Nat) : gLs sc p1_E p1_W p1_q20 := gLs_cons (by decide +kernel) (eLem_of eDat_t (p1_h36 sc) p1_ct19) (p1_g19 sc)
