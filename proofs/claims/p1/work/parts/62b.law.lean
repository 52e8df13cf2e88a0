def p1_c8 : eCt := (20000, (20003, 1, 2147483648, 2147483648), [([], 138, 392, [(2, 3, 0, 0, 0, 0), (1, 0, 0, 0, 1, 0), (1, 1, 0, 0, 2, 0), (0, 2147483648, 2147483648, 0, 20003, 0)], [], (9500, 9999, 2, 20003, 4, eAny) :: p1_F, 30000)])
set_option maxRecDepth 100000 in
theorem p1_ct8 : eMaxM (eChk (p1_s36, ([12, 62, 78, 81, 87, 117, 118], []), p1_W, p1_E, [], [(62, 11, 1, 1, 2147483648, 2147483659), (62, 42, 1, 2, 2147483649, 2147483656)], []) 100000 true []) p1_c8.2.2 = some 0 := by decide +kernel
def p1_q9 : List (eCt × Nat) := (p1_c8, 0) :: p1_q8
set_option maxRecDepth 100000 in
theorem p1_g9 (sc : List Nat) : gLs sc p1_E p1_W p1_q9 := gLs_cons (by decide +kernel) (eLem_of eDat_t (p1_h36 sc) p1_ct8) (p1_g8 sc)
