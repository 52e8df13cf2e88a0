/-! ===== rows of the methods, 1: printed by wip/gen/emit11.py ===== -/
/-- LentArms.way(II)I -/
def qr63 : eSm := (72, ([], 72, 0, [(1, 49, 0, 0, 50, 0), (0, 0, 4294967295, 1, 10001, 0), (0, 0, 4294967295, 1, 10002, 0)], [], [], 16000), [((0, 2147483643, 2147483646, 3, 0, 0), []), ((0, 0, 4294967295, 1, 0, 0), [])], [], 0)
def qr63c : List eCt := []
set_option maxRecDepth 100000 in
theorem qr63t (sc : List Nat) : gSum sc qr63 := gSum_of (su := qs63) (inl := ([51, 52], [])) (cu := qr63c) (sp := [(72, 16, 1, 1, 2147483648, 2147483663)]) (L := []) (fuel := 100000) (k := 0) (lems := []) eDat_t (qh63 sc) (gCu_of (by decide +kernel)) (fun c h => by cases h) rfl (by decide +kernel) (by decide +kernel)
def qs64 : List eSm := qr63 :: qs63
set_option maxRecDepth 100000 in
theorem qh64 (sc : List Nat) : ∀ q ∈ qs64, gSum sc q ∧ eWf 10000 q.2.1 = true := gSu_cons (qr63t sc) (by decide +kernel) (qh63 sc)
/-- LentArms$Arm.copyFrom(LLentArms$Arm;)V -/
def qr64 : eSm := (2, ([], 2, 0, [(1, 33, 0, 0, 10000, 0), (1, 0, 0, 0, 10001, 0)], [], [], 16000), [((0, 2147483648, 2147483648, 0, 0, 0), [])], [(33, 0, 7)], 0)
def qr64c : List eCt := []
set_option maxRecDepth 100000 in
theorem qr64t (sc : List Nat) : gSum sc qr64 := gSum_of (su := qs64) (inl := ([], [])) (cu := qr64c) (sp := []) (L := []) (fuel := 100000) (k := 0) (lems := []) eDat_t (qh64 sc) (gCu_of (by decide +kernel)) (fun c h => by cases h) rfl (by decide +kernel) (by decide +kernel)
def qs65 : List eSm := qr64 :: qs64
set_option maxRecDepth 100000 in
theorem qh65 (sc : List Nat) : ∀ q ∈ qs65, gSum sc q ∧ eWf 10000 q.2.1 = true := gSu_cons (qr64t sc) (by decide +kernel) (qh64 sc)
/-- LentArms$Line.copyFrom(LLentArms$Line;)V -/
def qr65 : eSm := (33, ([], 33, 0, [(1, 35, 0, 0, 10000, 0), (1, 2, 0, 0, 10001, 0)], [], [], 16000), [((0, 2147483648, 2147483648, 0, 0, 0), [])], [(34, 0, 8), (35, 2, 4)], 0)
def qr65c : List eCt := []
set_option maxRecDepth 100000 in
theorem qr65t (sc : List Nat) : gSum sc qr65 := gSum_of (su := qs65) (inl := ([], [])) (cu := qr65c) (sp := []) (L := []) (fuel := 100000) (k := 0) (lems := []) eDat_t (qh65 sc) (gCu_of (by decide +kernel)) (fun c h => by cases h) rfl (by decide +kernel) (by decide +kernel)
def qs66 : List eSm := qr65 :: qs65
set_option maxRecDepth 100000 in
theorem qh66 (sc : List Nat) : ∀ q ∈ qs66, gSum sc q ∧ eWf 10000 q.2.1 = true := gSu_cons (qr65t sc) (by decide +kernel) (qh65 sc)
/-- LentArms$WayLog.copyFrom(LLentArms$WayLog;)V -/
def qr66 : eSm := (49, ([], 49, 0, [(1, 42, 0, 0, 43, 0), (1, 9, 0, 0, 10, 0)], [], [], 16000), [((0, 2147483648, 2147483648, 0, 0, 0), [])], [(41, 0, 79), (42, 1, 1)], 0)
def qr66c : List eCt := []
set_option maxRecDepth 100000 in
theorem qr66t (sc : List Nat) : gSum sc qr66 := gSum_of (su := qs66) (inl := ([], [])) (cu := qr66c) (sp := []) (L := []) (fuel := 100000) (k := 0) (lems := []) eDat_t (qh66 sc) (gCu_of (by decide +kernel)) (fun c h => by cases h) rfl (by decide +kernel) (by decide +kernel)
def qs67 : List eSm := qr66 :: qs66
set_option maxRecDepth 100000 in
theorem qh67 (sc : List Nat) : ∀ q ∈ qs67, gSum sc q ∧ eWf 10000 q.2.1 = true := gSu_cons (qr66t sc) (by decide +kernel) (qh66 sc)
/-- LentArms$Harbour.copyFrom(LLentArms$Harbour;)V -/
def qr67 : eSm := (7, ([], 7, 0, [(1, 43, 0, 0, 44, 0), (1, 10, 0, 0, 11, 0), (3, 0, 0, 0, 0, 0)], [], [], 16000), [((0, 2147483648, 2147483648, 0, 0, 0), [])], [(33, 0, 7), (34, 0, 8), (35, 2, 4), (38, 0, 4), (39, 0, 1), (40, 0, 1), (41, 0, 79), (42, 1, 1), (43, 0, 1), (43, 8, 10)], 0)
def qr67c : List eCt := [(100000, (100002, 1, 2147483648, 2147483664), [([], 7, 18, [(1, 43, 0, 0, 44, 0), (1, 10, 0, 0, 11, 0), (0, 2147483648, 2147483664, 1, 100002, 0)], [], [(44, 43, 0, 1, 0, (0, 2147483648, 2147483664, 1, 105000, 0)), (11, 10, 0, 1, 0, (0, 2147483648, 2147483664, 1, 105001, 0)), (44, 43, 0, 0, 0, (0, 0, 4294967295, 1, 105002, 0)), (11, 10, 0, 0, 0, (0, 0, 4294967295, 1, 105003, 0))], 110000)]), (200000, (200002, 1, 2147483648, 2147483660), [([], 7, 49, [(1, 43, 0, 0, 44, 0), (1, 10, 0, 0, 11, 0), (0, 2147483648, 2147483660, 1, 200002, 0)], [], [(44, 43, 0, 1, 0, (0, 2147483648, 2147483664, 1, 205000, 0)), (11, 10, 0, 1, 0, (0, 2147483648, 2147483664, 1, 205001, 0)), (44, 43, 0, 0, 0, (0, 0, 4294967295, 1, 205002, 0)), (11, 10, 0, 0, 0, (0, 0, 4294967295, 1, 205003, 0))], 210000)])]
set_option maxRecDepth 100000 in
theorem qr67t (sc : List Nat) : gSum sc qr67 := gSum_of (su := qs67) (inl := ([], [])) (cu := qr67c) (sp := []) (L := []) (fuel := 100000) (k := 0) (lems := []) eDat_t (qh67 sc) (gCu_of (by decide +kernel)) (fun c h => by cases h) rfl (by decide +kernel) (by decide +kernel)
def qs68 : List eSm := qr67 :: qs67
set_option maxRecDepth 100000 in
theorem qh68 (sc : List Nat) : ∀ q ∈ qs68, gSum sc q ∧ eWf 10000 q.2.1 = true := gSu_cons (qr67t sc) (by decide +kernel) (qh67 sc)
/-- LentArms$Harbour.goOnWorking(LLentArms$Arm;)V -/
def qr68 : eSm := (17, ([], 17, 0, [(1, 43, 0, 0, 44, 0), (1, 33, 0, 0, 10001, 0)], [], [], 16000), [((0, 2147483648, 2147483648, 0, 0, 0), [])], [(33, 2, 3), (33, 5, 5), (35, 3, 3), (43, 8, 9)], 0)
def qr68c : List eCt := []
set_option maxRecDepth 100000 in
theorem qr68t (sc : List Nat) : gSum sc qr68 := gSum_of (su := qs68) (inl := ([], [])) (cu := qr68c) (sp := []) (L := []) (fuel := 100000) (k := 0) (lems := []) eDat_t (qh68 sc) (gCu_of (by decide +kernel)) (fun c h => by cases h) rfl (by decide +kernel) (by decide +kernel)
def qs69 : List eSm := qr68 :: qs68
set_option maxRecDepth 100000 in
theorem qh69 (sc : List Nat) : ∀ q ∈ qs69, gSum sc q ∧ eWf 10000 q.2.1 = true := gSu_cons (qr68t sc) (by decide +kernel) (qh68 sc)
/-- LentArms$Harbour.goOnTheWay(LLentArms$Arm;)V -/
def qr69 : eSm := (16, ([], 16, 0, [(1, 43, 0, 0, 44, 0), (1, 33, 0, 0, 10001, 0)], [], [], 16000), [((0, 2147483648, 2147483648, 0, 0, 0), [])], [(33, 2, 3), (35, 4, 4)], 0)
def qr69c : List eCt := []
set_option maxRecDepth 100000 in
theorem qr69t (sc : List Nat) : gSum sc qr69 := gSum_of (su := qs69) (inl := ([], [])) (cu := qr69c) (sp := []) (L := []) (fuel := 100000) (k := 0) (lems := []) eDat_t (qh69 sc) (gCu_of (by decide +kernel)) (fun c h => by cases h) rfl (by decide +kernel) (by decide +kernel)
def qs70 : List eSm := qr69 :: qs69
set_option maxRecDepth 100000 in
theorem qh70 (sc : List Nat) : ∀ q ∈ qs70, gSum sc q ∧ eWf 10000 q.2.1 = true := gSu_cons (qr69t sc) (by decide +kernel) (qh69 sc)
/-- LentArms$Harbour.goOn()V -/
def qr70 : eSm := (15, ([], 15, 0, [(1, 43, 0, 0, 44, 0), (3, 0, 0, 0, 0, 0), (3, 0, 0, 0, 0, 0)], [], [], 16000), [((0, 2147483648, 2147483648, 0, 0, 0), [])], [(33, 2, 3), (33, 5, 5), (35, 3, 4), (43, 8, 9)], 0)
def qr70c : List eCt := [(100000, (100001, 1, 2147483648, 2147483665), [([], 15, 2, [(1, 43, 0, 0, 44, 0), (0, 2147483648, 2147483665, 1, 100001, 0), (3, 0, 0, 0, 0, 0)], [], [], 110000)])]
set_option maxRecDepth 100000 in
theorem qr70t (sc : List Nat) : gSum sc qr70 := gSum_of (su := qs70) (inl := ([], [])) (cu := qr70c) (sp := []) (L := []) (fuel := 100000) (k := 0) (lems := []) eDat_t (qh70 sc) (gCu_of (by decide +kernel)) (fun c h => by cases h) rfl (by decide +kernel) (by decide +kernel)
def qs71 : List eSm := qr70 :: qs70
set_option maxRecDepth 100000 in
theorem qh71 (sc : List Nat) : ∀ q ∈ qs71, gSum sc q ∧ eWf 10000 q.2.1 = true := gSu_cons (qr70t sc) (by decide +kernel) (qh70 sc)
/-- LentArms$Harbour.takeLoads()V -/
def qr71 : eSm := (18, ([], 18, 0, [(1, 43, 0, 0, 44, 0), (3, 0, 0, 0, 0, 0), (3, 0, 0, 0, 0, 0)], [], [], 16000), [((0, 2147483648, 2147483648, 0, 0, 0), [])], [(33, 2, 3), (34, 0, 8), (35, 2, 2)], 0)
def qr71c : List eCt := [(100000, (100001, 1, 2147483648, 2147483665), [([], 18, 2, [(1, 43, 0, 0, 44, 0), (0, 2147483648, 2147483665, 1, 100001, 0), (3, 0, 0, 0, 0, 0)], [], [], 110000)])]
set_option maxRecDepth 100000 in
theorem qr71t (sc : List Nat) : gSum sc qr71 := gSum_of (su := qs71) (inl := ([36], [])) (cu := qr71c) (sp := []) (L := []) (fuel := 100000) (k := 0) (lems := []) eDat_t (qh71 sc) (gCu_of (by decide +kernel)) (fun c h => by cases h) rfl (by decide +kernel) (by decide +kernel)
def qs72 : List eSm := qr71 :: qs71
set_option maxRecDepth 100000 in
theorem qh72 (sc : List Nat) : ∀ q ∈ qs72, gSum sc q ∧ eWf 10000 q.2.1 = true := gSu_cons (qr71t sc) (by decide +kernel) (qh71 sc)
/-- LentArms$WayLog.note(IIIII)V -/
def qr72 : eSm := (50, ([], 50, 0, [(1, 42, 0, 0, 43, 0), (0, 2147483648, 2147483664, 1, 10001, 0), (0, 2147483648, 2147483659, 1, 10002, 0), (0, 2147483648, 2147483659, 1, 10003, 0), (0, 0, 4294967295, 1, 10004, 0), (0, 2147483649, 2147483651, 1, 10005, 0), (3, 0, 0, 0, 0, 0)], [], [], 16000), [((0, 2147483648, 2147483648, 0, 0, 0), [])], [(41, 0, 79), (42, 1, 1)], 1)
def qr72c : List eCt := []
set_option maxRecDepth 100000 in
theorem qr72t (sc : List Nat) : gSum sc qr72 := gSum_of (su := qs72) (inl := ([], [])) (cu := qr72c) (sp := []) (L := []) (fuel := 100000) (k := 1) (lems := []) eDat_t (qh72 sc) (gCu_of (by decide +kernel)) (fun c h => by cases h) rfl (by decide +kernel) (by decide +kernel)
def qs73 : List eSm := qr72 :: qs72
set_option maxRecDepth 100000 in
theorem qh73 (sc : List Nat) : ∀ q ∈ qs73, gSum sc q ∧ eWf 10000 q.2.1 = true := gSu_cons (qr72t sc) (by decide +kernel) (qh72 sc)
/-- LentArms$Arm.setOut(II)V -/
def qr73 : eSm := (3, ([], 3, 0, [(1, 33, 0, 0, 10000, 0), (0, 2147483648, 2147483659, 1, 10001, 0), (0, 0, 4294967295, 1, 10002, 0)], [], [], 16000), [((0, 2147483648, 2147483648, 0, 0, 0), [])], [(33, 1, 3), (33, 6, 7)], 0)
def qr73c : List eCt := []
set_option maxRecDepth 100000 in
theorem qr73t (sc : List Nat) : gSum sc qr73 := gSum_of (su := qs73) (inl := ([], [])) (cu := qr73c) (sp := []) (L := []) (fuel := 100000) (k := 0) (lems := []) eDat_t (qh73 sc) (gCu_of (by decide +kernel)) (fun c h => by cases h) rfl (by decide +kernel) (by decide +kernel)
def qs74 : List eSm := qr73 :: qs73
set_option maxRecDepth 100000 in
theorem qh74 (sc : List Nat) : ∀ q ∈ qs74, gSum sc q ∧ eWf 10000 q.2.1 = true := gSu_cons (qr73t sc) (by decide +kernel) (qh73 sc)
/-- LentArms$Harbour.depart(III)V -/
def qr74 : eSm := (11, ([], 11, 0, [(1, 43, 0, 0, 44, 0), (0, 2147483648, 2147483664, 1, 10001, 0), (0, 2147483648, 2147483659, 1, 10002, 0), (0, 2147483649, 2147483651, 1, 10003, 0), (3, 0, 0, 0, 0, 0), (3, 0, 0, 0, 0, 0)], [], [], 16000), [((0, 2147483648, 2147483648, 0, 0, 0), [])], [(33, 1, 3), (33, 6, 7), (35, 4, 4), (41, 0, 79), (42, 1, 1)], 1)
def qr74c : List eCt := []
set_option maxRecDepth 100000 in
theorem qr74t (sc : List Nat) : gSum sc qr74 := gSum_of (su := qs74) (inl := ([77], [])) (cu := qr74c) (sp := []) (L := []) (fuel := 100000) (k := 1) (lems := []) eDat_t (qh74 sc) (gCu_of (by decide +kernel)) (fun c h => by cases h) rfl (by decide +kernel) (by decide +kernel)
def qs75 : List eSm := qr74 :: qs74
set_option maxRecDepth 100000 in
theorem qh75 (sc : List Nat) : ∀ q ∈ qs75, gSum sc q ∧ eWf 10000 q.2.1 = true := gSu_cons (qr74t sc) (by decide +kernel) (qh74 sc)
/-- LentArms$Harbour.goHome()V -/
def qr75 : eSm := (19, ([], 19, 0, [(1, 43, 0, 0, 44, 0), (3, 0, 0, 0, 0, 0), (3, 0, 0, 0, 0, 0)], [], [], 16000), [((0, 2147483648, 2147483648, 0, 0, 0), [])], [(33, 1, 3), (33, 6, 7), (35, 4, 4), (41, 0, 79), (42, 1, 1)], 18)
def qr75c : List eCt := [(100000, (100001, 1, 2147483648, 2147483665), [([], 19, 2, [(1, 43, 0, 0, 44, 0), (0, 2147483648, 2147483665, 1, 100001, 0), (3, 0, 0, 0, 0, 0)], [], [], 110000)])]
set_option maxRecDepth 100000 in
theorem qr75t (sc : List Nat) : gSum sc qr75 := gSum_of (su := qs75) (inl := ([4], [])) (cu := qr75c) (sp := []) (L := []) (fuel := 100000) (k := 18) (lems := []) eDat_t (qh75 sc) (gCu_of (by decide +kernel)) (fun c h => by cases h) rfl (by decide +kernel) (by decide +kernel)
def qs76 : List eSm := qr75 :: qs75
set_option maxRecDepth 100000 in
theorem qh76 (sc : List Nat) : ∀ q ∈ qs76, gSum sc q ∧ eWf 10000 q.2.1 = true := gSu_cons (qr75t sc) (by decide +kernel) (qh75 sc)
/-- LentArms$Harbour.waitingTogether()I -/
def qr76 : eSm := (27, ([], 27, 0, [(1, 43, 0, 0, 44, 0), (3, 0, 0, 0, 0, 0), (3, 0, 0, 0, 0, 0)], [], [], 16000), [((0, 0, 4294967295, 1, 0, 0), [])], [], 0)
def qr76c : List eCt := [(100000, (100002, 1, 2147483648, 2147483660), [([], 27, 4, [(1, 43, 0, 0, 44, 0), (0, 0, 4294967295, 1, 100001, 0), (0, 2147483648, 2147483660, 1, 100002, 0)], [], [], 110000)])]
set_option maxRecDepth 100000 in
theorem qr76t (sc : List Nat) : gSum sc qr76 := gSum_of (su := qs76) (inl := ([], [])) (cu := qr76c) (sp := []) (L := []) (fuel := 100000) (k := 0) (lems := []) eDat_t (qh76 sc) (gCu_of (by decide +kernel)) (fun c h => by cases h) rfl (by decide +kernel) (by decide +kernel)
def qs77 : List eSm := qr76 :: qs76
set_option maxRecDepth 100000 in
theorem qh77 (sc : List Nat) : ∀ q ∈ qs77, gSum sc q ∧ eWf 10000 q.2.1 = true := gSu_cons (qr76t sc) (by decide +kernel) (qh76 sc)
/-- LentArms$Harbour.neediest(II)I -/
def qr77 : eSm := (24, ([], 24, 0, [(1, 43, 0, 0, 44, 0), (0, 2147483648, 2147483656, 4, 10001, 0), (0, 2147483652, 2147483660, 4, 10002, 0), (3, 0, 0, 0, 0, 0), (3, 0, 0, 0, 0, 0), (3, 0, 0, 0, 0, 0)], [], [], 16000), [((0, 2147483647, 2147483647, 0, 0, 0), []), ((0, 2147483648, 2147483659, 1, 0, 0), [])], [], 0)
def qr77c : List eCt := [(100000, (100005, 1, 2147483648, 2147483660), [([], 24, 8, [(1, 43, 0, 0, 44, 0), (0, 2147483648, 2147483656, 4, 100001, 0), (0, 2147483652, 2147483660, 4, 100002, 0), (0, 2147483647, 2147483647, 0, 100003, 0), (0, 2147483649, 2147483649, 0, 100004, 0), (0, 2147483648, 2147483660, 1, 100005, 0)], [], [], 110000), ([], 24, 8, [(1, 43, 0, 0, 44, 0), (0, 2147483648, 2147483656, 4, 100001, 0), (0, 2147483652, 2147483660, 4, 100002, 0), (0, 2147483648, 2147483659, 1, 100003, 0), (0, 0, 4294967295, 1, 100004, 0), (0, 2147483649, 2147483660, 1, 100005, 0)], [], [(38, 37, 1, 100003, 0, (1, 35, 0, 0, 105000, 0))], 110000)])]
set_option maxRecDepth 100000 in
theorem qr77t (sc : List Nat) : gSum sc qr77 := gSum_of (su := qs77) (inl := ([37], [])) (cu := qr77c) (sp := []) (L := []) (fuel := 100000) (k := 0) (lems := []) eDat_t (qh77 sc) (gCu_of (by decide +kernel)) (fun c h => by cases h) rfl (by decide +kernel) (by decide +kernel)
def qs78 : List eSm := qr77 :: qs77
set_option maxRecDepth 100000 in
theorem qh78 (sc : List Nat) : ∀ q ∈ qs78, gSum sc q ∧ eWf 10000 q.2.1 = true := gSu_cons (qr77t sc) (by decide +kernel) (qh77 sc)
/-- LentArms$Harbour.helperFor(IZ)I -/
def qr78 : eSm := (25, ([], 25, 0, [(1, 43, 0, 0, 44, 0), (0, 2147483648, 2147483659, 1, 10001, 0), (0, 2147483648, 2147483649, 1, 10002, 0), (3, 0, 0, 0, 0, 0), (3, 0, 0, 0, 0, 0)], [], [], 16000), [((0, 2147483647, 2147483647, 0, 0, 0), []), ((0, 2147483648, 2147483664, 1, 0, 0), [])], [], 0)
def qr78c : List eCt := [(100000, (100003, 1, 2147483648, 2147483665), [([], 25, 2, [(1, 43, 0, 0, 44, 0), (0, 2147483648, 2147483659, 1, 100001, 0), (0, 2147483648, 2147483649, 1, 100002, 0), (0, 2147483648, 2147483665, 1, 100003, 0), (3, 0, 0, 0, 0, 0)], [], [], 110000)])]
set_option maxRecDepth 100000 in
theorem qr78t (sc : List Nat) : gSum sc qr78 := gSum_of (su := qs78) (inl := ([77], [])) (cu := qr78c) (sp := []) (L := []) (fuel := 100000) (k := 0) (lems := []) eDat_t (qh78 sc) (gCu_of (by decide +kernel)) (fun c h => by cases h) rfl (by decide +kernel) (by decide +kernel)
def qs79 : List eSm := qr78 :: qs78
set_option maxRecDepth 100000 in
theorem qh79 (sc : List Nat) : ∀ q ∈ qs79, gSum sc q ∧ eWf 10000 q.2.1 = true := gSu_cons (qr78t sc) (by decide +kernel) (qh78 sc)
/-- LentArms$Harbour.lend(III)V -/
def qr79 : eSm := (22, ([], 22, 0, [(1, 43, 0, 0, 44, 0), (0, 2147483648, 2147483656, 4, 10001, 0), (0, 2147483652, 2147483660, 4, 10002, 0), (0, 2147483649, 2147483650, 1, 10003, 0), (3, 0, 0, 0, 0, 0), (3, 0, 0, 0, 0, 0), (3, 0, 0, 0, 0, 0)], [], [], 16000), [((0, 2147483648, 2147483648, 0, 0, 0), [])], [(33, 1, 3), (33, 6, 7), (35, 4, 4), (41, 0, 79), (42, 1, 1)], 18)
def qr79c : List eCt := [(100000, (100004, 1, 2147483648, 2147483665), [([], 22, 3, [(1, 43, 0, 0, 44, 0), (0, 2147483648, 2147483656, 4, 100001, 0), (0, 2147483652, 2147483660, 4, 100002, 0), (0, 2147483649, 2147483650, 1, 100003, 0), (0, 2147483648, 2147483648, 0, 100004, 0), (3, 0, 0, 0, 0, 0), (3, 0, 0, 0, 0, 0)], [], [], 110000), ([], 22, 3, [(1, 43, 0, 0, 44, 0), (0, 2147483648, 2147483656, 4, 100001, 0), (0, 2147483652, 2147483660, 4, 100002, 0), (0, 2147483649, 2147483650, 1, 100003, 0), (0, 2147483649, 2147483665, 1, 100004, 0), (0, 2147483648, 2147483659, 1, 100005, 0), (0, 2147483648, 2147483664, 1, 100006, 0)], [], [(44, 43, 0, 1, 0, (0, 2147483649, 2147483665, 1, 105000, 0))], 110000)])]
set_option maxRecDepth 100000 in
theorem qr79t (sc : List Nat) : gSum sc qr79 := gSum_of (su := qs79) (inl := ([], [])) (cu := qr79c) (sp := []) (L := []) (fuel := 100000) (k := 18) (lems := []) eDat_t (qh79 sc) (gCu_of (by decide +kernel)) (fun c h => by cases h) rfl (by decide +kernel) (by decide +kernel)
def qs80 : List eSm := qr79 :: qs79
set_option maxRecDepth 100000 in
theorem qh80 (sc : List Nat) : ∀ q ∈ qs80, gSum sc q ∧ eWf 10000 q.2.1 = true := gSu_cons (qr79t sc) (by decide +kernel) (qh79 sc)
/-- LentArms$Harbour.planNextLook(IZ)V -/
def qr80 : eSm := (23, ([], 23, 0, [(1, 43, 0, 0, 44, 0), (0, 2147483648, 2147483649, 1, 10001, 0), (0, 2147483648, 2147483649, 1, 10002, 0)], [], [], 16000), [((0, 2147483648, 2147483648, 0, 0, 0), [])], [(39, 0, 1), (40, 0, 1)], 0)
def qr80c : List eCt := []
set_option maxRecDepth 100000 in
theorem qr80t (sc : List Nat) : gSum sc qr80 := gSum_of (su := qs80) (inl := ([], [])) (cu := qr80c) (sp := []) (L := []) (fuel := 100000) (k := 0) (lems := []) eDat_t (qh80 sc) (gCu_of (by decide +kernel)) (fun c h => by cases h) rfl (by decide +kernel) (by decide +kernel)
def qs81 : List eSm := qr80 :: qs80
set_option maxRecDepth 100000 in
theorem qh81 (sc : List Nat) : ∀ q ∈ qs81, gSum sc q ∧ eWf 10000 q.2.1 = true := gSu_cons (qr80t sc) (by decide +kernel) (qh80 sc)
/-- LentArms$Harbour.lookOverPort()V -/
def qr81 : eSm := (21, ([], 21, 0, [(1, 43, 0, 0, 44, 0), (3, 0, 0, 0, 0, 0)], [], [], 16000), [((0, 2147483648, 2147483648, 0, 0, 0), [])], [(33, 1, 3), (33, 6, 7), (35, 4, 4), (39, 0, 1), (40, 0, 1), (41, 0, 79), (42, 1, 1)], 18)
def qr81c : List eCt := []
set_option maxRecDepth 100000 in
theorem qr81t (sc : List Nat) : gSum sc qr81 := gSum_of (su := qs81) (inl := ([], [])) (cu := qr81c) (sp := []) (L := []) (fuel := 100000) (k := 18) (lems := []) eDat_t (qh81 sc) (gCu_of (by decide +kernel)) (fun c h => by cases h) rfl (by decide +kernel) (by decide +kernel)
def qs82 : List eSm := qr81 :: qs81
set_option maxRecDepth 100000 in
theorem qh82 (sc : List Nat) : ∀ q ∈ qs82, gSum sc q ∧ eWf 10000 q.2.1 = true := gSu_cons (qr81t sc) (by decide +kernel) (qh81 sc)
/-- LentArms$Harbour.lookInBasins()V -/
def qr82 : eSm := (20, ([], 20, 0, [(1, 43, 0, 0, 44, 0), (3, 0, 0, 0, 0, 0), (3, 0, 0, 0, 0, 0)], [], [], 16000), [((0, 2147483648, 2147483648, 0, 0, 0), [])], [(33, 1, 3), (33, 6, 7), (35, 4, 4), (39, 0, 1), (40, 0, 1), (41, 0, 79), (42, 1, 1)], 72)
def qr82c : List eCt := [(100000, (100002, 1, 2147483648, 2147483651), [([], 20, 10, [(1, 43, 0, 0, 44, 0), (5, 2147483648, 3221225472, 0, 100001, 0), (0, 2147483648, 2147483651, 1, 100002, 0)], [], [], 110000)])]
set_option maxRecDepth 100000 in
theorem qr82t (sc : List Nat) : gSum sc qr82 := gSum_of (su := qs82) (inl := ([], [])) (cu := qr82c) (sp := []) (L := []) (fuel := 100000) (k := 72) (lems := []) eDat_t (qh82 sc) (gCu_of (by decide +kernel)) (fun c h => by cases h) rfl (by decide +kernel) (by decide +kernel)
def qs83 : List eSm := qr82 :: qs82
set_option maxRecDepth 100000 in
theorem qh83 (sc : List Nat) : ∀ q ∈ qs83, gSum sc q ∧ eWf 10000 q.2.1 = true := gSu_cons (qr82t sc) (by decide +kernel) (qh82 sc)
/-- LentArms$Harbour.tick()V -/
def qr83 : eSm := (14, ([], 14, 0, [(1, 43, 0, 0, 44, 0)], [], [], 16000), [((0, 2147483648, 2147483648, 0, 0, 0), [])], [(33, 1, 3), (33, 5, 7), (34, 0, 8), (35, 2, 4), (39, 0, 1), (40, 0, 1), (41, 0, 79), (42, 1, 1), (43, 0, 0), (43, 8, 10)], 108)
def qr83c : List eCt := []
set_option maxRecDepth 100000 in
theorem qr83t (sc : List Nat) : gSum sc qr83 := gSum_of (su := qs83) (inl := ([], [])) (cu := qr83c) (sp := []) (L := []) (fuel := 100000) (k := 108) (lems := []) eDat_t (qh83 sc) (gCu_of (by decide +kernel)) (fun c h => by cases h) rfl (by decide +kernel) (by decide +kernel)
def qs84 : List eSm := qr83 :: qs83
set_option maxRecDepth 100000 in
theorem qh84 (sc : List Nat) : ∀ q ∈ qs84, gSum sc q ∧ eWf 10000 q.2.1 = true := gSu_cons (qr83t sc) (by decide +kernel) (qh83 sc)
/-- LentArms$Harbour.pass(I)V -/
def qr84 : eSm := (13, ([], 13, 0, [(1, 43, 0, 0, 44, 0), (0, 2147483649, 2147483848, 1, 10001, 0), (3, 0, 0, 0, 0, 0)], [], [], 16000), [((0, 2147483648, 2147483648, 0, 0, 0), [])], [(33, 1, 3), (33, 5, 7), (34, 0, 8), (35, 2, 4), (39, 0, 1), (40, 0, 1), (41, 0, 79), (42, 1, 1), (43, 0, 0), (43, 8, 10)], 21708)
def qr84c : List eCt := [(100000, (100002, 1, 2147483648, 2147483848), [([], 13, 2, [(1, 43, 0, 0, 44, 0), (0, 2147483649, 2147483848, 1, 100001, 0), (0, 2147483648, 2147483848, 1, 100002, 0)], [], [], 110000)])]
set_option maxRecDepth 100000 in
theorem qr84t (sc : List Nat) : gSum sc qr84 := gSum_of (su := qs84) (inl := ([], [])) (cu := qr84c) (sp := []) (L := []) (fuel := 100000) (k := 21708) (lems := []) eDat_t (qh84 sc) (gCu_of (by decide +kernel)) (fun c h => by cases h) rfl (by decide +kernel) (by decide +kernel)
def qs85 : List eSm := qr84 :: qs84
set_option maxRecDepth 100000 in
theorem qh85 (sc : List Nat) : ∀ q ∈ qs85, gSum sc q ∧ eWf 10000 q.2.1 = true := gSu_cons (qr84t sc) (by decide +kernel) (qh84 sc)
/-- LentArms.ifRun(II)I -/
def qr85 : eSm := (73, ([], 73, 0, [(1, 49, 0, 0, 50, 0), (0, 0, 4294967295, 1, 10001, 0), (0, 0, 4294967295, 1, 10002, 0)], [], [], 16000), [((0, 2147483646, 2147483646, 0, 0, 0), []), ((0, 0, 4294967295, 1, 0, 0), [])], [(33, 0, 7), (34, 0, 8), (35, 2, 4), (38, 0, 4), (39, 0, 1), (40, 0, 1), (41, 0, 79), (42, 1, 1), (43, 0, 1), (43, 8, 10)], 21708)
def qr85c : List eCt := []
set_option maxRecDepth 100000 in
theorem qr85t (sc : List Nat) : gSum sc qr85 := gSum_of (su := qs85) (inl := ([], [])) (cu := qr85c) (sp := []) (L := []) (fuel := 100000) (k := 21708) (lems := []) eDat_t (qh85 sc) (gCu_of (by decide +kernel)) (fun c h => by cases h) rfl (by decide +kernel) (by decide +kernel)
def qs86 : List eSm := qr85 :: qs85
set_option maxRecDepth 100000 in
theorem qh86 (sc : List Nat) : ∀ q ∈ qs86, gSum sc q ∧ eWf 10000 q.2.1 = true := gSu_cons (qr85t sc) (by decide +kernel) (qh85 sc)
/-- LentArms.bestHome(I)I -/
def qr86 : eSm := (74, ([], 74, 0, [(1, 49, 0, 0, 50, 0), (0, 0, 4294967295, 1, 10001, 0), (3, 0, 0, 0, 0, 0), (3, 0, 0, 0, 0, 0), (3, 0, 0, 0, 0, 0)], [], [], 16000), [((0, 2147483646, 2147483646, 0, 0, 0), []), ((0, 2147483648, 2147483659, 1, 0, 0), [])], [(33, 0, 7), (34, 0, 8), (35, 2, 4), (38, 0, 4), (39, 0, 1), (40, 0, 1), (41, 0, 79), (42, 1, 1), (43, 0, 1), (43, 8, 10)], 282204)
def qr86c : List eCt := [(100000, (100004, 1, 2147483648, 2147483660), [([], 74, 21, [(1, 49, 0, 0, 50, 0), (0, 2147483649, 2147483708, 1, 100001, 0), (0, 2147483647, 2147483647, 0, 100002, 0), (0, 2147483648, 2147483648, 0, 100003, 0), (0, 2147483648, 2147483648, 0, 100004, 0)], [], [], 110000), ([], 74, 21, [(1, 49, 0, 0, 50, 0), (0, 2147483649, 2147483708, 1, 100001, 0), (0, 2147483648, 2147483659, 1, 100002, 0), (0, 0, 4294967295, 1, 100003, 0), (0, 2147483649, 2147483660, 1, 100004, 0)], [], [(44, 43, 0, 10, 0, (0, 0, 4294967295, 1, 105000, 0)), (44, 43, 0, 1, 0, (0, 2147483649, 2147483665, 1, 105001, 0))], 110000)])]
set_option maxRecDepth 100000 in
theorem qr86t (sc : List Nat) : gSum sc qr86 := gSum_of (su := qs86) (inl := ([1, 9], [])) (cu := qr86c) (sp := []) (L := []) (fuel := 100000) (k := 282204) (lems := []) eDat_t (qh86 sc) (gCu_of (by decide +kernel)) (fun c h => by cases h) rfl (by decide +kernel) (by decide +kernel)
def qs87 : List eSm := qr86 :: qs86
set_option maxRecDepth 100000 in
theorem qh87 (sc : List Nat) : ∀ q ∈ qs87, gSum sc q ∧ eWf 10000 q.2.1 = true := gSu_cons (qr86t sc) (by decide +kernel) (qh86 sc)
/-- LentArms$Harbour.armsAway()I -/
def qr87 : eSm := (31, ([], 31, 0, [(1, 10, 0, 0, 11, 0), (3, 0, 0, 0, 0, 0), (3, 0, 0, 0, 0, 0)], [], [], 16000), [((0, 0, 4294967295, 1, 0, 0), [])], [], 0)
def qr87c : List eCt := [(100000, (100002, 1, 2147483648, 2147483664), [([], 31, 4, [(1, 10, 0, 0, 11, 0), (0, 0, 4294967295, 1, 100001, 0), (0, 2147483648, 2147483664, 1, 100002, 0)], [], [], 110000)])]
set_option maxRecDepth 100000 in
theorem qr87t (sc : List Nat) : gSum sc qr87 := gSum_of (su := qs87) (inl := ([], [])) (cu := qr87c) (sp := []) (L := []) (fuel := 100000) (k := 0) (lems := []) eDat_t (qh87 sc) (gCu_of (by decide +kernel)) (fun c h => by cases h) rfl (by decide +kernel) (by decide +kernel)
def qs88 : List eSm := qr87 :: qs87
set_option maxRecDepth 100000 in
theorem qh88 (sc : List Nat) : ∀ q ∈ qs88, gSum sc q ∧ eWf 10000 q.2.1 = true := gSu_cons (qr87t sc) (by decide +kernel) (qh87 sc)
/-- LentArms$Harbour.armsThat(I)I -/
def qr88 : eSm := (28, ([], 28, 0, [(1, 10, 0, 0, 11, 0), (0, 2147483648, 2147483650, 1, 10001, 0), (3, 0, 0, 0, 0, 0), (3, 0, 0, 0, 0, 0)], [], [], 16000), [((0, 0, 4294967295, 1, 0, 0), [])], [], 0)
def qr88c : List eCt := [(100000, (100003, 1, 2147483648, 2147483664), [([], 28, 4, [(1, 10, 0, 0, 11, 0), (0, 2147483648, 2147483650, 1, 100001, 0), (0, 0, 4294967295, 1, 100002, 0), (0, 2147483648, 2147483664, 1, 100003, 0)], [], [], 110000)])]
set_option maxRecDepth 100000 in
theorem qr88t (sc : List Nat) : gSum sc qr88 := gSum_of (su := qs88) (inl := ([], [])) (cu := qr88c) (sp := []) (L := []) (fuel := 100000) (k := 0) (lems := []) eDat_t (qh88 sc) (gCu_of (by decide +kernel)) (fun c h => by cases h) rfl (by decide +kernel) (by decide +kernel)
def qs89 : List eSm := qr88 :: qs88
set_option maxRecDepth 100000 in
theorem qh89 (sc : List Nat) : ∀ q ∈ qs89, gSum sc q ∧ eWf 10000 q.2.1 = true := gSu_cons (qr88t sc) (by decide +kernel) (qh88 sc)
/-- LentArms.count(I)I -/
def qr89 : eSm := (75, ([], 75, 0, [(1, 49, 0, 0, 50, 0), (0, 0, 4294967295, 1, 10001, 0)], [], [], 16000), [((0, 0, 4294967295, 1, 0, 0), []), ((0, 2147483646, 2147483646, 0, 0, 0), [])], [], 0)
def qr89c : List eCt := []
set_option maxRecDepth 100000 in
theorem qr89t (sc : List Nat) : gSum sc qr89 := gSum_of (su := qs89) (inl := ([], [])) (cu := qr89c) (sp := []) (L := []) (fuel := 100000) (k := 0) (lems := []) eDat_t (qh89 sc) (gCu_of (by decide +kernel)) (fun c h => by cases h) rfl (by decide +kernel) (by decide +kernel)
def qs90 : List eSm := qr89 :: qs89
set_option maxRecDepth 100000 in
theorem qh90 (sc : List Nat) : ∀ q ∈ qs90, gSum sc q ∧ eWf 10000 q.2.1 = true := gSu_cons (qr89t sc) (by decide +kernel) (qh89 sc)
/-- LentArmsModel.copies([II[II)V -/
def qr90 : eSm := (86, ([], 86, 0, [(1, 50, 0, 0, 51, 0), (0, 2147483648, 2147483648, 0, 10001, 0), (1, 52, 0, 0, 53, 0), (0, 2147483648, 2147483648, 0, 10003, 0), (3, 0, 0, 0, 0, 0)], [], [], 16000), [((0, 2147483648, 2147483648, 0, 0, 0), [])], [(52, 0, 470)], 0)
def qr90c : List eCt := [(100000, (100004, 1, 2147483648, 2147484119), [([], 86, 3, [(1, 50, 0, 0, 51, 0), (0, 2147483648, 2147483648, 0, 100001, 0), (1, 52, 0, 0, 53, 0), (0, 2147483648, 2147483648, 0, 100003, 0), (0, 2147483648, 2147484119, 1, 100004, 0)], [], [], 110000)])]
set_option maxRecDepth 100000 in
theorem qr90t (sc : List Nat) : gSum sc qr90 := gSum_of (su := qs90) (inl := ([], [])) (cu := qr90c) (sp := [(86, 11, 1, 4, 8589934592, 0)]) (L := []) (fuel := 100000) (k := 0) (lems := []) eDat_t (qh90 sc) (gCu_of (by decide +kernel)) (fun c h => by cases h) rfl (by decide +kernel) (by decide +kernel)
def qs91 : List eSm := qr90 :: qs90
set_option maxRecDepth 100000 in
theorem qh91 (sc : List Nat) : ∀ q ∈ qs91, gSum sc q ∧ eWf 10000 q.2.1 = true := gSu_cons (qr90t sc) (by decide +kernel) (qh90 sc)
/-- LentArmsModel.copies([II[II)V -/
def qr91 : eSm := (86, ([], 86, 0, [(1, 50, 0, 0, 51, 0), (0, 2147483648, 2147483648, 0, 10001, 0), (1, 52, 0, 0, 53, 0), (0, 2147485061, 2147485061, 0, 10003, 0), (3, 0, 0, 0, 0, 0)], [], [], 16000), [((0, 2147483648, 2147483648, 0, 0, 0), [])], [(52, 1413, 1883)], 0)
def qr91c : List eCt := [(100000, (100004, 1, 2147483648, 2147484119), [([], 86, 3, [(1, 50, 0, 0, 51, 0), (0, 2147483648, 2147483648, 0, 100001, 0), (1, 52, 0, 0, 53, 0), (0, 2147485061, 2147485061, 0, 100003, 0), (0, 2147483648, 2147484119, 1, 100004, 0)], [], [], 110000)])]
set_option maxRecDepth 100000 in
theorem qr91t (sc : List Nat) : gSum sc qr91 := gSum_of (su := qs91) (inl := ([], [])) (cu := qr91c) (sp := [(86, 11, 1, 4, 8589934592, 0)]) (L := []) (fuel := 100000) (k := 0) (lems := []) eDat_t (qh91 sc) (gCu_of (by decide +kernel)) (fun c h => by cases h) rfl (by decide +kernel) (by decide +kernel)
def qs92 : List eSm := qr91 :: qs91
set_option maxRecDepth 100000 in
theorem qh92 (sc : List Nat) : ∀ q ∈ qs92, gSum sc q ∧ eWf 10000 q.2.1 = true := gSu_cons (qr91t sc) (by decide +kernel) (qh91 sc)
/-- LentArmsModel.copies([II[II)V -/
def qr92 : eSm := (86, ([], 86, 0, [(1, 50, 0, 0, 51, 0), (0, 2147483648, 2147483648, 0, 10001, 0), (1, 52, 0, 0, 53, 0), (0, 2147484590, 2147484590, 0, 10003, 0), (3, 0, 0, 0, 0, 0)], [], [], 16000), [((0, 2147483648, 2147483648, 0, 0, 0), [])], [(52, 942, 1412)], 0)
def qr92c : List eCt := [(100000, (100004, 1, 2147483648, 2147484119), [([], 86, 3, [(1, 50, 0, 0, 51, 0), (0, 2147483648, 2147483648, 0, 100001, 0), (1, 52, 0, 0, 53, 0), (0, 2147484590, 2147484590, 0, 100003, 0), (0, 2147483648, 2147484119, 1, 100004, 0)], [], [], 110000)])]
set_option maxRecDepth 100000 in
theorem qr92t (sc : List Nat) : gSum sc qr92 := gSum_of (su := qs92) (inl := ([], [])) (cu := qr92c) (sp := [(86, 11, 1, 4, 8589934592, 0)]) (L := []) (fuel := 100000) (k := 0) (lems := []) eDat_t (qh92 sc) (gCu_of (by decide +kernel)) (fun c h => by cases h) rfl (by decide +kernel) (by decide +kernel)
def qs93 : List eSm := qr92 :: qs92
set_option maxRecDepth 100000 in
theorem qh93 (sc : List Nat) : ∀ q ∈ qs93, gSum sc q ∧ eWf 10000 q.2.1 = true := gSu_cons (qr92t sc) (by decide +kernel) (qh92 sc)
/-- LentArmsModel.copies([II[II)V -/
def qr93 : eSm := (86, ([], 86, 0, [(1, 50, 0, 0, 51, 0), (0, 2147483648, 2147483648, 0, 10001, 0), (1, 52, 0, 0, 53, 0), (0, 2147484119, 2147484119, 0, 10003, 0), (3, 0, 0, 0, 0, 0)], [], [], 16000), [((0, 2147483648, 2147483648, 0, 0, 0), [])], [(52, 471, 941)], 0)
def qr93c : List eCt := [(100000, (100004, 1, 2147483648, 2147484119), [([], 86, 3, [(1, 50, 0, 0, 51, 0), (0, 2147483648, 2147483648, 0, 100001, 0), (1, 52, 0, 0, 53, 0), (0, 2147484119, 2147484119, 0, 100003, 0), (0, 2147483648, 2147484119, 1, 100004, 0)], [], [], 110000)])]
set_option maxRecDepth 100000 in
theorem qr93t (sc : List Nat) : gSum sc qr93 := gSum_of (su := qs93) (inl := ([], [])) (cu := qr93c) (sp := [(86, 11, 1, 4, 8589934592, 0)]) (L := []) (fuel := 100000) (k := 0) (lems := []) eDat_t (qh93 sc) (gCu_of (by decide +kernel)) (fun c h => by cases h) rfl (by decide +kernel) (by decide +kernel)
def qs94 : List eSm := qr93 :: qs93
set_option maxRecDepth 100000 in
theorem qh94 (sc : List Nat) : ∀ q ∈ qs94, gSum sc q ∧ eWf 10000 q.2.1 = true := gSu_cons (qr93t sc) (by decide +kernel) (qh93 sc)
/-- LentArmsModel.records()V -/
def qr94 : eSm := (87, ([], 87, 0, [(1, 56, 0, 0, 57, 0), (3, 0, 0, 0, 0, 0)], [], [], 16000), [((0, 2147483648, 2147483648, 0, 0, 0), [])], [(52, 0, 1883), (56, 3, 3)], 0)
def qr94c : List eCt := [(100000, (100001, 1, 2147483648, 2147485061), [([], 87, 10, [(1, 56, 0, 0, 57, 0), (0, 2147483648, 2147485061, 1, 100001, 0)], [], [(57, 56, 0, 3, 0, (0, 2147483652, 2147483652, 0, 105000, 0))], 110000)])]
set_option maxRecDepth 100000 in
theorem qr94t (sc : List Nat) : gSum sc qr94 := gSum_of (su := qs94) (inl := ([], [])) (cu := qr94c) (sp := [(87, 17, 1, 1, 8589934593, 0), (87, 66, 0, 0, 0, 4294967296)]) (L := []) (fuel := 100000) (k := 0) (lems := []) eDat_t (qh94 sc) (gCu_of (by decide +kernel)) (fun c h => by cases h) rfl (by decide +kernel) (by decide +kernel)
def qs95 : List eSm := qr94 :: qs94
set_option maxRecDepth 100000 in
theorem qh95 (sc : List Nat) : ∀ q ∈ qs95, gSum sc q ∧ eWf 10000 q.2.1 = true := gSu_cons (qr94t sc) (by decide +kernel) (qh94 sc)
/-- LentArmsModel.addArm(IZ)I -/
def qr95 : eSm := (104, ([], 104, 0, [(1, 56, 0, 0, 57, 0), (0, 0, 4294967295, 1, 10001, 0), (0, 2147483648, 2147483649, 1, 10002, 0)], [], [], 16000), [((0, 2147483645, 2147483647, 2, 0, 0), []), ((0, 2147483648, 2147483663, 1, 0, 0), [])], [(50, 1, 1), (50, 95, 222), (52, 0, 1883), (56, 3, 3)], 0)
def qr95c : List eCt := [(100000, (100004, 1, 2147483648, 2147483656), [([(104, 33, [(1, 56, 0, 0, 57, 0), (0, 2147483648, 2147483659, 1, 100101, 0), (0, 2147483648, 2147483649, 1, 100102, 0)], [])], 103, 13, [(1, 50, 0, 0, 51, 0), (0, 2147483648, 2147483659, 1, 100001, 0), (0, 2147483648, 2147483649, 1, 100002, 0), (0, 2147483743, 2147483863, 8, 100003, 0), (0, 2147483648, 2147483656, 1, 100004, 0)], [], [(51, 50, 0, 1, 0, (0, 2147483648, 2147483663, 1, 105000, 0))], 110000)])]
set_option maxRecDepth 100000 in
theorem qr95t (sc : List Nat) : gSum sc qr95 := gSum_of (su := qs95) (inl := ([81, 83, 103], [])) (cu := qr95c) (sp := []) (L := []) (fuel := 100000) (k := 0) (lems := []) eDat_t (qh95 sc) (gCu_of (by decide +kernel)) (fun c h => by cases h) rfl (by decide +kernel) (by decide +kernel)
def qs96 : List eSm := qr95 :: qs95
set_option maxRecDepth 100000 in
theorem qh96 (sc : List Nat) : ∀ q ∈ qs96, gSum sc q ∧ eWf 10000 q.2.1 = true := gSu_cons (qr95t sc) (by decide +kernel) (qh95 sc)
