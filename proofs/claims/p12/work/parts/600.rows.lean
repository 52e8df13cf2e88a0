/-! ===== rows of the methods, 0: printed by wip/gen/emit11.py ===== -/
def qs0 : List eSm := []
theorem qh0 (sc : List Nat) : ∀ q ∈ qs0, gSum sc q ∧ eWf 10000 q.2.1 = true := fun q h => by cases h
/-- LentArms$Arm.copyFrom(LLentArms$Arm;)V -/
def qr0 : eSm := (2, ([], 2, 0, [(1, 11, 0, 0, 10000, 0), (1, 0, 0, 0, 10001, 0)], [], [], 16000), [((0, 2147483648, 2147483648, 0, 0, 0), [])], [(11, 0, 7)], 0)
def qr0c : List eCt := []
set_option maxRecDepth 100000 in
theorem qr0t (sc : List Nat) : gSum sc qr0 := gSum_of (su := qs0) (inl := ([], [])) (cu := qr0c) (sp := []) (L := []) (fuel := 100000) (k := 0) (lems := []) eDat_t (qh0 sc) (gCu_of (by decide +kernel)) (fun c h => by cases h) rfl (by decide +kernel) (by decide +kernel)
def qs1 : List eSm := qr0 :: qs0
set_option maxRecDepth 100000 in
theorem qh1 (sc : List Nat) : ∀ q ∈ qs1, gSum sc q ∧ eWf 10000 q.2.1 = true := gSu_cons (qr0t sc) (by decide +kernel) (qh0 sc)
/-- LentArms$Line.copyFrom(LLentArms$Line;)V -/
def qr1 : eSm := (33, ([], 33, 0, [(1, 13, 0, 0, 10000, 0), (1, 2, 0, 0, 10001, 0)], [], [], 16000), [((0, 2147483648, 2147483648, 0, 0, 0), [])], [(12, 0, 8), (13, 2, 4)], 0)
def qr1c : List eCt := []
set_option maxRecDepth 100000 in
theorem qr1t (sc : List Nat) : gSum sc qr1 := gSum_of (su := qs1) (inl := ([], [])) (cu := qr1c) (sp := []) (L := []) (fuel := 100000) (k := 0) (lems := []) eDat_t (qh1 sc) (gCu_of (by decide +kernel)) (fun c h => by cases h) rfl (by decide +kernel) (by decide +kernel)
def qs2 : List eSm := qr1 :: qs1
set_option maxRecDepth 100000 in
theorem qh2 (sc : List Nat) : ∀ q ∈ qs2, gSum sc q ∧ eWf 10000 q.2.1 = true := gSu_cons (qr1t sc) (by decide +kernel) (qh1 sc)
/-- LentArms$WayLog.copyFrom(LLentArms$WayLog;)V -/
def qr2 : eSm := (49, ([], 49, 0, [(1, 20, 0, 0, 10000, 0), (1, 9, 0, 0, 10, 0)], [], [], 16000), [((0, 2147483648, 2147483648, 0, 0, 0), [])], [(19, 0, 79), (20, 1, 1)], 0)
def qr2c : List eCt := []
set_option maxRecDepth 100000 in
theorem qr2t (sc : List Nat) : gSum sc qr2 := gSum_of (su := qs2) (inl := ([], [])) (cu := qr2c) (sp := []) (L := []) (fuel := 100000) (k := 0) (lems := []) eDat_t (qh2 sc) (gCu_of (by decide +kernel)) (fun c h => by cases h) rfl (by decide +kernel) (by decide +kernel)
def qs3 : List eSm := qr2 :: qs2
set_option maxRecDepth 100000 in
theorem qh3 (sc : List Nat) : ∀ q ∈ qs3, gSum sc q ∧ eWf 10000 q.2.1 = true := gSu_cons (qr2t sc) (by decide +kernel) (qh2 sc)
/-- LentArms$Harbour.copyFrom(LLentArms$Harbour;)V -/
def qr3 : eSm := (7, ([], 7, 0, [(1, 21, 0, 0, 10000, 0), (1, 10, 0, 0, 11, 0), (3, 0, 0, 0, 0, 0)], [], [], 16000), [((0, 2147483648, 2147483648, 0, 0, 0), [])], [(11, 0, 7), (12, 0, 8), (13, 2, 4), (16, 0, 4), (17, 0, 1), (18, 0, 1), (19, 0, 79), (20, 1, 1), (21, 0, 1), (21, 8, 10)], 0)
def qr3c : List eCt := [(100000, (100002, 1, 2147483648, 2147483664), [([], 7, 18, [(1, 21, 0, 0, 100000, 0), (1, 10, 0, 0, 11, 0), (0, 2147483648, 2147483664, 1, 100002, 0)], [], [(100000, 21, 0, 1, 0, (0, 2147483648, 2147483664, 1, 105000, 0)), (11, 10, 0, 1, 0, (0, 2147483648, 2147483664, 1, 105001, 0)), (100000, 21, 0, 0, 0, (0, 0, 4294967295, 1, 105002, 0)), (11, 10, 0, 0, 0, (0, 0, 4294967295, 1, 105003, 0))], 110000)]), (200000, (200002, 1, 2147483648, 2147483660), [([], 7, 49, [(1, 21, 0, 0, 200000, 0), (1, 10, 0, 0, 11, 0), (0, 2147483648, 2147483660, 1, 200002, 0)], [], [(200000, 21, 0, 1, 0, (0, 2147483648, 2147483664, 1, 205000, 0)), (11, 10, 0, 1, 0, (0, 2147483648, 2147483664, 1, 205001, 0)), (200000, 21, 0, 0, 0, (0, 0, 4294967295, 1, 205002, 0)), (11, 10, 0, 0, 0, (0, 0, 4294967295, 1, 205003, 0))], 210000)])]
set_option maxRecDepth 100000 in
theorem qr3t (sc : List Nat) : gSum sc qr3 := gSum_of (su := qs3) (inl := ([], [])) (cu := qr3c) (sp := []) (L := []) (fuel := 100000) (k := 0) (lems := []) eDat_t (qh3 sc) (gCu_of (by decide +kernel)) (fun c h => by cases h) rfl (by decide +kernel) (by decide +kernel)
def qs4 : List eSm := qr3 :: qs3
set_option maxRecDepth 100000 in
theorem qh4 (sc : List Nat) : ∀ q ∈ qs4, gSum sc q ∧ eWf 10000 q.2.1 = true := gSu_cons (qr3t sc) (by decide +kernel) (qh3 sc)
/-- LentArms.remember()V -/
def qr4 : eSm := (78, ([], 78, 0, [(1, 49, 0, 0, 50, 0)], [], [], 16000), [((0, 2147483648, 2147483648, 0, 0, 0), [])], [(11, 0, 7), (12, 0, 8), (13, 2, 4), (16, 0, 4), (17, 0, 1), (18, 0, 1), (19, 0, 79), (20, 1, 1), (21, 0, 1), (21, 8, 10), (48, 0, 3), (49, 2, 2)], 0)
def qr4c : List eCt := [(100000, (100002, 1, 2147483649, 2147483652), [([(78, 9, [(1, 49, 0, 0, 50, 0)], [])], 79, 9, [(1, 49, 0, 0, 50, 0), (1, 21, 0, 0, 100001, 0), (0, 2147483649, 2147483652, 1, 100002, 0)], [], [(50, 49, 0, 2, 0, (0, 2147483652, 2147483652, 0, 105000, 0))], 110000)])]
set_option maxRecDepth 100000 in
theorem qr4t (sc : List Nat) : gSum sc qr4 := gSum_of (su := qs4) (inl := ([79], [])) (cu := qr4c) (sp := []) (L := []) (fuel := 100000) (k := 0) (lems := []) eDat_t (qh4 sc) (gCu_of (by decide +kernel)) (fun c h => by cases h) rfl (by decide +kernel) (by decide +kernel)
def qs5 : List eSm := qr4 :: qs4
set_option maxRecDepth 100000 in
theorem qh5 (sc : List Nat) : ∀ q ∈ qs5, gSum sc q ∧ eWf 10000 q.2.1 = true := gSu_cons (qr4t sc) (by decide +kernel) (qh4 sc)
/-- LentArms.addArm(IZ)I -/
def qr5 : eSm := (54, ([], 54, 0, [(1, 49, 0, 0, 50, 0), (0, 0, 4294967295, 1, 10001, 0), (0, 2147483648, 2147483649, 1, 10002, 0)], [], [], 16000), [((0, 2147483645, 2147483647, 2, 0, 0), []), ((0, 2147483648, 2147483663, 1, 0, 0), [])], [(0, 0, 7), (10, 1, 1), (11, 0, 7), (12, 0, 8), (13, 2, 4), (16, 0, 4), (17, 0, 1), (18, 0, 1), (19, 0, 79), (20, 1, 1), (21, 0, 1), (21, 8, 10), (48, 0, 3), (49, 2, 2)], 0)
def qr5c : List eCt := []
set_option maxRecDepth 100000 in
theorem qr5t (sc : List Nat) : gSum sc qr5 := gSum_of (su := qs5) (inl := ([1, 9, 76], [])) (cu := qr5c) (sp := []) (L := []) (fuel := 100000) (k := 0) (lems := []) eDat_t (qh5 sc) (gCu_of (by decide +kernel)) (fun c h => by cases h) rfl (by decide +kernel) (by decide +kernel)
def qs6 : List eSm := qr5 :: qs5
set_option maxRecDepth 100000 in
theorem qh6 (sc : List Nat) : ∀ q ∈ qs6, gSum sc q ∧ eWf 10000 q.2.1 = true := gSu_cons (qr5t sc) (by decide +kernel) (qh5 sc)
/-- LentArms.removeArm(I)I -/
def qr6 : eSm := (55, ([], 55, 0, [(1, 49, 0, 0, 50, 0), (0, 0, 4294967295, 1, 10001, 0), (3, 0, 0, 0, 0, 0)], [], [], 16000), [((0, 2147483645, 2147483647, 2, 0, 0), []), ((0, 2147483648, 2147483663, 1, 0, 0), [])], [(1, 0, 8), (2, 2, 2), (2, 4, 4), (3, 0, 15), (10, 1, 1), (11, 0, 7), (12, 0, 8), (13, 2, 4), (16, 0, 4), (17, 0, 1), (18, 0, 1), (19, 0, 79), (20, 1, 1), (21, 0, 1), (21, 8, 10), (48, 0, 3), (49, 2, 2)], 0)
def qr6c : List eCt := [(100000, (100004, 1, 2147483648, 2147483663), [([(55, 63, [(1, 49, 0, 0, 50, 0), (0, 2147483648, 2147483663, 1, 100101, 0), (1, 0, 0, 0, 100102, 0)], [])], 10, 71, [(1, 10, 0, 0, 11, 0), (0, 2147483648, 2147483663, 1, 100001, 0), (1, 0, 0, 0, 100002, 0), (1, 2, 0, 0, 100003, 0), (0, 2147483648, 2147483663, 1, 100004, 0)], [], [(11, 10, 0, 1, 0, (0, 2147483648, 2147483663, 1, 105000, 0)), (100002, 0, 0, 1, 0, (0, 2147483648, 2147483659, 1, 105001, 0)), (100002, 0, 0, 2, 0, (0, 2147483648, 2147483650, 1, 105002, 0))], 110000)])]
set_option maxRecDepth 100000 in
theorem qr6t (sc : List Nat) : gSum sc qr6 := gSum_of (su := qs6) (inl := ([8, 10, 35], [])) (cu := qr6c) (sp := []) (L := []) (fuel := 100000) (k := 0) (lems := []) eDat_t (qh6 sc) (gCu_of (by decide +kernel)) (fun c h => by cases h) rfl (by decide +kernel) (by decide +kernel)
def qs7 : List eSm := qr6 :: qs6
set_option maxRecDepth 100000 in
theorem qh7 (sc : List Nat) : ∀ q ∈ qs7, gSum sc q ∧ eWf 10000 q.2.1 = true := gSu_cons (qr6t sc) (by decide +kernel) (qh6 sc)
/-- LentArms$Harbour.tiedArms()I -/
def qr7 : eSm := (30, ([], 30, 0, [(1, 10, 0, 0, 11, 0), (3, 0, 0, 0, 0, 0), (3, 0, 0, 0, 0, 0)], [], [], 16000), [((0, 0, 4294967295, 1, 0, 0), [])], [], 0)
def qr7c : List eCt := [(100000, (100002, 1, 2147483648, 2147483664), [([], 30, 4, [(1, 10, 0, 0, 11, 0), (0, 0, 4294967295, 1, 100001, 0), (0, 2147483648, 2147483664, 1, 100002, 0)], [], [], 110000)])]
set_option maxRecDepth 100000 in
theorem qr7t (sc : List Nat) : gSum sc qr7 := gSum_of (su := qs7) (inl := ([], [])) (cu := qr7c) (sp := []) (L := []) (fuel := 100000) (k := 0) (lems := []) eDat_t (qh7 sc) (gCu_of (by decide +kernel)) (fun c h => by cases h) rfl (by decide +kernel) (by decide +kernel)
def qs8 : List eSm := qr7 :: qs7
set_option maxRecDepth 100000 in
theorem qh8 (sc : List Nat) : ∀ q ∈ qs8, gSum sc q ∧ eWf 10000 q.2.1 = true := gSu_cons (qr7t sc) (by decide +kernel) (qh7 sc)
/-- LentArms.tie(IZ)I -/
def qr8 : eSm := (56, ([], 56, 0, [(1, 49, 0, 0, 50, 0), (0, 0, 4294967295, 1, 10001, 0), (0, 2147483648, 2147483649, 1, 10002, 0)], [], [], 16000), [((0, 2147483643, 2147483647, 4, 0, 0), []), ((0, 0, 4294967295, 1, 0, 0), [])], [(0, 4, 4), (11, 0, 7), (12, 0, 8), (13, 2, 4), (16, 0, 4), (17, 0, 1), (18, 0, 1), (19, 0, 79), (20, 1, 1), (21, 0, 1), (21, 8, 10), (48, 0, 3), (49, 2, 2)], 0)
def qr8c : List eCt := []
set_option maxRecDepth 100000 in
theorem qr8t (sc : List Nat) : gSum sc qr8 := gSum_of (su := qs8) (inl := ([8], [])) (cu := qr8c) (sp := []) (L := []) (fuel := 100000) (k := 0) (lems := []) eDat_t (qh8 sc) (gCu_of (by decide +kernel)) (fun c h => by cases h) rfl (by decide +kernel) (by decide +kernel)
def qs9 : List eSm := qr8 :: qs8
set_option maxRecDepth 100000 in
theorem qh9 (sc : List Nat) : ∀ q ∈ qs9, gSum sc q ∧ eWf 10000 q.2.1 = true := gSu_cons (qr8t sc) (by decide +kernel) (qh8 sc)
/-- LentArms.moveHome(II)I -/
def qr9 : eSm := (57, ([], 57, 0, [(1, 49, 0, 0, 50, 0), (0, 0, 4294967295, 1, 10001, 0), (0, 0, 4294967295, 1, 10002, 0), (3, 0, 0, 0, 0, 0)], [], [], 16000), [((0, 2147483643, 2147483647, 4, 0, 0), []), ((0, 2147483648, 2147483659, 1, 0, 0), [])], [(0, 0, 0), (11, 0, 7), (12, 0, 8), (13, 2, 4), (16, 0, 4), (17, 0, 1), (18, 0, 1), (19, 0, 79), (20, 1, 1), (21, 0, 1), (21, 8, 10), (48, 0, 3), (49, 2, 2)], 0)
def qr9c : List eCt := []
set_option maxRecDepth 100000 in
theorem qr9t (sc : List Nat) : gSum sc qr9 := gSum_of (su := qs9) (inl := ([8, 76], [])) (cu := qr9c) (sp := []) (L := []) (fuel := 100000) (k := 0) (lems := []) eDat_t (qh9 sc) (gCu_of (by decide +kernel)) (fun c h => by cases h) rfl (by decide +kernel) (by decide +kernel)
def qs10 : List eSm := qr9 :: qs9
set_option maxRecDepth 100000 in
theorem qh10 (sc : List Nat) : ∀ q ∈ qs10, gSum sc q ∧ eWf 10000 q.2.1 = true := gSu_cons (qr9t sc) (by decide +kernel) (qh9 sc)
/-- LentArms$WayLog.note(IIIII)V -/
def qr10 : eSm := (50, ([], 50, 0, [(1, 9, 0, 0, 10, 0), (0, 2147483648, 2147483663, 1, 10001, 0), (0, 2147483648, 2147483659, 1, 10002, 0), (0, 2147483648, 2147483659, 1, 10003, 0), (0, 0, 4294967295, 1, 10004, 0), (0, 2147483648, 2147483651, 1, 10005, 0), (3, 0, 0, 0, 0, 0)], [], [], 16000), [((0, 2147483648, 2147483648, 0, 0, 0), [])], [(8, 0, 79), (9, 1, 1)], 1)
def qr10c : List eCt := []
set_option maxRecDepth 100000 in
theorem qr10t (sc : List Nat) : gSum sc qr10 := gSum_of (su := qs10) (inl := ([], [])) (cu := qr10c) (sp := []) (L := []) (fuel := 100000) (k := 1) (lems := []) eDat_t (qh10 sc) (gCu_of (by decide +kernel)) (fun c h => by cases h) rfl (by decide +kernel) (by decide +kernel)
def qs11 : List eSm := qr10 :: qs10
set_option maxRecDepth 100000 in
theorem qh11 (sc : List Nat) : ∀ q ∈ qs11, gSum sc q ∧ eWf 10000 q.2.1 = true := gSu_cons (qr10t sc) (by decide +kernel) (qh10 sc)
/-- LentArms$Arm.setOut(II)V -/
def qr11 : eSm := (3, ([], 3, 0, [(1, 0, 0, 0, 10000, 0), (0, 2147483648, 2147483659, 1, 10001, 0), (0, 0, 4294967295, 1, 10002, 0)], [], [], 16000), [((0, 2147483648, 2147483648, 0, 0, 0), [])], [(0, 1, 3), (0, 6, 7)], 0)
def qr11c : List eCt := []
set_option maxRecDepth 100000 in
theorem qr11t (sc : List Nat) : gSum sc qr11 := gSum_of (su := qs11) (inl := ([], [])) (cu := qr11c) (sp := []) (L := []) (fuel := 100000) (k := 0) (lems := []) eDat_t (qh11 sc) (gCu_of (by decide +kernel)) (fun c h => by cases h) rfl (by decide +kernel) (by decide +kernel)
def qs12 : List eSm := qr11 :: qs11
set_option maxRecDepth 100000 in
theorem qh12 (sc : List Nat) : ∀ q ∈ qs12, gSum sc q ∧ eWf 10000 q.2.1 = true := gSu_cons (qr11t sc) (by decide +kernel) (qh11 sc)
/-- LentArms$Harbour.depart(III)V -/
def qr12 : eSm := (11, ([], 11, 0, [(1, 10, 0, 0, 11, 0), (0, 2147483648, 2147483663, 1, 10001, 0), (0, 2147483648, 2147483659, 1, 10002, 0), (0, 2147483648, 2147483651, 1, 10003, 0), (3, 0, 0, 0, 0, 0), (3, 0, 0, 0, 0, 0)], [], [], 16000), [((0, 2147483648, 2147483648, 0, 0, 0), [])], [(0, 1, 3), (0, 6, 7), (2, 4, 4), (8, 0, 79), (9, 1, 1)], 1)
def qr12c : List eCt := []
set_option maxRecDepth 100000 in
theorem qr12t (sc : List Nat) : gSum sc qr12 := gSum_of (su := qs12) (inl := ([77], [])) (cu := qr12c) (sp := []) (L := []) (fuel := 100000) (k := 1) (lems := []) eDat_t (qh12 sc) (gCu_of (by decide +kernel)) (fun c h => by cases h) rfl (by decide +kernel) (by decide +kernel)
def qs13 : List eSm := qr12 :: qs12
set_option maxRecDepth 100000 in
theorem qh13 (sc : List Nat) : ∀ q ∈ qs13, gSum sc q ∧ eWf 10000 q.2.1 = true := gSu_cons (qr12t sc) (by decide +kernel) (qh12 sc)
/-- LentArms.send(II)I -/
def qr13 : eSm := (58, ([], 58, 0, [(1, 49, 0, 0, 50, 0), (0, 0, 4294967295, 1, 10001, 0), (0, 0, 4294967295, 1, 10002, 0)], [], [], 16000), [((0, 2147483643, 2147483647, 1, 0, 0), []), ((0, 0, 4294967295, 1, 0, 0), [])], [(0, 1, 3), (0, 6, 7), (2, 4, 4), (8, 0, 79), (9, 1, 1), (11, 0, 7), (12, 0, 8), (13, 2, 4), (16, 0, 4), (17, 0, 1), (18, 0, 1), (19, 0, 79), (20, 1, 1), (21, 0, 1), (21, 8, 10), (48, 0, 3), (49, 2, 2)], 1)
def qr13c : List eCt := []
set_option maxRecDepth 100000 in
theorem qr13t (sc : List Nat) : gSum sc qr13 := gSum_of (su := qs13) (inl := ([8, 76], [])) (cu := qr13c) (sp := []) (L := []) (fuel := 100000) (k := 1) (lems := []) eDat_t (qh13 sc) (gCu_of (by decide +kernel)) (fun c h => by cases h) rfl (by decide +kernel) (by decide +kernel)
def qs14 : List eSm := qr13 :: qs13
set_option maxRecDepth 100000 in
theorem qh14 (sc : List Nat) : ∀ q ∈ qs14, gSum sc q ∧ eWf 10000 q.2.1 = true := gSu_cons (qr13t sc) (by decide +kernel) (qh13 sc)
/-- LentArms.load(II)I -/
def qr14 : eSm := (59, ([], 59, 0, [(1, 49, 0, 0, 50, 0), (0, 0, 4294967295, 1, 10001, 0), (0, 0, 4294967295, 1, 10002, 0)], [], [], 16000), [((0, 2147483645, 2147483647, 1, 0, 0), []), ((0, 2147483649, 2147483657, 1, 0, 0), [])], [(1, 0, 8), (2, 2, 2), (11, 0, 7), (12, 0, 8), (13, 2, 4), (16, 0, 4), (17, 0, 1), (18, 0, 1), (19, 0, 79), (20, 1, 1), (21, 0, 1), (21, 8, 10), (48, 0, 3), (49, 2, 2)], 0)
def qr14c : List eCt := []
set_option maxRecDepth 100000 in
theorem qr14t (sc : List Nat) : gSum sc qr14 := gSum_of (su := qs14) (inl := ([34, 76], [])) (cu := qr14c) (sp := []) (L := []) (fuel := 100000) (k := 0) (lems := []) eDat_t (qh14 sc) (gCu_of (by decide +kernel)) (fun c h => by cases h) rfl (by decide +kernel) (by decide +kernel)
def qs15 : List eSm := qr14 :: qs14
set_option maxRecDepth 100000 in
theorem qh15 (sc : List Nat) : ∀ q ∈ qs15, gSum sc q ∧ eWf 10000 q.2.1 = true := gSu_cons (qr14t sc) (by decide +kernel) (qh14 sc)
/-- LentArms$LoadText.readNumber(II)I -/
def qr15 : eSm := (45, ([], 45, 0, [(1, 47, 0, 0, 48, 0), (0, 2147483648, 2147483648, 0, 10001, 0), (0, 2147483659, 2147483659, 0, 10002, 0), (3, 0, 0, 0, 0, 0), (3, 0, 0, 0, 0, 0)], [], [], 16000), [((0, 2147483647, 2147483647, 0, 0, 0), []), ((0, 2147483648, 2147483659, 1, 0, 0), [])], [(47, 2, 2)], 0)
def qr15c : List eCt := []
set_option maxRecDepth 100000 in
theorem qr15t (sc : List Nat) : gSum sc qr15 := gSum_of (su := qs15) (inl := ([46], [])) (cu := qr15c) (sp := []) (L := []) (fuel := 100000) (k := 0) (lems := []) eDat_t (qh15 sc) (gCu_of (by decide +kernel)) (fun c h => by cases h) rfl (by decide +kernel) (by decide +kernel)
def qs16 : List eSm := qr15 :: qs15
set_option maxRecDepth 100000 in
theorem qh16 (sc : List Nat) : ∀ q ∈ qs16, gSum sc q ∧ eWf 10000 q.2.1 = true := gSu_cons (qr15t sc) (by decide +kernel) (qh15 sc)
/-- LentArms$LoadText.readNumber(II)I -/
def qr16 : eSm := (45, ([], 45, 0, [(1, 47, 0, 0, 48, 0), (0, 2147483649, 2147483649, 0, 10001, 0), (0, 2147483747, 2147483747, 0, 10002, 0), (3, 0, 0, 0, 0, 0), (3, 0, 0, 0, 0, 0)], [], [], 16000), [((0, 2147483647, 2147483647, 0, 0, 0), []), ((0, 2147483649, 2147483747, 1, 0, 0), [])], [(47, 2, 2)], 0)
def qr16c : List eCt := []
set_option maxRecDepth 100000 in
theorem qr16t (sc : List Nat) : gSum sc qr16 := gSum_of (su := qs16) (inl := ([46], [])) (cu := qr16c) (sp := []) (L := []) (fuel := 100000) (k := 0) (lems := []) eDat_t (qh16 sc) (gCu_of (by decide +kernel)) (fun c h => by cases h) rfl (by decide +kernel) (by decide +kernel)
def qs17 : List eSm := qr16 :: qs16
set_option maxRecDepth 100000 in
theorem qh17 (sc : List Nat) : ∀ q ∈ qs17, gSum sc q ∧ eWf 10000 q.2.1 = true := gSu_cons (qr16t sc) (by decide +kernel) (qh16 sc)
/-- LentArms$LoadText.readNumber(II)I -/
def qr17 : eSm := (45, ([], 45, 0, [(1, 47, 0, 0, 48, 0), (0, 2147483650, 2147483650, 0, 10001, 0), (0, 2147483657, 2147483657, 0, 10002, 0), (3, 0, 0, 0, 0, 0), (3, 0, 0, 0, 0, 0)], [], [], 16000), [((0, 2147483647, 2147483647, 0, 0, 0), []), ((0, 2147483650, 2147483657, 1, 0, 0), [])], [(47, 2, 2)], 0)
def qr17c : List eCt := []
set_option maxRecDepth 100000 in
theorem qr17t (sc : List Nat) : gSum sc qr17 := gSum_of (su := qs17) (inl := ([46], [])) (cu := qr17c) (sp := []) (L := []) (fuel := 100000) (k := 0) (lems := []) eDat_t (qh17 sc) (gCu_of (by decide +kernel)) (fun c h => by cases h) rfl (by decide +kernel) (by decide +kernel)
def qs18 : List eSm := qr17 :: qs17
set_option maxRecDepth 100000 in
theorem qh18 (sc : List Nat) : ∀ q ∈ qs18, gSum sc q ∧ eWf 10000 q.2.1 = true := gSu_cons (qr17t sc) (by decide +kernel) (qh17 sc)
/-- LentArms$LoadText.readLoads()I -/
def qr18 : eSm := (42, ([], 42, 0, [(1, 47, 0, 0, 48, 0), (3, 0, 0, 0, 0, 0)], [], [], 16000), [((0, 2147483648, 2147483708, 1, 0, 0), []), ((0, 2147483647, 2147483647, 0, 0, 0), [])], [(45, 0, 15), (46, 0, 15), (47, 2, 3)], 0)
def qr18c : List eCt := [(100000, (100001, 1, 2147483648, 2147483664), [([], 42, 12, [(1, 47, 0, 0, 48, 0), (0, 2147483648, 2147483664, 1, 100001, 0)], [], [(48, 47, 0, 3, 0, (0, 2147483648, 2147483664, 1, 105000, 0)), (48, 47, 0, 2, 0, (0, 2147483648, 2147483708, 1, 105001, 0))], 110000)])]
set_option maxRecDepth 100000 in
theorem qr18t (sc : List Nat) : gSum sc qr18 := gSum_of (su := qs18) (inl := ([44, 47], [])) (cu := qr18c) (sp := []) (L := []) (fuel := 100000) (k := 0) (lems := []) eDat_t (qh18 sc) (gCu_of (by decide +kernel)) (fun c h => by cases h) rfl (by decide +kernel) (by decide +kernel)
def qs19 : List eSm := qr18 :: qs18
set_option maxRecDepth 100000 in
theorem qh19 (sc : List Nat) : ∀ q ∈ qs19, gSum sc q ∧ eWf 10000 q.2.1 = true := gSu_cons (qr18t sc) (by decide +kernel) (qh18 sc)
/-- LentArms$LoadText.loadsFor(I)I -/
def qr19 : eSm := (43, ([], 43, 0, [(1, 47, 0, 0, 48, 0), (0, 2147483648, 2147483659, 1, 10001, 0), (3, 0, 0, 0, 0, 0), (3, 0, 0, 0, 0, 0)], [], [], 16000), [((0, 0, 4294967295, 1, 0, 0), [])], [], 0)
def qr19c : List eCt := [(100000, (100003, 1, 2147483648, 2147483664), [([], 43, 4, [(1, 47, 0, 0, 48, 0), (0, 2147483648, 2147483659, 1, 100001, 0), (0, 0, 4294967295, 1, 100002, 0), (0, 2147483648, 2147483664, 1, 100003, 0)], [], [], 110000)])]
set_option maxRecDepth 100000 in
theorem qr19t (sc : List Nat) : gSum sc qr19 := gSum_of (su := qs19) (inl := ([], [])) (cu := qr19c) (sp := []) (L := []) (fuel := 100000) (k := 0) (lems := []) eDat_t (qh19 sc) (gCu_of (by decide +kernel)) (fun c h => by cases h) rfl (by decide +kernel) (by decide +kernel)
def qs20 : List eSm := qr19 :: qs19
set_option maxRecDepth 100000 in
theorem qh20 (sc : List Nat) : ∀ q ∈ qs20, gSum sc q ∧ eWf 10000 q.2.1 = true := gSu_cons (qr19t sc) (by decide +kernel) (qh19 sc)
/-- LentArms$Harbour.waitingTogether()I -/
def qr20 : eSm := (27, ([], 27, 0, [(1, 10, 0, 0, 11, 0), (3, 0, 0, 0, 0, 0), (3, 0, 0, 0, 0, 0)], [], [], 16000), [((0, 0, 4294967295, 1, 0, 0), [])], [], 0)
def qr20c : List eCt := [(100000, (100002, 1, 2147483648, 2147483660), [([], 27, 4, [(1, 10, 0, 0, 11, 0), (0, 0, 4294967295, 1, 100001, 0), (0, 2147483648, 2147483660, 1, 100002, 0)], [], [], 110000)])]
set_option maxRecDepth 100000 in
theorem qr20t (sc : List Nat) : gSum sc qr20 := gSum_of (su := qs20) (inl := ([], [])) (cu := qr20c) (sp := []) (L := []) (fuel := 100000) (k := 0) (lems := []) eDat_t (qh20 sc) (gCu_of (by decide +kernel)) (fun c h => by cases h) rfl (by decide +kernel) (by decide +kernel)
def qs21 : List eSm := qr20 :: qs20
set_option maxRecDepth 100000 in
theorem qh21 (sc : List Nat) : ∀ q ∈ qs21, gSum sc q ∧ eWf 10000 q.2.1 = true := gSu_cons (qr20t sc) (by decide +kernel) (qh20 sc)
/-- LentArms.loadAll()I -/
def qr21 : eSm := (60, ([], 60, 0, [(1, 49, 0, 0, 50, 0), (3, 0, 0, 0, 0, 0), (3, 0, 0, 0, 0, 0), (3, 0, 0, 0, 0, 0), (3, 0, 0, 0, 0, 0)], [], [], 16000), [((0, 2147483488, 2147483645, 1, 0, 0), []), ((0, 0, 4294967295, 1, 0, 0), [])], [(1, 0, 8), (2, 2, 2), (11, 0, 7), (12, 0, 8), (13, 2, 4), (16, 0, 4), (17, 0, 1), (18, 0, 1), (19, 0, 79), (20, 1, 1), (21, 0, 1), (21, 8, 10), (45, 0, 15), (46, 0, 15), (47, 2, 3), (48, 0, 3), (49, 2, 2)], 0)
def qr21c : List eCt := [(100000, (100002, 1, 2147483648, 2147483660), [([], 60, 20, [(1, 49, 0, 0, 50, 0), (0, 2147483647, 2147483647, 0, 100001, 0), (0, 2147483648, 2147483660, 1, 100002, 0), (3, 0, 0, 0, 0, 0), (3, 0, 0, 0, 0, 0)], [], [], 110000)]), (200000, (200002, 1, 2147483648, 2147483664), [([], 60, 67, [(1, 49, 0, 0, 50, 0), (0, 2147483647, 2147483647, 0, 200001, 0), (0, 2147483648, 2147483648, 0, 200002, 0), (3, 0, 0, 0, 0, 0), (3, 0, 0, 0, 0, 0)], [], [], 210000), ([], 60, 67, [(1, 49, 0, 0, 50, 0), (0, 2147483647, 2147483647, 0, 200001, 0), (0, 2147483649, 2147483664, 1, 200002, 0), (1, 2, 0, 0, 200003, 0), (0, 2147483648, 4294967295, 1, 200004, 0)], [], [(48, 47, 0, 6, 0, (1, 46, 0, 0, 205000, 0)), (46, 45, 0, 0, 0, (0, 2147483648, 2147483659, 1, 205001, 0)), (48, 47, 0, 3, 0, (0, 2147483649, 2147483664, 1, 205002, 0))], 210000)]), (300000, (300004, 1, 2147483648, 4294967295), [([], 60, 99, [(1, 49, 0, 0, 50, 0), (0, 2147483647, 2147483647, 0, 300001, 0), (0, 2147483648, 2147483663, 1, 200002, 0), (1, 2, 0, 0, 300003, 0), (0, 2147483648, 4294967295, 1, 300004, 0)], [], [(46, 45, 0, 0, 0, (0, 2147483648, 2147483659, 1, 305000, 0)), (48, 47, 0, 3, 0, (0, 2147483649, 2147483664, 1, 305001, 0))], 310000)])]
set_option maxRecDepth 100000 in
theorem qr21t (sc : List Nat) : gSum sc qr21 := gSum_of (su := qs21) (inl := ([34], [])) (cu := qr21c) (sp := []) (L := []) (fuel := 100000) (k := 0) (lems := []) eDat_t (qh21 sc) (gCu_of (by decide +kernel)) (fun c h => by cases h) rfl (by decide +kernel) (by decide +kernel)
def qs22 : List eSm := qr21 :: qs21
set_option maxRecDepth 100000 in
theorem qh22 (sc : List Nat) : ∀ q ∈ qs22, gSum sc q ∧ eWf 10000 q.2.1 = true := gSu_cons (qr21t sc) (by decide +kernel) (qh21 sc)
/-- LentArms$Harbour.goOnWorking(LLentArms$Arm;)V -/
def qr22 : eSm := (17, ([], 17, 0, [(1, 10, 0, 0, 11, 0), (1, 0, 0, 0, 10001, 0)], [], [], 16000), [((0, 2147483648, 2147483648, 0, 0, 0), [])], [(0, 2, 3), (0, 5, 5), (2, 3, 3), (10, 8, 9)], 0)
def qr22c : List eCt := []
set_option maxRecDepth 100000 in
theorem qr22t (sc : List Nat) : gSum sc qr22 := gSum_of (su := qs22) (inl := ([], [])) (cu := qr22c) (sp := []) (L := []) (fuel := 100000) (k := 0) (lems := []) eDat_t (qh22 sc) (gCu_of (by decide +kernel)) (fun c h => by cases h) rfl (by decide +kernel) (by decide +kernel)
def qs23 : List eSm := qr22 :: qs22
set_option maxRecDepth 100000 in
theorem qh23 (sc : List Nat) : ∀ q ∈ qs23, gSum sc q ∧ eWf 10000 q.2.1 = true := gSu_cons (qr22t sc) (by decide +kernel) (qh22 sc)
/-- LentArms$Harbour.goOnTheWay(LLentArms$Arm;)V -/
def qr23 : eSm := (16, ([], 16, 0, [(1, 10, 0, 0, 11, 0), (1, 0, 0, 0, 10001, 0)], [], [], 16000), [((0, 2147483648, 2147483648, 0, 0, 0), [])], [(0, 2, 3), (2, 4, 4)], 0)
def qr23c : List eCt := []
set_option maxRecDepth 100000 in
theorem qr23t (sc : List Nat) : gSum sc qr23 := gSum_of (su := qs23) (inl := ([], [])) (cu := qr23c) (sp := []) (L := []) (fuel := 100000) (k := 0) (lems := []) eDat_t (qh23 sc) (gCu_of (by decide +kernel)) (fun c h => by cases h) rfl (by decide +kernel) (by decide +kernel)
def qs24 : List eSm := qr23 :: qs23
set_option maxRecDepth 100000 in
theorem qh24 (sc : List Nat) : ∀ q ∈ qs24, gSum sc q ∧ eWf 10000 q.2.1 = true := gSu_cons (qr23t sc) (by decide +kernel) (qh23 sc)
/-- LentArms$Harbour.goOn()V -/
def qr24 : eSm := (15, ([], 15, 0, [(1, 10, 0, 0, 11, 0), (3, 0, 0, 0, 0, 0), (3, 0, 0, 0, 0, 0)], [], [], 16000), [((0, 2147483648, 2147483648, 0, 0, 0), [])], [(0, 2, 3), (0, 5, 5), (2, 3, 4), (10, 8, 9)], 0)
def qr24c : List eCt := [(100000, (100001, 1, 2147483648, 2147483664), [([], 15, 2, [(1, 10, 0, 0, 11, 0), (0, 2147483648, 2147483664, 1, 100001, 0), (3, 0, 0, 0, 0, 0)], [], [], 110000)])]
set_option maxRecDepth 100000 in
theorem qr24t (sc : List Nat) : gSum sc qr24 := gSum_of (su := qs24) (inl := ([], [])) (cu := qr24c) (sp := []) (L := []) (fuel := 100000) (k := 0) (lems := []) eDat_t (qh24 sc) (gCu_of (by decide +kernel)) (fun c h => by cases h) rfl (by decide +kernel) (by decide +kernel)
def qs25 : List eSm := qr24 :: qs24
set_option maxRecDepth 100000 in
theorem qh25 (sc : List Nat) : ∀ q ∈ qs25, gSum sc q ∧ eWf 10000 q.2.1 = true := gSu_cons (qr24t sc) (by decide +kernel) (qh24 sc)
/-- LentArms$Harbour.takeLoads()V -/
def qr25 : eSm := (18, ([], 18, 0, [(1, 10, 0, 0, 11, 0), (3, 0, 0, 0, 0, 0), (3, 0, 0, 0, 0, 0)], [], [], 16000), [((0, 2147483648, 2147483648, 0, 0, 0), [])], [(0, 2, 3), (1, 0, 8), (2, 2, 2)], 0)
def qr25c : List eCt := [(100000, (100001, 1, 2147483648, 2147483664), [([], 18, 2, [(1, 10, 0, 0, 11, 0), (0, 2147483648, 2147483664, 1, 100001, 0), (3, 0, 0, 0, 0, 0)], [], [], 110000)])]
set_option maxRecDepth 100000 in
theorem qr25t (sc : List Nat) : gSum sc qr25 := gSum_of (su := qs25) (inl := ([36], [])) (cu := qr25c) (sp := []) (L := []) (fuel := 100000) (k := 0) (lems := []) eDat_t (qh25 sc) (gCu_of (by decide +kernel)) (fun c h => by cases h) rfl (by decide +kernel) (by decide +kernel)
def qs26 : List eSm := qr25 :: qs25
set_option maxRecDepth 100000 in
theorem qh26 (sc : List Nat) : ∀ q ∈ qs26, gSum sc q ∧ eWf 10000 q.2.1 = true := gSu_cons (qr25t sc) (by decide +kernel) (qh25 sc)
/-- LentArms$Harbour.goHome()V -/
def qr26 : eSm := (19, ([], 19, 0, [(1, 10, 0, 0, 11, 0), (3, 0, 0, 0, 0, 0), (3, 0, 0, 0, 0, 0)], [], [], 16000), [((0, 2147483648, 2147483648, 0, 0, 0), [])], [(0, 1, 3), (0, 6, 7), (2, 4, 4), (8, 0, 79), (9, 1, 1)], 17)
def qr26c : List eCt := [(100000, (100001, 1, 2147483648, 2147483664), [([], 19, 2, [(1, 10, 0, 0, 11, 0), (0, 2147483648, 2147483664, 1, 100001, 0), (3, 0, 0, 0, 0, 0)], [], [], 110000)])]
set_option maxRecDepth 100000 in
theorem qr26t (sc : List Nat) : gSum sc qr26 := gSum_of (su := qs26) (inl := ([4], [])) (cu := qr26c) (sp := []) (L := []) (fuel := 100000) (k := 17) (lems := []) eDat_t (qh26 sc) (gCu_of (by decide +kernel)) (fun c h => by cases h) rfl (by decide +kernel) (by decide +kernel)
def qs27 : List eSm := qr26 :: qs26
set_option maxRecDepth 100000 in
theorem qh27 (sc : List Nat) : ∀ q ∈ qs27, gSum sc q ∧ eWf 10000 q.2.1 = true := gSu_cons (qr26t sc) (by decide +kernel) (qh26 sc)
/-- LentArms$Harbour.neediest(II)I -/
def qr27 : eSm := (24, ([], 24, 0, [(1, 10, 0, 0, 11, 0), (0, 2147483648, 2147483656, 4, 10001, 0), (0, 2147483652, 2147483660, 4, 10002, 0), (3, 0, 0, 0, 0, 0), (3, 0, 0, 0, 0, 0), (3, 0, 0, 0, 0, 0)], [], [], 16000), [((0, 2147483647, 2147483647, 0, 0, 0), []), ((0, 2147483648, 2147483659, 1, 0, 0), [])], [], 0)
def qr27c : List eCt := [(100000, (100005, 1, 2147483648, 2147483660), [([], 24, 8, [(1, 10, 0, 0, 11, 0), (0, 2147483648, 2147483656, 4, 100001, 0), (0, 2147483652, 2147483660, 4, 100002, 0), (0, 2147483647, 2147483647, 0, 100003, 0), (0, 2147483649, 2147483649, 0, 100004, 0), (0, 2147483648, 2147483660, 1, 100005, 0)], [], [], 110000), ([], 24, 8, [(1, 10, 0, 0, 11, 0), (0, 2147483648, 2147483656, 4, 100001, 0), (0, 2147483652, 2147483660, 4, 100002, 0), (0, 2147483648, 2147483659, 1, 100003, 0), (0, 0, 4294967295, 1, 100004, 0), (0, 2147483649, 2147483660, 1, 100005, 0)], [], [(5, 4, 1, 100003, 0, (1, 2, 0, 0, 105000, 0))], 110000)])]
set_option maxRecDepth 100000 in
theorem qr27t (sc : List Nat) : gSum sc qr27 := gSum_of (su := qs27) (inl := ([37], [])) (cu := qr27c) (sp := []) (L := []) (fuel := 100000) (k := 0) (lems := []) eDat_t (qh27 sc) (gCu_of (by decide +kernel)) (fun c h => by cases h) rfl (by decide +kernel) (by decide +kernel)
def qs28 : List eSm := qr27 :: qs27
set_option maxRecDepth 100000 in
theorem qh28 (sc : List Nat) : ∀ q ∈ qs28, gSum sc q ∧ eWf 10000 q.2.1 = true := gSu_cons (qr27t sc) (by decide +kernel) (qh27 sc)
/-- LentArms$Harbour.helperFor(IZ)I -/
def qr28 : eSm := (25, ([], 25, 0, [(1, 10, 0, 0, 11, 0), (0, 2147483648, 2147483659, 1, 10001, 0), (0, 2147483648, 2147483649, 1, 10002, 0), (3, 0, 0, 0, 0, 0), (3, 0, 0, 0, 0, 0)], [], [], 16000), [((0, 2147483647, 2147483647, 0, 0, 0), []), ((0, 2147483648, 2147483663, 1, 0, 0), [])], [], 0)
def qr28c : List eCt := [(100000, (100003, 1, 2147483648, 2147483664), [([], 25, 2, [(1, 10, 0, 0, 11, 0), (0, 2147483648, 2147483659, 1, 100001, 0), (0, 2147483648, 2147483649, 1, 100002, 0), (0, 2147483648, 2147483664, 1, 100003, 0), (3, 0, 0, 0, 0, 0)], [], [], 110000)])]
set_option maxRecDepth 100000 in
theorem qr28t (sc : List Nat) : gSum sc qr28 := gSum_of (su := qs28) (inl := ([77], [])) (cu := qr28c) (sp := []) (L := []) (fuel := 100000) (k := 0) (lems := []) eDat_t (qh28 sc) (gCu_of (by decide +kernel)) (fun c h => by cases h) rfl (by decide +kernel) (by decide +kernel)
def qs29 : List eSm := qr28 :: qs28
set_option maxRecDepth 100000 in
theorem qh29 (sc : List Nat) : ∀ q ∈ qs29, gSum sc q ∧ eWf 10000 q.2.1 = true := gSu_cons (qr28t sc) (by decide +kernel) (qh28 sc)
/-- LentArms$Harbour.lend(III)V -/
def qr29 : eSm := (22, ([], 22, 0, [(1, 10, 0, 0, 11, 0), (0, 2147483648, 2147483656, 4, 10001, 0), (0, 2147483652, 2147483660, 4, 10002, 0), (0, 2147483649, 2147483650, 1, 10003, 0), (3, 0, 0, 0, 0, 0), (3, 0, 0, 0, 0, 0), (3, 0, 0, 0, 0, 0)], [], [], 16000), [((0, 2147483648, 2147483648, 0, 0, 0), [])], [(0, 1, 3), (0, 6, 7), (2, 4, 4), (8, 0, 79), (9, 1, 1)], 17)
def qr29c : List eCt := [(100000, (100004, 1, 2147483648, 2147483664), [([], 22, 3, [(1, 10, 0, 0, 11, 0), (0, 2147483648, 2147483656, 4, 100001, 0), (0, 2147483652, 2147483660, 4, 100002, 0), (0, 2147483649, 2147483650, 1, 100003, 0), (0, 2147483648, 2147483648, 0, 100004, 0), (3, 0, 0, 0, 0, 0), (3, 0, 0, 0, 0, 0)], [], [], 110000), ([], 22, 3, [(1, 10, 0, 0, 11, 0), (0, 2147483648, 2147483656, 4, 100001, 0), (0, 2147483652, 2147483660, 4, 100002, 0), (0, 2147483649, 2147483650, 1, 100003, 0), (0, 2147483649, 2147483664, 1, 100004, 0), (0, 2147483648, 2147483659, 1, 100005, 0), (0, 2147483648, 2147483663, 1, 100006, 0)], [], [(11, 10, 0, 1, 0, (0, 2147483649, 2147483664, 1, 105000, 0))], 110000)])]
set_option maxRecDepth 100000 in
theorem qr29t (sc : List Nat) : gSum sc qr29 := gSum_of (su := qs29) (inl := ([], [])) (cu := qr29c) (sp := []) (L := []) (fuel := 100000) (k := 17) (lems := []) eDat_t (qh29 sc) (gCu_of (by decide +kernel)) (fun c h => by cases h) rfl (by decide +kernel) (by decide +kernel)
def qs30 : List eSm := qr29 :: qs29
set_option maxRecDepth 100000 in
theorem qh30 (sc : List Nat) : ∀ q ∈ qs30, gSum sc q ∧ eWf 10000 q.2.1 = true := gSu_cons (qr29t sc) (by decide +kernel) (qh29 sc)
/-- LentArms$Harbour.planNextLook(IZ)V -/
def qr30 : eSm := (23, ([], 23, 0, [(1, 10, 0, 0, 11, 0), (0, 2147483648, 2147483649, 1, 10001, 0), (0, 2147483648, 2147483649, 1, 10002, 0)], [], [], 16000), [((0, 2147483648, 2147483648, 0, 0, 0), [])], [(6, 0, 1), (7, 0, 1)], 0)
def qr30c : List eCt := []
set_option maxRecDepth 100000 in
theorem qr30t (sc : List Nat) : gSum sc qr30 := gSum_of (su := qs30) (inl := ([], [])) (cu := qr30c) (sp := []) (L := []) (fuel := 100000) (k := 0) (lems := []) eDat_t (qh30 sc) (gCu_of (by decide +kernel)) (fun c h => by cases h) rfl (by decide +kernel) (by decide +kernel)
def qs31 : List eSm := qr30 :: qs30
set_option maxRecDepth 100000 in
theorem qh31 (sc : List Nat) : ∀ q ∈ qs31, gSum sc q ∧ eWf 10000 q.2.1 = true := gSu_cons (qr30t sc) (by decide +kernel) (qh30 sc)
/-- LentArms$Harbour.lookOverPort()V -/
def qr31 : eSm := (21, ([], 21, 0, [(1, 10, 0, 0, 11, 0), (3, 0, 0, 0, 0, 0)], [], [], 16000), [((0, 2147483648, 2147483648, 0, 0, 0), [])], [(0, 1, 3), (0, 6, 7), (2, 4, 4), (6, 0, 1), (7, 0, 1), (8, 0, 79), (9, 1, 1)], 17)
def qr31c : List eCt := []
set_option maxRecDepth 100000 in
theorem qr31t (sc : List Nat) : gSum sc qr31 := gSum_of (su := qs31) (inl := ([], [])) (cu := qr31c) (sp := []) (L := []) (fuel := 100000) (k := 17) (lems := []) eDat_t (qh31 sc) (gCu_of (by decide +kernel)) (fun c h => by cases h) rfl (by decide +kernel) (by decide +kernel)
def qs32 : List eSm := qr31 :: qs31
set_option maxRecDepth 100000 in
theorem qh32 (sc : List Nat) : ∀ q ∈ qs32, gSum sc q ∧ eWf 10000 q.2.1 = true := gSu_cons (qr31t sc) (by decide +kernel) (qh31 sc)
/-- LentArms$Harbour.lookInBasins()V -/
def qr32 : eSm := (20, ([], 20, 0, [(1, 10, 0, 0, 11, 0), (3, 0, 0, 0, 0, 0), (3, 0, 0, 0, 0, 0)], [], [], 16000), [((0, 2147483648, 2147483648, 0, 0, 0), [])], [(0, 1, 3), (0, 6, 7), (2, 4, 4), (6, 0, 1), (7, 0, 1), (8, 0, 79), (9, 1, 1)], 68)
def qr32c : List eCt := [(100000, (100002, 1, 2147483648, 2147483651), [([], 20, 10, [(1, 10, 0, 0, 11, 0), (5, 2147483648, 3221225472, 0, 100001, 0), (0, 2147483648, 2147483651, 1, 100002, 0)], [], [], 110000)])]
set_option maxRecDepth 100000 in
theorem qr32t (sc : List Nat) : gSum sc qr32 := gSum_of (su := qs32) (inl := ([], [])) (cu := qr32c) (sp := []) (L := []) (fuel := 100000) (k := 68) (lems := []) eDat_t (qh32 sc) (gCu_of (by decide +kernel)) (fun c h => by cases h) rfl (by decide +kernel) (by decide +kernel)
def qs33 : List eSm := qr32 :: qs32
set_option maxRecDepth 100000 in
theorem qh33 (sc : List Nat) : ∀ q ∈ qs33, gSum sc q ∧ eWf 10000 q.2.1 = true := gSu_cons (qr32t sc) (by decide +kernel) (qh32 sc)
/-- LentArms$Harbour.tick()V -/
def qr33 : eSm := (14, ([], 14, 0, [(1, 10, 0, 0, 11, 0)], [], [], 16000), [((0, 2147483648, 2147483648, 0, 0, 0), [])], [(0, 1, 3), (0, 5, 7), (1, 0, 8), (2, 2, 4), (6, 0, 1), (7, 0, 1), (8, 0, 79), (9, 1, 1), (10, 0, 0), (10, 8, 10)], 102)
def qr33c : List eCt := []
set_option maxRecDepth 100000 in
theorem qr33t (sc : List Nat) : gSum sc qr33 := gSum_of (su := qs33) (inl := ([], [])) (cu := qr33c) (sp := []) (L := []) (fuel := 100000) (k := 102) (lems := []) eDat_t (qh33 sc) (gCu_of (by decide +kernel)) (fun c h => by cases h) rfl (by decide +kernel) (by decide +kernel)
def qs34 : List eSm := qr33 :: qs33
set_option maxRecDepth 100000 in
theorem qh34 (sc : List Nat) : ∀ q ∈ qs34, gSum sc q ∧ eWf 10000 q.2.1 = true := gSu_cons (qr33t sc) (by decide +kernel) (qh33 sc)
/-- LentArms$Harbour.pass(I)V -/
def qr34 : eSm := (13, ([], 13, 0, [(1, 10, 0, 0, 11, 0), (0, 2147483649, 2147483848, 1, 10001, 0), (3, 0, 0, 0, 0, 0)], [], [], 16000), [((0, 2147483648, 2147483648, 0, 0, 0), [])], [(0, 1, 3), (0, 5, 7), (1, 0, 8), (2, 2, 4), (6, 0, 1), (7, 0, 1), (8, 0, 79), (9, 1, 1), (10, 0, 0), (10, 8, 10)], 20502)
def qr34c : List eCt := [(100000, (100002, 1, 2147483648, 2147483848), [([], 13, 2, [(1, 10, 0, 0, 11, 0), (0, 2147483649, 2147483848, 1, 100001, 0), (0, 2147483648, 2147483848, 1, 100002, 0)], [], [], 110000)])]
set_option maxRecDepth 100000 in
theorem qr34t (sc : List Nat) : gSum sc qr34 := gSum_of (su := qs34) (inl := ([], [])) (cu := qr34c) (sp := []) (L := []) (fuel := 100000) (k := 20502) (lems := []) eDat_t (qh34 sc) (gCu_of (by decide +kernel)) (fun c h => by cases h) rfl (by decide +kernel) (by decide +kernel)
def qs35 : List eSm := qr34 :: qs34
set_option maxRecDepth 100000 in
theorem qh35 (sc : List Nat) : ∀ q ∈ qs35, gSum sc q ∧ eWf 10000 q.2.1 = true := gSu_cons (qr34t sc) (by decide +kernel) (qh34 sc)
/-- LentArms.run(I)I -/
def qr35 : eSm := (61, ([], 61, 0, [(1, 49, 0, 0, 50, 0), (0, 0, 4294967295, 1, 10001, 0), (3, 0, 0, 0, 0, 0)], [], [], 16000), [((0, 2147483645, 2147483646, 1, 0, 0), []), ((0, 0, 4294967295, 1, 0, 0), [])], [(0, 1, 3), (0, 5, 7), (1, 0, 8), (2, 2, 4), (6, 0, 1), (7, 0, 1), (8, 0, 79), (9, 1, 1), (10, 0, 0), (10, 8, 10), (11, 0, 7), (12, 0, 8), (13, 2, 4), (16, 0, 4), (17, 0, 1), (18, 0, 1), (19, 0, 79), (20, 1, 1), (21, 0, 1), (21, 8, 10), (48, 0, 3), (49, 2, 2)], 20502)
def qr35c : List eCt := []
set_option maxRecDepth 100000 in
theorem qr35t (sc : List Nat) : gSum sc qr35 := gSum_of (su := qs35) (inl := ([], [])) (cu := qr35c) (sp := []) (L := []) (fuel := 100000) (k := 20502) (lems := []) eDat_t (qh35 sc) (gCu_of (by decide +kernel)) (fun c h => by cases h) rfl (by decide +kernel) (by decide +kernel)
def qs36 : List eSm := qr35 :: qs35
set_option maxRecDepth 100000 in
theorem qh36 (sc : List Nat) : ∀ q ∈ qs36, gSum sc q ∧ eWf 10000 q.2.1 = true := gSu_cons (qr35t sc) (by decide +kernel) (qh35 sc)
/-- LentArms$Harbour.change(II)V -/
def qr36 : eSm := (12, ([], 12, 0, [(1, 10, 0, 0, 11, 0), (0, 2147483648, 2147483652, 1, 10001, 0), (0, 2147483648, 2147483747, 1, 10002, 0), (3, 0, 0, 0, 0, 0)], [], [], 16000), [((0, 2147483648, 2147483648, 0, 0, 0), [])], [(5, 0, 4), (6, 0, 1), (7, 0, 1)], 0)
def qr36c : List eCt := []
set_option maxRecDepth 100000 in
theorem qr36t (sc : List Nat) : gSum sc qr36 := gSum_of (su := qs36) (inl := ([], [])) (cu := qr36c) (sp := []) (L := []) (fuel := 100000) (k := 0) (lems := []) eDat_t (qh36 sc) (gCu_of (by decide +kernel)) (fun c h => by cases h) rfl (by decide +kernel) (by decide +kernel)
def qs37 : List eSm := qr36 :: qs36
set_option maxRecDepth 100000 in
theorem qh37 (sc : List Nat) : ∀ q ∈ qs37, gSum sc q ∧ eWf 10000 q.2.1 = true := gSu_cons (qr36t sc) (by decide +kernel) (qh36 sc)
/-- LentArms.set(II)I -/
def qr37 : eSm := (62, ([], 62, 0, [(1, 49, 0, 0, 50, 0), (0, 0, 4294967295, 1, 10001, 0), (0, 0, 4294967295, 1, 10002, 0), (3, 0, 0, 0, 0, 0)], [], [], 16000), [((0, 2147483643, 2147483647, 1, 0, 0), []), ((0, 0, 4294967295, 1, 0, 0), [])], [(5, 0, 4), (6, 0, 1), (7, 0, 1), (11, 0, 7), (12, 0, 8), (13, 2, 4), (16, 0, 4), (17, 0, 1), (18, 0, 1), (19, 0, 79), (20, 1, 1), (21, 0, 1), (21, 8, 10), (48, 0, 3), (49, 2, 2)], 0)
def qr37c : List eCt := []
set_option maxRecDepth 100000 in
theorem qr37t (sc : List Nat) : gSum sc qr37 := gSum_of (su := qs37) (inl := ([], [])) (cu := qr37c) (sp := []) (L := []) (fuel := 100000) (k := 0) (lems := []) eDat_t (qh37 sc) (gCu_of (by decide +kernel)) (fun c h => by cases h) rfl (by decide +kernel) (by decide +kernel)
def qs38 : List eSm := qr37 :: qs37
set_option maxRecDepth 100000 in
theorem qh38 (sc : List Nat) : ∀ q ∈ qs38, gSum sc q ∧ eWf 10000 q.2.1 = true := gSu_cons (qr37t sc) (by decide +kernel) (qh37 sc)
/-- LentArms.type(C)I -/
def qr38 : eSm := (63, ([], 63, 0, [(1, 49, 0, 0, 50, 0), (0, 2147483648, 2147549183, 1, 10001, 0)], [], [], 16000), [((0, 2147483649, 2147483708, 1, 0, 0), []), ((0, 2147483645, 2147483645, 0, 0, 0), [])], [(44, 0, 59), (47, 1, 1)], 0)
def qr38c : List eCt := []
set_option maxRecDepth 100000 in
theorem qr38t (sc : List Nat) : gSum sc qr38 := gSum_of (su := qs38) (inl := ([41], [])) (cu := qr38c) (sp := []) (L := []) (fuel := 100000) (k := 0) (lems := []) eDat_t (qh38 sc) (gCu_of (by decide +kernel)) (fun c h => by cases h) rfl (by decide +kernel) (by decide +kernel)
def qs39 : List eSm := qr38 :: qs38
set_option maxRecDepth 100000 in
theorem qh39 (sc : List Nat) : ∀ q ∈ qs39, gSum sc q ∧ eWf 10000 q.2.1 = true := gSu_cons (qr38t sc) (by decide +kernel) (qh38 sc)
/-- LentArms.clearText()I -/
def qr39 : eSm := (64, ([], 64, 0, [(1, 49, 0, 0, 50, 0), (3, 0, 0, 0, 0, 0)], [], [], 16000), [((0, 2147483648, 2147483708, 1, 0, 0), [])], [(47, 1, 1)], 0)
def qr39c : List eCt := []
set_option maxRecDepth 100000 in
theorem qr39t (sc : List Nat) : gSum sc qr39 := gSum_of (su := qs39) (inl := ([], [])) (cu := qr39c) (sp := []) (L := []) (fuel := 100000) (k := 0) (lems := []) eDat_t (qh39 sc) (gCu_of (by decide +kernel)) (fun c h => by cases h) rfl (by decide +kernel) (by decide +kernel)
def qs40 : List eSm := qr39 :: qs39
set_option maxRecDepth 100000 in
theorem qh40 (sc : List Nat) : ∀ q ∈ qs40, gSum sc q ∧ eWf 10000 q.2.1 = true := gSu_cons (qr39t sc) (by decide +kernel) (qh39 sc)
/-- LentArms$Arm.copyFrom(LLentArms$Arm;)V -/
def qr40 : eSm := (2, ([], 2, 0, [(1, 0, 0, 0, 10000, 0), (1, 11, 0, 0, 10001, 0)], [], [], 16000), [((0, 2147483648, 2147483648, 0, 0, 0), [])], [(0, 0, 7)], 0)
def qr40c : List eCt := []
set_option maxRecDepth 100000 in
theorem qr40t (sc : List Nat) : gSum sc qr40 := gSum_of (su := qs40) (inl := ([], [])) (cu := qr40c) (sp := []) (L := []) (fuel := 100000) (k := 0) (lems := []) eDat_t (qh40 sc) (gCu_of (by decide +kernel)) (fun c h => by cases h) rfl (by decide +kernel) (by decide +kernel)
def qs41 : List eSm := qr40 :: qs40
set_option maxRecDepth 100000 in
theorem qh41 (sc : List Nat) : ∀ q ∈ qs41, gSum sc q ∧ eWf 10000 q.2.1 = true := gSu_cons (qr40t sc) (by decide +kernel) (qh40 sc)
/-- LentArms$Line.copyFrom(LLentArms$Line;)V -/
def qr41 : eSm := (33, ([], 33, 0, [(1, 2, 0, 0, 10000, 0), (1, 13, 0, 0, 10001, 0)], [], [], 16000), [((0, 2147483648, 2147483648, 0, 0, 0), [])], [(1, 0, 8), (2, 2, 4)], 0)
def qr41c : List eCt := []
set_option maxRecDepth 100000 in
theorem qr41t (sc : List Nat) : gSum sc qr41 := gSum_of (su := qs41) (inl := ([], [])) (cu := qr41c) (sp := []) (L := []) (fuel := 100000) (k := 0) (lems := []) eDat_t (qh41 sc) (gCu_of (by decide +kernel)) (fun c h => by cases h) rfl (by decide +kernel) (by decide +kernel)
def qs42 : List eSm := qr41 :: qs41
set_option maxRecDepth 100000 in
theorem qh42 (sc : List Nat) : ∀ q ∈ qs42, gSum sc q ∧ eWf 10000 q.2.1 = true := gSu_cons (qr41t sc) (by decide +kernel) (qh41 sc)
/-- LentArms$WayLog.copyFrom(LLentArms$WayLog;)V -/
def qr42 : eSm := (49, ([], 49, 0, [(1, 9, 0, 0, 10, 0), (1, 20, 0, 0, 10001, 0)], [], [], 16000), [((0, 2147483648, 2147483648, 0, 0, 0), [])], [(8, 0, 79), (9, 1, 1)], 0)
def qr42c : List eCt := []
set_option maxRecDepth 100000 in
theorem qr42t (sc : List Nat) : gSum sc qr42 := gSum_of (su := qs42) (inl := ([], [])) (cu := qr42c) (sp := []) (L := []) (fuel := 100000) (k := 0) (lems := []) eDat_t (qh42 sc) (gCu_of (by decide +kernel)) (fun c h => by cases h) rfl (by decide +kernel) (by decide +kernel)
def qs43 : List eSm := qr42 :: qs42
set_option maxRecDepth 100000 in
theorem qh43 (sc : List Nat) : ∀ q ∈ qs43, gSum sc q ∧ eWf 10000 q.2.1 = true := gSu_cons (qr42t sc) (by decide +kernel) (qh42 sc)
/-- LentArms$Harbour.copyFrom(LLentArms$Harbour;)V -/
def qr43 : eSm := (7, ([], 7, 0, [(1, 10, 0, 0, 11, 0), (1, 21, 0, 0, 10001, 0), (3, 0, 0, 0, 0, 0)], [], [], 16000), [((0, 2147483648, 2147483648, 0, 0, 0), [])], [(0, 0, 7), (1, 0, 8), (2, 2, 4), (5, 0, 4), (6, 0, 1), (7, 0, 1), (8, 0, 79), (9, 1, 1), (10, 0, 1), (10, 8, 10)], 0)
def qr43c : List eCt := [(100000, (100002, 1, 2147483648, 2147483664), [([], 7, 18, [(1, 10, 0, 0, 11, 0), (1, 21, 0, 0, 100001, 0), (0, 2147483648, 2147483664, 1, 100002, 0)], [], [(11, 10, 0, 1, 0, (0, 2147483648, 2147483664, 1, 105000, 0)), (100001, 21, 0, 1, 0, (0, 2147483648, 2147483664, 1, 105001, 0)), (11, 10, 0, 0, 0, (0, 0, 4294967295, 1, 105002, 0)), (100001, 21, 0, 0, 0, (0, 0, 4294967295, 1, 105003, 0))], 110000)]), (200000, (200002, 1, 2147483648, 2147483660), [([], 7, 49, [(1, 10, 0, 0, 11, 0), (1, 21, 0, 0, 200001, 0), (0, 2147483648, 2147483660, 1, 200002, 0)], [], [(11, 10, 0, 1, 0, (0, 2147483648, 2147483664, 1, 205000, 0)), (200001, 21, 0, 1, 0, (0, 2147483648, 2147483664, 1, 205001, 0)), (11, 10, 0, 0, 0, (0, 0, 4294967295, 1, 205002, 0)), (200001, 21, 0, 0, 0, (0, 0, 4294967295, 1, 205003, 0))], 210000)])]
set_option maxRecDepth 100000 in
theorem qr43t (sc : List Nat) : gSum sc qr43 := gSum_of (su := qs43) (inl := ([], [])) (cu := qr43c) (sp := []) (L := []) (fuel := 100000) (k := 0) (lems := []) eDat_t (qh43 sc) (gCu_of (by decide +kernel)) (fun c h => by cases h) rfl (by decide +kernel) (by decide +kernel)
def qs44 : List eSm := qr43 :: qs43
set_option maxRecDepth 100000 in
theorem qh44 (sc : List Nat) : ∀ q ∈ qs44, gSum sc q ∧ eWf 10000 q.2.1 = true := gSu_cons (qr43t sc) (by decide +kernel) (qh43 sc)
/-- LentArms.undo()I -/
def qr44 : eSm := (65, ([], 65, 0, [(1, 49, 0, 0, 50, 0)], [], [], 16000), [((0, 2147483648, 2147483651, 1, 0, 0), []), ((0, 2147483643, 2147483643, 0, 0, 0), [])], [(0, 0, 7), (1, 0, 8), (2, 2, 4), (5, 0, 4), (6, 0, 1), (7, 0, 1), (8, 0, 79), (9, 1, 1), (10, 0, 1), (10, 8, 10), (49, 2, 2)], 0)
def qr44c : List eCt := []
set_option maxRecDepth 100000 in
theorem qr44t (sc : List Nat) : gSum sc qr44 := gSum_of (su := qs44) (inl := ([], [])) (cu := qr44c) (sp := []) (L := []) (fuel := 100000) (k := 0) (lems := []) eDat_t (qh44 sc) (gCu_of (by decide +kernel)) (fun c h => by cases h) rfl (by decide +kernel) (by decide +kernel)
def qs45 : List eSm := qr44 :: qs44
set_option maxRecDepth 100000 in
theorem qh45 (sc : List Nat) : ∀ q ∈ qs45, gSum sc q ∧ eWf 10000 q.2.1 = true := gSu_cons (qr44t sc) (by decide +kernel) (qh44 sc)
/-- LentArms$Arm.copyFrom(LLentArms$Arm;)V -/
def qr45 : eSm := (2, ([], 2, 0, [(1, 22, 0, 0, 10000, 0), (1, 0, 0, 0, 10001, 0)], [], [], 16000), [((0, 2147483648, 2147483648, 0, 0, 0), [])], [(22, 0, 7)], 0)
def qr45c : List eCt := []
set_option maxRecDepth 100000 in
theorem qr45t (sc : List Nat) : gSum sc qr45 := gSum_of (su := qs45) (inl := ([], [])) (cu := qr45c) (sp := []) (L := []) (fuel := 100000) (k := 0) (lems := []) eDat_t (qh45 sc) (gCu_of (by decide +kernel)) (fun c h => by cases h) rfl (by decide +kernel) (by decide +kernel)
def qs46 : List eSm := qr45 :: qs45
set_option maxRecDepth 100000 in
theorem qh46 (sc : List Nat) : ∀ q ∈ qs46, gSum sc q ∧ eWf 10000 q.2.1 = true := gSu_cons (qr45t sc) (by decide +kernel) (qh45 sc)
/-- LentArms$Line.copyFrom(LLentArms$Line;)V -/
def qr46 : eSm := (33, ([], 33, 0, [(1, 24, 0, 0, 10000, 0), (1, 2, 0, 0, 10001, 0)], [], [], 16000), [((0, 2147483648, 2147483648, 0, 0, 0), [])], [(23, 0, 8), (24, 2, 4)], 0)
def qr46c : List eCt := []
set_option maxRecDepth 100000 in
theorem qr46t (sc : List Nat) : gSum sc qr46 := gSum_of (su := qs46) (inl := ([], [])) (cu := qr46c) (sp := []) (L := []) (fuel := 100000) (k := 0) (lems := []) eDat_t (qh46 sc) (gCu_of (by decide +kernel)) (fun c h => by cases h) rfl (by decide +kernel) (by decide +kernel)
def qs47 : List eSm := qr46 :: qs46
set_option maxRecDepth 100000 in
theorem qh47 (sc : List Nat) : ∀ q ∈ qs47, gSum sc q ∧ eWf 10000 q.2.1 = true := gSu_cons (qr46t sc) (by decide +kernel) (qh46 sc)
/-- LentArms$WayLog.copyFrom(LLentArms$WayLog;)V -/
def qr47 : eSm := (49, ([], 49, 0, [(1, 31, 0, 0, 32, 0), (1, 9, 0, 0, 10, 0)], [], [], 16000), [((0, 2147483648, 2147483648, 0, 0, 0), [])], [(30, 0, 79), (31, 1, 1)], 0)
def qr47c : List eCt := []
set_option maxRecDepth 100000 in
theorem qr47t (sc : List Nat) : gSum sc qr47 := gSum_of (su := qs47) (inl := ([], [])) (cu := qr47c) (sp := []) (L := []) (fuel := 100000) (k := 0) (lems := []) eDat_t (qh47 sc) (gCu_of (by decide +kernel)) (fun c h => by cases h) rfl (by decide +kernel) (by decide +kernel)
def qs48 : List eSm := qr47 :: qs47
set_option maxRecDepth 100000 in
theorem qh48 (sc : List Nat) : ∀ q ∈ qs48, gSum sc q ∧ eWf 10000 q.2.1 = true := gSu_cons (qr47t sc) (by decide +kernel) (qh47 sc)
/-- LentArms$Harbour.copyFrom(LLentArms$Harbour;)V -/
def qr48 : eSm := (7, ([], 7, 0, [(1, 32, 0, 0, 33, 0), (1, 10, 0, 0, 11, 0), (3, 0, 0, 0, 0, 0)], [], [], 16000), [((0, 2147483648, 2147483648, 0, 0, 0), [])], [(22, 0, 7), (23, 0, 8), (24, 2, 4), (27, 0, 4), (28, 0, 1), (29, 0, 1), (30, 0, 79), (31, 1, 1), (32, 0, 1), (32, 8, 10)], 0)
def qr48c : List eCt := [(100000, (100002, 1, 2147483648, 2147483664), [([], 7, 18, [(1, 32, 0, 0, 33, 0), (1, 10, 0, 0, 11, 0), (0, 2147483648, 2147483664, 1, 100002, 0)], [], [(33, 32, 0, 1, 0, (0, 2147483648, 2147483664, 1, 105000, 0)), (11, 10, 0, 1, 0, (0, 2147483648, 2147483664, 1, 105001, 0)), (33, 32, 0, 0, 0, (0, 0, 4294967295, 1, 105002, 0)), (11, 10, 0, 0, 0, (0, 0, 4294967295, 1, 105003, 0))], 110000)]), (200000, (200002, 1, 2147483648, 2147483660), [([], 7, 49, [(1, 32, 0, 0, 33, 0), (1, 10, 0, 0, 11, 0), (0, 2147483648, 2147483660, 1, 200002, 0)], [], [(33, 32, 0, 1, 0, (0, 2147483648, 2147483664, 1, 205000, 0)), (11, 10, 0, 1, 0, (0, 2147483648, 2147483664, 1, 205001, 0)), (33, 32, 0, 0, 0, (0, 0, 4294967295, 1, 205002, 0)), (11, 10, 0, 0, 0, (0, 0, 4294967295, 1, 205003, 0))], 210000)])]
set_option maxRecDepth 100000 in
theorem qr48t (sc : List Nat) : gSum sc qr48 := gSum_of (su := qs48) (inl := ([], [])) (cu := qr48c) (sp := []) (L := []) (fuel := 100000) (k := 0) (lems := []) eDat_t (qh48 sc) (gCu_of (by decide +kernel)) (fun c h => by cases h) rfl (by decide +kernel) (by decide +kernel)
def qs49 : List eSm := qr48 :: qs48
set_option maxRecDepth 100000 in
theorem qh49 (sc : List Nat) : ∀ q ∈ qs49, gSum sc q ∧ eWf 10000 q.2.1 = true := gSu_cons (qr48t sc) (by decide +kernel) (qh48 sc)
/-- LentArms.keep()I -/
def qr49 : eSm := (66, ([], 66, 0, [(1, 49, 0, 0, 50, 0)], [], [], 16000), [((0, 0, 4294967295, 1, 0, 0), [])], [(22, 0, 7), (23, 0, 8), (24, 2, 4), (27, 0, 4), (28, 0, 1), (29, 0, 1), (30, 0, 79), (31, 1, 1), (32, 0, 1), (32, 8, 10), (49, 4, 4)], 0)
def qr49c : List eCt := []
set_option maxRecDepth 100000 in
theorem qr49t (sc : List Nat) : gSum sc qr49 := gSum_of (su := qs49) (inl := ([], [])) (cu := qr49c) (sp := []) (L := []) (fuel := 100000) (k := 0) (lems := []) eDat_t (qh49 sc) (gCu_of (by decide +kernel)) (fun c h => by cases h) rfl (by decide +kernel) (by decide +kernel)
def qs50 : List eSm := qr49 :: qs49
set_option maxRecDepth 100000 in
theorem qh50 (sc : List Nat) : ∀ q ∈ qs50, gSum sc q ∧ eWf 10000 q.2.1 = true := gSu_cons (qr49t sc) (by decide +kernel) (qh49 sc)
/-- LentArms$Arm.copyFrom(LLentArms$Arm;)V -/
def qr50 : eSm := (2, ([], 2, 0, [(1, 0, 0, 0, 10000, 0), (1, 22, 0, 0, 10001, 0)], [], [], 16000), [((0, 2147483648, 2147483648, 0, 0, 0), [])], [(0, 0, 7)], 0)
def qr50c : List eCt := []
set_option maxRecDepth 100000 in
theorem qr50t (sc : List Nat) : gSum sc qr50 := gSum_of (su := qs50) (inl := ([], [])) (cu := qr50c) (sp := []) (L := []) (fuel := 100000) (k := 0) (lems := []) eDat_t (qh50 sc) (gCu_of (by decide +kernel)) (fun c h => by cases h) rfl (by decide +kernel) (by decide +kernel)
def qs51 : List eSm := qr50 :: qs50
set_option maxRecDepth 100000 in
theorem qh51 (sc : List Nat) : ∀ q ∈ qs51, gSum sc q ∧ eWf 10000 q.2.1 = true := gSu_cons (qr50t sc) (by decide +kernel) (qh50 sc)
/-- LentArms$Line.copyFrom(LLentArms$Line;)V -/
def qr51 : eSm := (33, ([], 33, 0, [(1, 2, 0, 0, 10000, 0), (1, 24, 0, 0, 10001, 0)], [], [], 16000), [((0, 2147483648, 2147483648, 0, 0, 0), [])], [(1, 0, 8), (2, 2, 4)], 0)
def qr51c : List eCt := []
set_option maxRecDepth 100000 in
theorem qr51t (sc : List Nat) : gSum sc qr51 := gSum_of (su := qs51) (inl := ([], [])) (cu := qr51c) (sp := []) (L := []) (fuel := 100000) (k := 0) (lems := []) eDat_t (qh51 sc) (gCu_of (by decide +kernel)) (fun c h => by cases h) rfl (by decide +kernel) (by decide +kernel)
def qs52 : List eSm := qr51 :: qs51
set_option maxRecDepth 100000 in
theorem qh52 (sc : List Nat) : ∀ q ∈ qs52, gSum sc q ∧ eWf 10000 q.2.1 = true := gSu_cons (qr51t sc) (by decide +kernel) (qh51 sc)
/-- LentArms$WayLog.copyFrom(LLentArms$WayLog;)V -/
def qr52 : eSm := (49, ([], 49, 0, [(1, 9, 0, 0, 10, 0), (1, 31, 0, 0, 32, 0)], [], [], 16000), [((0, 2147483648, 2147483648, 0, 0, 0), [])], [(8, 0, 79), (9, 1, 1)], 0)
def qr52c : List eCt := []
set_option maxRecDepth 100000 in
theorem qr52t (sc : List Nat) : gSum sc qr52 := gSum_of (su := qs52) (inl := ([], [])) (cu := qr52c) (sp := []) (L := []) (fuel := 100000) (k := 0) (lems := []) eDat_t (qh52 sc) (gCu_of (by decide +kernel)) (fun c h => by cases h) rfl (by decide +kernel) (by decide +kernel)
def qs53 : List eSm := qr52 :: qs52
set_option maxRecDepth 100000 in
theorem qh53 (sc : List Nat) : ∀ q ∈ qs53, gSum sc q ∧ eWf 10000 q.2.1 = true := gSu_cons (qr52t sc) (by decide +kernel) (qh52 sc)
/-- LentArms$Harbour.copyFrom(LLentArms$Harbour;)V -/
def qr53 : eSm := (7, ([], 7, 0, [(1, 10, 0, 0, 11, 0), (1, 32, 0, 0, 33, 0), (3, 0, 0, 0, 0, 0)], [], [], 16000), [((0, 2147483648, 2147483648, 0, 0, 0), [])], [(0, 0, 7), (1, 0, 8), (2, 2, 4), (5, 0, 4), (6, 0, 1), (7, 0, 1), (8, 0, 79), (9, 1, 1), (10, 0, 1), (10, 8, 10)], 0)
def qr53c : List eCt := [(100000, (100002, 1, 2147483648, 2147483664), [([], 7, 18, [(1, 10, 0, 0, 11, 0), (1, 32, 0, 0, 33, 0), (0, 2147483648, 2147483664, 1, 100002, 0)], [], [(11, 10, 0, 1, 0, (0, 2147483648, 2147483664, 1, 105000, 0)), (33, 32, 0, 1, 0, (0, 2147483648, 2147483664, 1, 105001, 0)), (11, 10, 0, 0, 0, (0, 0, 4294967295, 1, 105002, 0)), (33, 32, 0, 0, 0, (0, 0, 4294967295, 1, 105003, 0))], 110000)]), (200000, (200002, 1, 2147483648, 2147483660), [([], 7, 49, [(1, 10, 0, 0, 11, 0), (1, 32, 0, 0, 33, 0), (0, 2147483648, 2147483660, 1, 200002, 0)], [], [(11, 10, 0, 1, 0, (0, 2147483648, 2147483664, 1, 205000, 0)), (33, 32, 0, 1, 0, (0, 2147483648, 2147483664, 1, 205001, 0)), (11, 10, 0, 0, 0, (0, 0, 4294967295, 1, 205002, 0)), (33, 32, 0, 0, 0, (0, 0, 4294967295, 1, 205003, 0))], 210000)])]
set_option maxRecDepth 100000 in
theorem qr53t (sc : List Nat) : gSum sc qr53 := gSum_of (su := qs53) (inl := ([], [])) (cu := qr53c) (sp := []) (L := []) (fuel := 100000) (k := 0) (lems := []) eDat_t (qh53 sc) (gCu_of (by decide +kernel)) (fun c h => by cases h) rfl (by decide +kernel) (by decide +kernel)
def qs54 : List eSm := qr53 :: qs53
set_option maxRecDepth 100000 in
theorem qh54 (sc : List Nat) : ∀ q ∈ qs54, gSum sc q ∧ eWf 10000 q.2.1 = true := gSu_cons (qr53t sc) (by decide +kernel) (qh53 sc)
/-- LentArms.restore()I -/
def qr54 : eSm := (67, ([], 67, 0, [(1, 49, 0, 0, 50, 0)], [], [], 16000), [((0, 0, 4294967295, 1, 0, 0), []), ((0, 2147483643, 2147483643, 0, 0, 0), [])], [(0, 0, 7), (1, 0, 8), (2, 2, 4), (5, 0, 4), (6, 0, 1), (7, 0, 1), (8, 0, 79), (9, 1, 1), (10, 0, 1), (10, 8, 10), (11, 0, 7), (12, 0, 8), (13, 2, 4), (16, 0, 4), (17, 0, 1), (18, 0, 1), (19, 0, 79), (20, 1, 1), (21, 0, 1), (21, 8, 10), (48, 0, 3), (49, 2, 2)], 0)
def qr54c : List eCt := []
set_option maxRecDepth 100000 in
theorem qr54t (sc : List Nat) : gSum sc qr54 := gSum_of (su := qs54) (inl := ([], [])) (cu := qr54c) (sp := []) (L := []) (fuel := 100000) (k := 0) (lems := []) eDat_t (qh54 sc) (gCu_of (by decide +kernel)) (fun c h => by cases h) rfl (by decide +kernel) (by decide +kernel)
def qs55 : List eSm := qr54 :: qs54
set_option maxRecDepth 100000 in
theorem qh55 (sc : List Nat) : ∀ q ∈ qs55, gSum sc q ∧ eWf 10000 q.2.1 = true := gSu_cons (qr54t sc) (by decide +kernel) (qh54 sc)
/-- LentArms.arm(II)I -/
def qr55 : eSm := (68, ([], 68, 0, [(1, 49, 0, 0, 50, 0), (0, 0, 4294967295, 1, 10001, 0), (0, 0, 4294967295, 1, 10002, 0), (3, 0, 0, 0, 0, 0)], [], [], 16000), [((0, 2147483646, 2147483647, 1, 0, 0), []), ((0, 0, 4294967295, 1, 0, 0), [])], [], 0)
def qr55c : List eCt := []
set_option maxRecDepth 100000 in
theorem qr55t (sc : List Nat) : gSum sc qr55 := gSum_of (su := qs55) (inl := ([4, 5, 8], [])) (cu := qr55c) (sp := []) (L := []) (fuel := 100000) (k := 0) (lems := []) eDat_t (qh55 sc) (gCu_of (by decide +kernel)) (fun c h => by cases h) rfl (by decide +kernel) (by decide +kernel)
def qs56 : List eSm := qr55 :: qs55
set_option maxRecDepth 100000 in
theorem qh56 (sc : List Nat) : ∀ q ∈ qs56, gSum sc q ∧ eWf 10000 q.2.1 = true := gSu_cons (qr55t sc) (by decide +kernel) (qh55 sc)
/-- LentArms$Harbour.armsAt(II)I -/
def qr56 : eSm := (29, ([], 29, 0, [(1, 10, 0, 0, 11, 0), (0, 2147483648, 2147483659, 1, 10001, 0), (0, 2147483648, 2147483649, 1, 10002, 0), (3, 0, 0, 0, 0, 0), (3, 0, 0, 0, 0, 0)], [], [], 16000), [((0, 0, 4294967295, 1, 0, 0), [])], [], 0)
def qr56c : List eCt := [(100000, (100004, 1, 2147483648, 2147483664), [([], 29, 5, [(1, 10, 0, 0, 11, 0), (0, 2147483648, 2147483659, 1, 100001, 0), (0, 2147483648, 2147483649, 1, 100002, 0), (0, 0, 4294967295, 1, 100003, 0), (0, 2147483648, 2147483664, 1, 100004, 0)], [], [], 110000)])]
set_option maxRecDepth 100000 in
theorem qr56t (sc : List Nat) : gSum sc qr56 := gSum_of (su := qs56) (inl := ([], [])) (cu := qr56c) (sp := []) (L := []) (fuel := 100000) (k := 0) (lems := []) eDat_t (qh56 sc) (gCu_of (by decide +kernel)) (fun c h => by cases h) rfl (by decide +kernel) (by decide +kernel)
def qs57 : List eSm := qr56 :: qs56
set_option maxRecDepth 100000 in
theorem qh57 (sc : List Nat) : ∀ q ∈ qs57, gSum sc q ∧ eWf 10000 q.2.1 = true := gSu_cons (qr56t sc) (by decide +kernel) (qh56 sc)
/-- LentArms$Line.longestWait(I)I -/
def qr57 : eSm := (39, ([], 39, 0, [(1, 2, 0, 0, 10000, 0), (0, 0, 4294967295, 1, 10001, 0), (3, 0, 0, 0, 0, 0), (3, 0, 0, 0, 0, 0)], [], [], 16000), [((0, 2147483648, 4294967295, 1, 0, 0), [])], [], 0)
def qr57c : List eCt := [(100000, (100003, 1, 2147483648, 2147483657), [([], 39, 4, [(1, 2, 0, 0, 100000, 0), (0, 0, 4294967295, 1, 100001, 0), (0, 2147483648, 4294967295, 1, 100002, 0), (0, 2147483648, 2147483657, 1, 100003, 0)], [], [], 110000)])]
set_option maxRecDepth 100000 in
theorem qr57t (sc : List Nat) : gSum sc qr57 := gSum_of (su := qs57) (inl := ([], [])) (cu := qr57c) (sp := []) (L := []) (fuel := 100000) (k := 0) (lems := []) eDat_t (qh57 sc) (gCu_of (by decide +kernel)) (fun c h => by cases h) rfl (by decide +kernel) (by decide +kernel)
def qs58 : List eSm := qr57 :: qs57
set_option maxRecDepth 100000 in
theorem qh58 (sc : List Nat) : ∀ q ∈ qs58, gSum sc q ∧ eWf 10000 q.2.1 = true := gSu_cons (qr57t sc) (by decide +kernel) (qh57 sc)
/-- LentArms$Line.workTogether()I -/
def qr58 : eSm := (38, ([], 38, 0, [(1, 2, 0, 0, 10000, 0), (3, 0, 0, 0, 0, 0), (3, 0, 0, 0, 0, 0)], [], [], 16000), [((0, 0, 4294967295, 1, 0, 0), [])], [], 0)
def qr58c : List eCt := [(100000, (100002, 1, 2147483648, 2147483657), [([], 38, 4, [(1, 2, 0, 0, 100000, 0), (0, 0, 4294967295, 1, 100001, 0), (0, 2147483648, 2147483657, 1, 100002, 0)], [], [], 110000)])]
set_option maxRecDepth 100000 in
theorem qr58t (sc : List Nat) : gSum sc qr58 := gSum_of (su := qs58) (inl := ([], [])) (cu := qr58c) (sp := []) (L := []) (fuel := 100000) (k := 0) (lems := []) eDat_t (qh58 sc) (gCu_of (by decide +kernel)) (fun c h => by cases h) rfl (by decide +kernel) (by decide +kernel)
def qs59 : List eSm := qr58 :: qs58
set_option maxRecDepth 100000 in
theorem qh59 (sc : List Nat) : ∀ q ∈ qs59, gSum sc q ∧ eWf 10000 q.2.1 = true := gSu_cons (qr58t sc) (by decide +kernel) (qh58 sc)
/-- LentArms.quay(II)I -/
def qr59 : eSm := (69, ([], 69, 0, [(1, 49, 0, 0, 50, 0), (0, 0, 4294967295, 1, 10001, 0), (0, 0, 4294967295, 1, 10002, 0), (3, 0, 0, 0, 0, 0)], [], [], 16000), [((0, 2147483643, 2147483647, 1, 0, 0), []), ((0, 0, 4294967295, 1, 0, 0), [])], [], 0)
def qr59c : List eCt := []
set_option maxRecDepth 100000 in
theorem qr59t (sc : List Nat) : gSum sc qr59 := gSum_of (su := qs59) (inl := ([76], [])) (cu := qr59c) (sp := []) (L := []) (fuel := 100000) (k := 0) (lems := []) eDat_t (qh59 sc) (gCu_of (by decide +kernel)) (fun c h => by cases h) rfl (by decide +kernel) (by decide +kernel)
def qs60 : List eSm := qr59 :: qs59
set_option maxRecDepth 100000 in
theorem qh60 (sc : List Nat) : ∀ q ∈ qs60, gSum sc q ∧ eWf 10000 q.2.1 = true := gSu_cons (qr59t sc) (by decide +kernel) (qh59 sc)
/-- LentArms.waiting(III)I -/
def qr60 : eSm := (70, ([], 70, 0, [(1, 49, 0, 0, 50, 0), (0, 0, 4294967295, 1, 10001, 0), (0, 0, 4294967295, 1, 10002, 0), (0, 0, 4294967295, 1, 10003, 0)], [], [], 16000), [((0, 2147483646, 2147483647, 1, 0, 0), []), ((0, 0, 4294967295, 1, 0, 0), [])], [], 0)
def qr60c : List eCt := []
set_option maxRecDepth 100000 in
theorem qr60t (sc : List Nat) : gSum sc qr60 := gSum_of (su := qs60) (inl := ([76], [])) (cu := qr60c) (sp := []) (L := []) (fuel := 100000) (k := 0) (lems := []) eDat_t (qh60 sc) (gCu_of (by decide +kernel)) (fun c h => by cases h) rfl (by decide +kernel) (by decide +kernel)
def qs61 : List eSm := qr60 :: qs60
set_option maxRecDepth 100000 in
theorem qh61 (sc : List Nat) : ∀ q ∈ qs61, gSum sc q ∧ eWf 10000 q.2.1 = true := gSu_cons (qr60t sc) (by decide +kernel) (qh60 sc)
/-- LentArms$Harbour.isOutdone(II)Z -/
def qr61 : eSm := (26, ([], 26, 0, [(1, 10, 0, 0, 11, 0), (0, 2147483648, 2147483659, 1, 10001, 0), (0, 2147483648, 2147483659, 1, 10002, 0), (3, 0, 0, 0, 0, 0), (3, 0, 0, 0, 0, 0), (3, 0, 0, 0, 0, 0), (3, 0, 0, 0, 0, 0)], [], [], 16000), [((0, 2147483648, 2147483649, 1, 0, 0), [])], [], 0)
def qr61c : List eCt := [(100000, (100004, 1, 2147483648, 2147483660), [([], 26, 9, [(1, 10, 0, 0, 11, 0), (0, 2147483648, 2147483659, 1, 100001, 0), (0, 2147483648, 2147483659, 1, 100002, 0), (0, 2147483648, 2147483649, 1, 100003, 0), (0, 2147483648, 2147483648, 0, 100004, 0), (3, 0, 0, 0, 0, 0), (3, 0, 0, 0, 0, 0)], [], [], 110000), ([], 26, 9, [(1, 10, 0, 0, 11, 0), (0, 2147483648, 2147483659, 1, 100001, 0), (0, 2147483648, 2147483659, 1, 100002, 0), (0, 2147483648, 2147483649, 1, 100003, 0), (0, 2147483649, 2147483660, 1, 100004, 0), (0, 2147483648, 4294967295, 1, 100005, 0), (0, 2147483648, 2147483649, 1, 100006, 0)], [], [(5, 4, 1, 100001, 0, (1, 2, 0, 0, 105000, 0)), (5, 4, 0, 0, 0, (1, 2, 0, 0, 105001, 0))], 110000), ([], 26, 9, [(1, 10, 0, 0, 11, 0), (0, 2147483648, 2147483659, 1, 100001, 0), (0, 2147483648, 2147483659, 1, 100002, 0), (0, 2147483648, 2147483649, 1, 100003, 0), (0, 2147483649, 2147483660, 1, 100004, 0), (0, 0, 2147483647, 1, 100005, 0), (0, 2147483648, 2147483648, 0, 100006, 0)], [], [(5, 4, 1, 100001, 0, (1, 2, 0, 0, 105000, 0)), (5, 4, 0, 0, 0, (1, 2, 0, 0, 105001, 0))], 110000)])]
set_option maxRecDepth 100000 in
theorem qr61t (sc : List Nat) : gSum sc qr61 := gSum_of (su := qs61) (inl := ([37, 77], [])) (cu := qr61c) (sp := []) (L := []) (fuel := 100000) (k := 0) (lems := []) eDat_t (qh61 sc) (gCu_of (by decide +kernel)) (fun c h => by cases h) rfl (by decide +kernel) (by decide +kernel)
def qs62 : List eSm := qr61 :: qs61
set_option maxRecDepth 100000 in
theorem qh62 (sc : List Nat) : ∀ q ∈ qs62, gSum sc q ∧ eWf 10000 q.2.1 = true := gSu_cons (qr61t sc) (by decide +kernel) (qh61 sc)
/-- LentArms.reason(II)I -/
def qr62 : eSm := (71, ([], 71, 0, [(1, 49, 0, 0, 50, 0), (0, 0, 4294967295, 1, 10001, 0), (0, 0, 4294967295, 1, 10002, 0), (3, 0, 0, 0, 0, 0)], [], [], 16000), [((0, 2147483647, 2147483647, 0, 0, 0), []), ((0, 2147483648, 2147483653, 1, 0, 0), [])], [], 0)
def qr62c : List eCt := []
set_option maxRecDepth 100000 in
theorem qr62t (sc : List Nat) : gSum sc qr62 := gSum_of (su := qs62) (inl := ([8, 37, 76], [])) (cu := qr62c) (sp := []) (L := []) (fuel := 100000) (k := 0) (lems := []) eDat_t (qh62 sc) (gCu_of (by decide +kernel)) (fun c h => by cases h) rfl (by decide +kernel) (by decide +kernel)
def qs63 : List eSm := qr62 :: qs62
set_option maxRecDepth 100000 in
theorem qh63 (sc : List Nat) : ∀ q ∈ qs63, gSum sc q ∧ eWf 10000 q.2.1 = true := gSu_cons (qr62t sc) (by decide +kernel) (qh62 sc)
