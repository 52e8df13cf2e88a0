/-! ===== rows of the class: printed by wip/gen/emit1.py ===== -/
def p1_s0 : List eSm := []
theorem p1_h0 (sc : List Nat) : ∀ q ∈ p1_s0, gSum sc q ∧ eWf 10000 q.2.1 = true := fun q h => by cases h
/-- LentArms$Harbour.copyFrom -/
def p1_r0 : eSm := (7, ([], 7, 0, [(1, 3, 0, 0, 10000, 0), (1, 2, 0, 0, 3, 0), (3, 0, 0, 0, 0, 0)], [], [(3, 2, 0, 1, 0, (0, 2147483648, 2147483648, 0, 15000, 0))], 16000), [((0, 2147483648, 2147483648, 0, 0, 0), [])], [(3, 0, 1), (3, 8, 10), (28, 0, 8), (29, 2, 4), (32, 0, 4), (33, 0, 1), (34, 0, 1), (35, 0, 79), (36, 1, 1)], 0)
def p1_r0c : List eCt := []
set_option maxRecDepth 100000 in
theorem p1_r0t (sc : List Nat) : gSum sc p1_r0 := gSum_of (su := p1_s0) (inl := ([33, 49], [])) (cu := p1_r0c) (sp := []) (L := []) (fuel := 100000) (k := 0) (lems := []) eDat_t (p1_h0 sc) (gCu_of (by decide +kernel)) (fun c h => by cases h) rfl (by decide +kernel) (by decide +kernel)
def p1_s1 : List eSm := p1_r0 :: p1_s0
set_option maxRecDepth 100000 in
theorem p1_h1 (sc : List Nat) : ∀ q ∈ p1_s1, gSum sc q ∧ eWf 10000 q.2.1 = true := gSu_cons (p1_r0t sc) (by decide +kernel) (p1_h0 sc)
/-- LentArms$Harbour.copyFrom -/
def p1_r1 : eSm := (7, ([], 7, 0, [(1, 4, 0, 0, 5, 0), (1, 2, 0, 0, 3, 0), (3, 0, 0, 0, 0, 0)], [], [(3, 2, 0, 1, 0, (0, 2147483648, 2147483648, 0, 15000, 0))], 16000), [((0, 2147483648, 2147483648, 0, 0, 0), [])], [(4, 0, 1), (4, 8, 10), (38, 0, 8), (39, 2, 4), (42, 0, 4), (43, 0, 1), (44, 0, 1), (45, 0, 79), (46, 1, 1)], 0)
def p1_r1c : List eCt := []
set_option maxRecDepth 100000 in
theorem p1_r1t (sc : List Nat) : gSum sc p1_r1 := gSum_of (su := p1_s1) (inl := ([33, 49], [])) (cu := p1_r1c) (sp := []) (L := []) (fuel := 100000) (k := 0) (lems := []) eDat_t (p1_h1 sc) (gCu_of (by decide +kernel)) (fun c h => by cases h) rfl (by decide +kernel) (by decide +kernel)
def p1_s2 : List eSm := p1_r1 :: p1_s1
set_option maxRecDepth 100000 in
theorem p1_h2 (sc : List Nat) : ∀ q ∈ p1_s2, gSum sc q ∧ eWf 10000 q.2.1 = true := gSu_cons (p1_r1t sc) (by decide +kernel) (p1_h1 sc)
/-- LentArms$Harbour.copyFrom -/
def p1_r2 : eSm := (7, ([], 7, 0, [(1, 5, 0, 0, 6, 0), (1, 2, 0, 0, 3, 0), (3, 0, 0, 0, 0, 0)], [], [(3, 2, 0, 1, 0, (0, 2147483648, 2147483648, 0, 15000, 0)), (9, 8, 0, 2, 0, (0, 2147483648, 2147483648, 0, 15001, 0)), (10, 9, 0, 2, 0, (0, 2147483648, 2147483648, 0, 15002, 0)), (11, 10, 0, 2, 0, (0, 2147483648, 2147483648, 0, 15003, 0)), (12, 11, 0, 2, 0, (0, 2147483648, 2147483648, 0, 15004, 0)), (13, 12, 0, 2, 0, (0, 2147483648, 2147483648, 0, 15005, 0)), (14, 13, 0, 2, 0, (0, 2147483648, 2147483648, 0, 15006, 0)), (15, 14, 0, 2, 0, (0, 2147483648, 2147483648, 0, 15007, 0)), (16, 15, 0, 2, 0, (0, 2147483648, 2147483648, 0, 15008, 0)), (17, 16, 0, 2, 0, (0, 2147483648, 2147483648, 0, 15009, 0)), (18, 17, 0, 2, 0, (0, 2147483648, 2147483648, 0, 15010, 0)), (19, 18, 0, 2, 0, (0, 2147483648, 2147483648, 0, 15011, 0)), (20, 19, 0, 2, 0, (0, 2147483648, 2147483648, 0, 15012, 0))], 16000), [((0, 2147483648, 2147483648, 0, 0, 0), [(6, 5, 0, 1, 0, (0, 2147483648, 2147483648, 0, 0, 0))])], [(5, 0, 1), (5, 8, 10), (49, 0, 8), (50, 2, 4), (53, 0, 4), (54, 0, 1), (55, 0, 1), (56, 0, 79), (57, 1, 1)], 0)
def p1_r2c : List eCt := []
set_option maxRecDepth 100000 in
theorem p1_r2t (sc : List Nat) : gSum sc p1_r2 := gSum_of (su := p1_s2) (inl := ([33, 49], [])) (cu := p1_r2c) (sp := []) (L := []) (fuel := 100000) (k := 0) (lems := []) eDat_t (p1_h2 sc) (gCu_of (by decide +kernel)) (fun c h => by cases h) rfl (by decide +kernel) (by decide +kernel)
def p1_s3 : List eSm := p1_r2 :: p1_s2
set_option maxRecDepth 100000 in
theorem p1_h3 (sc : List Nat) : ∀ q ∈ p1_s3, gSum sc q ∧ eWf 10000 q.2.1 = true := gSu_cons (p1_r2t sc) (by decide +kernel) (p1_h2 sc)
/-- LentArms$Harbour.waitingTogether -/
def p1_r3 : eSm := (27, ([], 27, 0, [(1, 5, 0, 0, 6, 0), (3, 0, 0, 0, 0, 0), (3, 0, 0, 0, 0, 0)], [], [], 16000), [((0, 2147483648, 2147483648, 0, 0, 0), [])], [], 0)
def p1_r3c : List eCt := [(100000, (100002, 1, 2147483648, 2147483660), [([], 27, 4, [(1, 5, 0, 0, 6, 0), (0, 2147483648, 2147483648, 0, 100001, 0), (0, 2147483648, 2147483660, 1, 100002, 0)], [], [], 110000)])]
set_option maxRecDepth 100000 in
theorem p1_r3t (sc : List Nat) : gSum sc p1_r3 := gSum_of (su := p1_s3) (inl := ([], [])) (cu := p1_r3c) (sp := []) (L := []) (fuel := 100000) (k := 0) (lems := []) eDat_t (p1_h3 sc) (gCu_of (by decide +kernel)) (fun c h => by cases h) rfl (by decide +kernel) (by decide +kernel)
def p1_s4 : List eSm := p1_r3 :: p1_s3
set_option maxRecDepth 100000 in
theorem p1_h4 (sc : List Nat) : ∀ q ∈ p1_s4, gSum sc q ∧ eWf 10000 q.2.1 = true := gSu_cons (p1_r3t sc) (by decide +kernel) (p1_h3 sc)
/-- LentArms$Harbour.waitingTogether -/
def p1_r4 : eSm := (27, ([], 27, 0, [(1, 2, 0, 0, 3, 0), (3, 0, 0, 0, 0, 0), (3, 0, 0, 0, 0, 0)], [], [(9, 8, 0, 2, 0, (0, 2147483648, 2147483648, 0, 15000, 0)), (10, 9, 0, 2, 0, (0, 2147483648, 2147483648, 0, 15001, 0)), (11, 10, 0, 2, 0, (0, 2147483648, 2147483648, 0, 15002, 0)), (12, 11, 0, 2, 0, (0, 2147483648, 2147483648, 0, 15003, 0)), (13, 12, 0, 2, 0, (0, 2147483648, 2147483648, 0, 15004, 0)), (14, 13, 0, 2, 0, (0, 2147483648, 2147483648, 0, 15005, 0)), (15, 14, 0, 2, 0, (0, 2147483648, 2147483648, 0, 15006, 0)), (16, 15, 0, 2, 0, (0, 2147483648, 2147483648, 0, 15007, 0)), (17, 16, 0, 2, 0, (0, 2147483648, 2147483648, 0, 15008, 0)), (18, 17, 0, 2, 0, (0, 2147483648, 2147483648, 0, 15009, 0)), (19, 18, 0, 2, 0, (0, 2147483648, 2147483648, 0, 15010, 0)), (20, 19, 0, 2, 0, (0, 2147483648, 2147483648, 0, 15011, 0))], 16000), [((0, 2147483648, 2147483648, 0, 0, 0), [])], [], 0)
def p1_r4c : List eCt := []
set_option maxRecDepth 100000 in
theorem p1_r4t (sc : List Nat) : gSum sc p1_r4 := gSum_of (su := p1_s4) (inl := ([], [])) (cu := p1_r4c) (sp := []) (L := []) (fuel := 100000) (k := 0) (lems := []) eDat_t (p1_h4 sc) (gCu_of (by decide +kernel)) (fun c h => by cases h) rfl (by decide +kernel) (by decide +kernel)
def p1_s5 : List eSm := p1_r4 :: p1_s4
set_option maxRecDepth 100000 in
theorem p1_h5 (sc : List Nat) : ∀ q ∈ p1_s5, gSum sc q ∧ eWf 10000 q.2.1 = true := gSu_cons (p1_r4t sc) (by decide +kernel) (p1_h4 sc)
/-- LentArms$Harbour.neediest -/
def p1_r5 : eSm := (24, ([], 24, 0, [(1, 5, 0, 0, 6, 0), (0, 2147483648, 2147483659, 1, 10001, 0), (0, 2147483648, 2147483660, 1, 10002, 0), (3, 0, 0, 0, 0, 0), (3, 0, 0, 0, 0, 0), (3, 0, 0, 0, 0, 0)], [], [], 16000), [((0, 2147483647, 2147483647, 0, 0, 0), [])], [], 0)
def p1_r5c : List eCt := [(100000, (100005, 1, 2147483648, 2147483660), [([], 24, 8, [(1, 5, 0, 0, 6, 0), (0, 2147483648, 2147483659, 1, 100001, 0), (0, 2147483648, 2147483660, 1, 100002, 0), (0, 2147483647, 2147483647, 0, 100003, 0), (0, 2147483649, 2147483649, 0, 100004, 0), (0, 2147483648, 2147483660, 1, 100005, 0)], [], [], 110000)])]
set_option maxRecDepth 100000 in
theorem p1_r5t (sc : List Nat) : gSum sc p1_r5 := gSum_of (su := p1_s5) (inl := ([37], [])) (cu := p1_r5c) (sp := []) (L := []) (fuel := 100000) (k := 0) (lems := []) eDat_t (p1_h5 sc) (gCu_of (by decide +kernel)) (fun c h => by cases h) rfl (by decide +kernel) (by decide +kernel)
def p1_s6 : List eSm := p1_r5 :: p1_s5
set_option maxRecDepth 100000 in
theorem p1_h6 (sc : List Nat) : ∀ q ∈ p1_s6, gSum sc q ∧ eWf 10000 q.2.1 = true := gSu_cons (p1_r5t sc) (by decide +kernel) (p1_h5 sc)
/-- LentArms$Harbour.lookInBasins -/
def p1_r6 : eSm := (20, ([], 20, 0, [(1, 5, 0, 0, 6, 0), (3, 0, 0, 0, 0, 0), (3, 0, 0, 0, 0, 0)], [], [(6, 5, 0, 1, 0, (0, 2147483648, 2147483648, 0, 15000, 0))], 16000), [((0, 2147483648, 2147483648, 0, 0, 0), [])], [(54, 0, 0), (55, 0, 0)], 0)
def p1_r6c : List eCt := [(100000, (100002, 1, 2147483648, 2147483651), [([], 20, 10, [(1, 5, 0, 0, 6, 0), (0, 2147483648, 2147483648, 0, 100001, 0), (0, 2147483648, 2147483651, 1, 100002, 0)], [], [(58, 57, 0, 1, 0, (0, 2147483648, 2147483648, 0, 105000, 0)), (6, 5, 0, 1, 0, (0, 2147483648, 2147483648, 0, 105001, 0))], 110000)])]
set_option maxRecDepth 100000 in
theorem p1_r6t (sc : List Nat) : gSum sc p1_r6 := gSum_of (su := p1_s6) (inl := ([22, 23], [])) (cu := p1_r6c) (sp := []) (L := []) (fuel := 100000) (k := 0) (lems := []) eDat_t (p1_h6 sc) (gCu_of (by decide +kernel)) (fun c h => by cases h) rfl (by decide +kernel) (by decide +kernel)
def p1_s7 : List eSm := p1_r6 :: p1_s6
set_option maxRecDepth 100000 in
theorem p1_h7 (sc : List Nat) : ∀ q ∈ p1_s7, gSum sc q ∧ eWf 10000 q.2.1 = true := gSu_cons (p1_r6t sc) (by decide +kernel) (p1_h6 sc)
/-- LentArms$Harbour.lookOverPort -/
def p1_r7 : eSm := (21, ([], 21, 0, [(1, 5, 0, 0, 6, 0), (3, 0, 0, 0, 0, 0)], [], [(6, 5, 0, 1, 0, (0, 2147483648, 2147483648, 0, 15000, 0))], 16000), [((0, 2147483648, 2147483648, 0, 0, 0), [])], [(54, 1, 1), (55, 1, 1)], 0)
def p1_r7c : List eCt := []
set_option maxRecDepth 100000 in
theorem p1_r7t (sc : List Nat) : gSum sc p1_r7 := gSum_of (su := p1_s7) (inl := ([22, 23], [])) (cu := p1_r7c) (sp := []) (L := []) (fuel := 100000) (k := 0) (lems := []) eDat_t (p1_h7 sc) (gCu_of (by decide +kernel)) (fun c h => by cases h) rfl (by decide +kernel) (by decide +kernel)
def p1_s8 : List eSm := p1_r7 :: p1_s7
set_option maxRecDepth 100000 in
theorem p1_h8 (sc : List Nat) : ∀ q ∈ p1_s8, gSum sc q ∧ eWf 10000 q.2.1 = true := gSu_cons (p1_r7t sc) (by decide +kernel) (p1_h7 sc)
/-- LentArms$Harbour.lookInBasins -/
def p1_r8 : eSm := (20, ([], 20, 0, [(1, 2, 0, 0, 3, 0), (3, 0, 0, 0, 0, 0), (3, 0, 0, 0, 0, 0)], [], [(3, 2, 0, 1, 0, (0, 2147483648, 2147483648, 0, 15000, 0))], 16000), [((0, 2147483648, 2147483648, 0, 0, 0), [])], [(23, 0, 0), (24, 0, 0)], 0)
def p1_r8c : List eCt := [(100000, (100002, 1, 2147483648, 2147483651), [([], 20, 10, [(1, 2, 0, 0, 3, 0), (0, 2147483648, 2147483648, 0, 100001, 0), (0, 2147483648, 2147483651, 1, 100002, 0)], [], [(27, 26, 0, 1, 0, (0, 2147483648, 2147483648, 0, 105000, 0)), (3, 2, 0, 1, 0, (0, 2147483648, 2147483648, 0, 105001, 0))], 110000)])]
set_option maxRecDepth 100000 in
theorem p1_r8t (sc : List Nat) : gSum sc p1_r8 := gSum_of (su := p1_s8) (inl := ([22, 23], [])) (cu := p1_r8c) (sp := []) (L := []) (fuel := 100000) (k := 0) (lems := []) eDat_t (p1_h8 sc) (gCu_of (by decide +kernel)) (fun c h => by cases h) rfl (by decide +kernel) (by decide +kernel)
def p1_s9 : List eSm := p1_r8 :: p1_s8
set_option maxRecDepth 100000 in
theorem p1_h9 (sc : List Nat) : ∀ q ∈ p1_s9, gSum sc q ∧ eWf 10000 q.2.1 = true := gSu_cons (p1_r8t sc) (by decide +kernel) (p1_h8 sc)
/-- LentArms$Harbour.lookOverPort -/
def p1_r9 : eSm := (21, ([], 21, 0, [(1, 2, 0, 0, 3, 0), (3, 0, 0, 0, 0, 0)], [], [(3, 2, 0, 1, 0, (0, 2147483648, 2147483648, 0, 15000, 0))], 16000), [((0, 2147483648, 2147483648, 0, 0, 0), [])], [(23, 1, 1), (24, 1, 1)], 0)
def p1_r9c : List eCt := []
set_option maxRecDepth 100000 in
theorem p1_r9t (sc : List Nat) : gSum sc p1_r9 := gSum_of (su := p1_s9) (inl := ([22, 23], [])) (cu := p1_r9c) (sp := []) (L := []) (fuel := 100000) (k := 0) (lems := []) eDat_t (p1_h9 sc) (gCu_of (by decide +kernel)) (fun c h => by cases h) rfl (by decide +kernel) (by decide +kernel)
def p1_s10 : List eSm := p1_r9 :: p1_s9
set_option maxRecDepth 100000 in
theorem p1_h10 (sc : List Nat) : ∀ q ∈ p1_s10, gSum sc q ∧ eWf 10000 q.2.1 = true := gSu_cons (p1_r9t sc) (by decide +kernel) (p1_h9 sc)
/-- LentArms$Harbour.lookInBasins -/
def p1_r10 : eSm := (20, ([], 20, 0, [(1, 5, 0, 0, 6, 0), (3, 0, 0, 0, 0, 0), (3, 0, 0, 0, 0, 0)], [], [(48, 47, 0, 0, 0, (0, 2147483648, 2147483659, 1, 15000, 0)), (48, 47, 0, 1, 0, (0, 2147483648, 2147483659, 1, 15000, 0)), (6, 5, 0, 1, 0, (0, 2147483649, 2147483649, 0, 15002, 0))], 16000), [((0, 2147483648, 2147483648, 0, 0, 0), [])], [(54, 0, 0), (55, 0, 0)], 0)
def p1_r10c : List eCt := [(100000, (100002, 1, 2147483648, 2147483651), [([], 20, 10, [(1, 5, 0, 0, 6, 0), (0, 2147483648, 2147483648, 0, 100001, 0), (0, 2147483648, 2147483651, 1, 100002, 0)], [], [(58, 57, 0, 1, 0, (0, 2147483648, 2147483648, 0, 105000, 0)), (48, 47, 0, 0, 0, (0, 2147483648, 2147483659, 1, 105001, 0)), (48, 47, 0, 1, 0, (0, 2147483648, 2147483659, 1, 105001, 0)), (6, 5, 0, 1, 0, (0, 2147483649, 2147483649, 0, 105003, 0))], 110000)])]
set_option maxRecDepth 100000 in
theorem p1_r10t (sc : List Nat) : gSum sc p1_r10 := gSum_of (su := p1_s10) (inl := ([22, 23], [])) (cu := p1_r10c) (sp := []) (L := []) (fuel := 100000) (k := 0) (lems := []) eDat_t (p1_h10 sc) (gCu_of (by decide +kernel)) (fun c h => by cases h) rfl (by decide +kernel) (by decide +kernel)
def p1_s11 : List eSm := p1_r10 :: p1_s10
set_option maxRecDepth 100000 in
theorem p1_h11 (sc : List Nat) : ∀ q ∈ p1_s11, gSum sc q ∧ eWf 10000 q.2.1 = true := gSu_cons (p1_r10t sc) (by decide +kernel) (p1_h10 sc)
/-- LentArms$Harbour.lookOverPort -/
def p1_r11 : eSm := (21, ([], 21, 0, [(1, 5, 0, 0, 6, 0), (3, 0, 0, 0, 0, 0)], [], [(48, 47, 0, 0, 0, (0, 2147483648, 2147483659, 1, 15000, 0)), (48, 47, 0, 1, 0, (0, 2147483648, 2147483659, 1, 15000, 0)), (6, 5, 0, 1, 0, (0, 2147483649, 2147483649, 0, 15002, 0))], 16000), [((0, 2147483648, 2147483648, 0, 0, 0), [])], [(54, 1, 1), (55, 1, 1)], 0)
def p1_r11c : List eCt := []
set_option maxRecDepth 100000 in
theorem p1_r11t (sc : List Nat) : gSum sc p1_r11 := gSum_of (su := p1_s11) (inl := ([22, 23], [])) (cu := p1_r11c) (sp := []) (L := []) (fuel := 100000) (k := 0) (lems := []) eDat_t (p1_h11 sc) (gCu_of (by decide +kernel)) (fun c h => by cases h) rfl (by decide +kernel) (by decide +kernel)
def p1_s12 : List eSm := p1_r11 :: p1_s11
set_option maxRecDepth 100000 in
theorem p1_h12 (sc : List Nat) : ∀ q ∈ p1_s12, gSum sc q ∧ eWf 10000 q.2.1 = true := gSu_cons (p1_r11t sc) (by decide +kernel) (p1_h11 sc)
/-- LentArms$Harbour.tick -/
def p1_r12 : eSm := (14, ([], 14, 0, [(1, 5, 0, 0, 6, 0)], [], [(6, 5, 0, 1, 0, (0, 2147483648, 2147483648, 0, 15000, 0))], 16000), [((0, 2147483648, 2147483648, 0, 0, 0), [])], [(5, 0, 0), (5, 10, 10), (54, 0, 1), (55, 0, 1)], 0)
def p1_r12c : List eCt := []
set_option maxRecDepth 100000 in
theorem p1_r12t (sc : List Nat) : gSum sc p1_r12 := gSum_of (su := p1_s12) (inl := ([15, 18, 19], [])) (cu := p1_r12c) (sp := []) (L := []) (fuel := 100000) (k := 0) (lems := []) eDat_t (p1_h12 sc) (gCu_of (by decide +kernel)) (fun c h => by cases h) rfl (by decide +kernel) (by decide +kernel)
def p1_s13 : List eSm := p1_r12 :: p1_s12
set_option maxRecDepth 100000 in
theorem p1_h13 (sc : List Nat) : ∀ q ∈ p1_s13, gSum sc q ∧ eWf 10000 q.2.1 = true := gSu_cons (p1_r12t sc) (by decide +kernel) (p1_h12 sc)
/-- LentArms$Harbour.tick -/
def p1_r13 : eSm := (14, ([], 14, 0, [(1, 2, 0, 0, 3, 0)], [], [(3, 2, 0, 1, 0, (0, 2147483648, 2147483648, 0, 15000, 0)), (9, 8, 0, 2, 0, (0, 2147483648, 2147483648, 0, 15001, 0)), (10, 9, 0, 2, 0, (0, 2147483648, 2147483648, 0, 15002, 0)), (11, 10, 0, 2, 0, (0, 2147483648, 2147483648, 0, 15003, 0)), (12, 11, 0, 2, 0, (0, 2147483648, 2147483648, 0, 15004, 0)), (13, 12, 0, 2, 0, (0, 2147483648, 2147483648, 0, 15005, 0)), (14, 13, 0, 2, 0, (0, 2147483648, 2147483648, 0, 15006, 0)), (15, 14, 0, 2, 0, (0, 2147483648, 2147483648, 0, 15007, 0)), (16, 15, 0, 2, 0, (0, 2147483648, 2147483648, 0, 15008, 0)), (17, 16, 0, 2, 0, (0, 2147483648, 2147483648, 0, 15009, 0)), (18, 17, 0, 2, 0, (0, 2147483648, 2147483648, 0, 15010, 0)), (19, 18, 0, 2, 0, (0, 2147483648, 2147483648, 0, 15011, 0)), (20, 19, 0, 2, 0, (0, 2147483648, 2147483648, 0, 15012, 0))], 16000), [((0, 2147483648, 2147483648, 0, 0, 0), [])], [(2, 0, 0), (2, 10, 10), (23, 0, 1), (24, 0, 1)], 0)
def p1_r13c : List eCt := []
set_option maxRecDepth 100000 in
theorem p1_r13t (sc : List Nat) : gSum sc p1_r13 := gSum_of (su := p1_s13) (inl := ([15, 18, 19], [])) (cu := p1_r13c) (sp := []) (L := []) (fuel := 100000) (k := 0) (lems := []) eDat_t (p1_h13 sc) (gCu_of (by decide +kernel)) (fun c h => by cases h) rfl (by decide +kernel) (by decide +kernel)
def p1_s14 : List eSm := p1_r13 :: p1_s13
set_option maxRecDepth 100000 in
theorem p1_h14 (sc : List Nat) : ∀ q ∈ p1_s14, gSum sc q ∧ eWf 10000 q.2.1 = true := gSu_cons (p1_r13t sc) (by decide +kernel) (p1_h13 sc)
/-- LentArms$Harbour.tick -/
def p1_r14 : eSm := (14, ([], 14, 0, [(1, 5, 0, 0, 6, 0)], [], [(48, 47, 0, 0, 0, (0, 2147483648, 2147483659, 1, 15000, 0)), (48, 47, 0, 1, 0, (0, 2147483648, 2147483659, 1, 15000, 0)), (6, 5, 0, 1, 0, (0, 2147483649, 2147483649, 0, 15002, 0))], 16000), [((0, 2147483648, 2147483648, 0, 0, 0), [])], [(5, 0, 0), (5, 10, 10), (47, 7, 7), (54, 0, 1), (55, 0, 1)], 0)
def p1_r14c : List eCt := []
set_option maxRecDepth 100000 in
theorem p1_r14t (sc : List Nat) : gSum sc p1_r14 := gSum_of (su := p1_s14) (inl := ([4, 15, 18, 19], [])) (cu := p1_r14c) (sp := []) (L := []) (fuel := 100000) (k := 0) (lems := []) eDat_t (p1_h14 sc) (gCu_of (by decide +kernel)) (fun c h => by cases h) rfl (by decide +kernel) (by decide +kernel)
def p1_s15 : List eSm := p1_r14 :: p1_s14
set_option maxRecDepth 100000 in
theorem p1_h15 (sc : List Nat) : ∀ q ∈ p1_s15, gSum sc q ∧ eWf 10000 q.2.1 = true := gSu_cons (p1_r14t sc) (by decide +kernel) (p1_h14 sc)
/-- LentArms$Harbour.pass -/
def p1_r15 : eSm := (13, ([], 13, 0, [(1, 5, 0, 0, 6, 0), (0, 2147483648, 2147483848, 1, 10001, 0), (3, 0, 0, 0, 0, 0)], [], [(6, 5, 0, 1, 0, (0, 2147483648, 2147483648, 0, 15000, 0))], 16000), [((0, 2147483648, 2147483648, 0, 0, 0), [])], [(5, 0, 0), (5, 10, 10), (54, 0, 1), (55, 0, 1)], 0)
def p1_r15c : List eCt := [(100000, (100002, 1, 2147483648, 2147483848), [([], 13, 2, [(1, 5, 0, 0, 6, 0), (0, 2147483648, 2147483848, 1, 100001, 0), (0, 2147483648, 2147483848, 1, 100002, 0)], [], [(6, 5, 0, 1, 0, (0, 2147483648, 2147483648, 0, 105000, 0))], 110000)])]
set_option maxRecDepth 100000 in
theorem p1_r15t (sc : List Nat) : gSum sc p1_r15 := gSum_of (su := p1_s15) (inl := ([], [])) (cu := p1_r15c) (sp := []) (L := []) (fuel := 100000) (k := 0) (lems := []) eDat_t (p1_h15 sc) (gCu_of (by decide +kernel)) (fun c h => by cases h) rfl (by decide +kernel) (by decide +kernel)
def p1_s16 : List eSm := p1_r15 :: p1_s15
set_option maxRecDepth 100000 in
theorem p1_h16 (sc : List Nat) : ∀ q ∈ p1_s16, gSum sc q ∧ eWf 10000 q.2.1 = true := gSu_cons (p1_r15t sc) (by decide +kernel) (p1_h15 sc)
/-- LentArms$Harbour.pass -/
def p1_r16 : eSm := (13, ([], 13, 0, [(1, 2, 0, 0, 3, 0), (0, 2147483648, 2147483848, 1, 10001, 0), (3, 0, 0, 0, 0, 0)], [], [(3, 2, 0, 1, 0, (0, 2147483648, 2147483648, 0, 15000, 0)), (9, 8, 0, 2, 0, (0, 2147483648, 2147483648, 0, 15001, 0)), (10, 9, 0, 2, 0, (0, 2147483648, 2147483648, 0, 15002, 0)), (11, 10, 0, 2, 0, (0, 2147483648, 2147483648, 0, 15003, 0)), (12, 11, 0, 2, 0, (0, 2147483648, 2147483648, 0, 15004, 0)), (13, 12, 0, 2, 0, (0, 2147483648, 2147483648, 0, 15005, 0)), (14, 13, 0, 2, 0, (0, 2147483648, 2147483648, 0, 15006, 0)), (15, 14, 0, 2, 0, (0, 2147483648, 2147483648, 0, 15007, 0)), (16, 15, 0, 2, 0, (0, 2147483648, 2147483648, 0, 15008, 0)), (17, 16, 0, 2, 0, (0, 2147483648, 2147483648, 0, 15009, 0)), (18, 17, 0, 2, 0, (0, 2147483648, 2147483648, 0, 15010, 0)), (19, 18, 0, 2, 0, (0, 2147483648, 2147483648, 0, 15011, 0)), (20, 19, 0, 2, 0, (0, 2147483648, 2147483648, 0, 15012, 0))], 16000), [((0, 2147483648, 2147483648, 0, 0, 0), [])], [(2, 0, 0), (2, 10, 10), (23, 0, 1), (24, 0, 1)], 0)
def p1_r16c : List eCt := [(100000, (100002, 1, 2147483648, 2147483848), [([], 13, 2, [(1, 2, 0, 0, 3, 0), (0, 2147483648, 2147483848, 1, 100001, 0), (0, 2147483648, 2147483848, 1, 100002, 0)], [], [(3, 2, 0, 1, 0, (0, 2147483648, 2147483648, 0, 105000, 0)), (9, 8, 0, 2, 0, (0, 2147483648, 2147483648, 0, 105001, 0)), (10, 9, 0, 2, 0, (0, 2147483648, 2147483648, 0, 105002, 0)), (11, 10, 0, 2, 0, (0, 2147483648, 2147483648, 0, 105003, 0)), (12, 11, 0, 2, 0, (0, 2147483648, 2147483648, 0, 105004, 0)), (13, 12, 0, 2, 0, (0, 2147483648, 2147483648, 0, 105005, 0)), (14, 13, 0, 2, 0, (0, 2147483648, 2147483648, 0, 105006, 0)), (15, 14, 0, 2, 0, (0, 2147483648, 2147483648, 0, 105007, 0)), (16, 15, 0, 2, 0, (0, 2147483648, 2147483648, 0, 105008, 0)), (17, 16, 0, 2, 0, (0, 2147483648, 2147483648, 0, 105009, 0)), (18, 17, 0, 2, 0, (0, 2147483648, 2147483648, 0, 105010, 0)), (19, 18, 0, 2, 0, (0, 2147483648, 2147483648, 0, 105011, 0)), (20, 19, 0, 2, 0, (0, 2147483648, 2147483648, 0, 105012, 0))], 110000)])]
set_option maxRecDepth 100000 in
theorem p1_r16t (sc : List Nat) : gSum sc p1_r16 := gSum_of (su := p1_s16) (inl := ([], [])) (cu := p1_r16c) (sp := []) (L := []) (fuel := 100000) (k := 0) (lems := []) eDat_t (p1_h16 sc) (gCu_of (by decide +kernel)) (fun c h => by cases h) rfl (by decide +kernel) (by decide +kernel)
def p1_s17 : List eSm := p1_r16 :: p1_s16
set_option maxRecDepth 100000 in
theorem p1_h17 (sc : List Nat) : ∀ q ∈ p1_s17, gSum sc q ∧ eWf 10000 q.2.1 = true := gSu_cons (p1_r16t sc) (by decide +kernel) (p1_h16 sc)
/-- LentArms$Harbour.pass -/
def p1_r17 : eSm := (13, ([], 13, 0, [(1, 5, 0, 0, 6, 0), (0, 2147483648, 2147483708, 1, 10001, 0), (3, 0, 0, 0, 0, 0)], [], [(48, 47, 0, 0, 0, (0, 2147483648, 2147483659, 1, 15000, 0)), (48, 47, 0, 1, 0, (0, 2147483648, 2147483659, 1, 15000, 0)), (6, 5, 0, 1, 0, (0, 2147483649, 2147483649, 0, 15002, 0))], 16000), [((0, 2147483648, 2147483648, 0, 0, 0), [])], [(5, 0, 0), (5, 10, 10), (47, 7, 7), (54, 0, 1), (55, 0, 1)], 0)
def p1_r17c : List eCt := [(100000, (100002, 1, 2147483648, 2147483708), [([], 13, 2, [(1, 5, 0, 0, 6, 0), (0, 2147483648, 2147483708, 1, 100001, 0), (0, 2147483648, 2147483708, 1, 100002, 0)], [], [(48, 47, 0, 0, 0, (0, 2147483648, 2147483659, 1, 105000, 0)), (48, 47, 0, 1, 0, (0, 2147483648, 2147483659, 1, 105000, 0)), (6, 5, 0, 1, 0, (0, 2147483649, 2147483649, 0, 105002, 0))], 110000)])]
set_option maxRecDepth 100000 in
theorem p1_r17t (sc : List Nat) : gSum sc p1_r17 := gSum_of (su := p1_s17) (inl := ([], [])) (cu := p1_r17c) (sp := []) (L := []) (fuel := 100000) (k := 0) (lems := []) eDat_t (p1_h17 sc) (gCu_of (by decide +kernel)) (fun c h => by cases h) rfl (by decide +kernel) (by decide +kernel)
def p1_s18 : List eSm := p1_r17 :: p1_s17
set_option maxRecDepth 100000 in
theorem p1_h18 (sc : List Nat) : ∀ q ∈ p1_s18, gSum sc q ∧ eWf 10000 q.2.1 = true := gSu_cons (p1_r17t sc) (by decide +kernel) (p1_h17 sc)
