/-! ===== rows of the methods, 4: printed by wip/gen/emit11.py ===== -/
/-- LentArmsModel.ticks([I)V -/
def qr127 : eSm := (101, ([], 101, 0, [(1, 50, 0, 0, 51, 0), (3, 0, 0, 0, 0, 0), (3, 0, 0, 0, 0, 0)], [], [], 16000), [((0, 2147483648, 2147483648, 0, 0, 0), [])], [(50, 0, 0), (50, 7, 94), (50, 97, 470)], 0)
def qr127c : List eCt := [(100000, (100001, 1, 2147483648, 2147483664), [([], 101, 9, [(1, 50, 0, 0, 51, 0), (0, 2147483648, 2147483648, 0, 100001, 0), (3, 0, 0, 0, 0, 0)], [], [(51, 50, 0, 0, 0, (0, 0, 4294967295, 1, 105000, 0))], 110000), ([], 101, 9, [(1, 50, 0, 0, 51, 0), (0, 2147483649, 2147483664, 1, 100001, 0), (0, 2147483743, 2147483871, 8, 100002, 0)], [], [(51, 50, 0, 98, 0, (0, 2147483648, 2147483650, 1, 105000, 0)), (51, 50, 0, 1, 0, (0, 2147483649, 2147483664, 1, 105001, 0)), (51, 50, 0, 0, 0, (0, 0, 4294967295, 1, 105002, 0))], 110000)]), (200000, (200001, 1, 2147483648, 2147483664), [([], 101, 85, [(1, 50, 0, 0, 51, 0), (0, 2147483648, 2147483648, 0, 200001, 0), (3, 0, 0, 0, 0, 0)], [], [(51, 50, 0, 1, 0, (0, 2147483648, 2147483648, 0, 205000, 0)), (51, 50, 0, 0, 0, (0, 0, 4294967295, 1, 205001, 0))], 210000), ([], 101, 85, [(1, 50, 0, 0, 51, 0), (0, 2147483648, 2147483664, 1, 200001, 0), (0, 2147483743, 2147483871, 8, 200002, 0)], [], [(51, 50, 0, 1, 0, (0, 2147483649, 2147483664, 1, 205000, 0)), (51, 50, 0, 0, 0, (0, 0, 4294967295, 1, 205001, 0))], 210000)]), (300000, (300001, 1, 2147483648, 2147483660), [([], 101, 128, [(1, 50, 0, 0, 51, 0), (0, 2147483648, 2147483648, 0, 300001, 0), (3, 0, 0, 0, 0, 0)], [], [(51, 50, 0, 1, 0, (0, 2147483648, 2147483648, 0, 305000, 0)), (51, 50, 0, 0, 0, (0, 0, 4294967295, 1, 305001, 0))], 310000), ([], 101, 128, [(1, 50, 0, 0, 51, 0), (0, 2147483648, 2147483660, 1, 300001, 0), (0, 2147483648, 2147483878, 1, 300002, 0)], [], [(51, 50, 0, 1, 0, (0, 2147483648, 2147483664, 1, 305000, 0)), (51, 50, 0, 0, 0, (0, 0, 4294967295, 1, 305001, 0))], 310000)]), (400000, (400002, 1, 2147483648, 2147483657), [([], 101, 136, [(1, 50, 0, 0, 51, 0), (0, 2147483648, 2147483659, 1, 300001, 0), (0, 2147483648, 2147483657, 1, 400002, 0)], [], [(51, 50, 0, 1, 0, (0, 2147483648, 2147483664, 1, 405000, 0)), (51, 50, 0, 0, 0, (0, 0, 4294967295, 1, 405001, 0))], 410000)])]
set_option maxRecDepth 100000 in
theorem qr127t (sc : List Nat) : gSum sc qr127 := gSum_of (su := qs127) (inl := ([84, 85, 98], [])) (cu := qr127c) (sp := []) (L := []) (fuel := 100000) (k := 0) (lems := []) eDat_t (qh127 sc) (gCu_of (by decide +kernel)) (fun c h => by cases h) rfl (by decide +kernel) (by decide +kernel)
def qs128 : List eSm := qr127 :: qs127
set_option maxRecDepth 100000 in
theorem qh128 (sc : List Nat) : ∀ q ∈ qs128, gSum sc q ∧ eWf 10000 q.2.1 = true := gSu_cons (qr127t sc) (by decide +kernel) (qh127 sc)
/-- LentArmsModel.runs([II)I -/
def qr128 : eSm := (102, ([], 102, 0, [(1, 50, 0, 0, 51, 0), (0, 2147483649, 2147483848, 1, 10001, 0), (3, 0, 0, 0, 0, 0), (3, 0, 0, 0, 0, 0)], [], [], 16000), [((0, 0, 4294967295, 1, 0, 0), [])], [(50, 0, 0), (50, 7, 94), (50, 97, 470)], 0)
def qr128c : List eCt := [(100000, (100003, 1, 2147483648, 2147483848), [([], 102, 7, [(1, 50, 0, 0, 51, 0), (0, 2147483649, 2147483848, 1, 100001, 0), (0, 0, 4294967295, 1, 100002, 0), (0, 2147483648, 2147483848, 1, 100003, 0)], [], [], 110000)])]
set_option maxRecDepth 100000 in
theorem qr128t (sc : List Nat) : gSum sc qr128 := gSum_of (su := qs128) (inl := ([], [])) (cu := qr128c) (sp := []) (L := []) (fuel := 100000) (k := 0) (lems := []) eDat_t (qh128 sc) (gCu_of (by decide +kernel)) (fun c h => by cases h) rfl (by decide +kernel) (by decide +kernel)
def qs129 : List eSm := qr128 :: qs128
set_option maxRecDepth 100000 in
theorem qh129 (sc : List Nat) : ∀ q ∈ qs129, gSum sc q ∧ eWf 10000 q.2.1 = true := gSu_cons (qr128t sc) (by decide +kernel) (qh128 sc)
/-- LentArmsModel.run(I)I -/
def qr129 : eSm := (116, ([], 116, 0, [(1, 56, 0, 0, 57, 0), (0, 0, 4294967295, 1, 10001, 0)], [], [], 16000), [((0, 2147483645, 2147483646, 1, 0, 0), []), ((0, 0, 4294967295, 1, 0, 0), [])], [(50, 0, 0), (50, 7, 94), (50, 97, 470), (52, 0, 1883), (56, 3, 3)], 0)
def qr129c : List eCt := []
set_option maxRecDepth 100000 in
theorem qr129t (sc : List Nat) : gSum sc qr129 := gSum_of (su := qs129) (inl := ([81], [])) (cu := qr129c) (sp := []) (L := []) (fuel := 100000) (k := 0) (lems := []) eDat_t (qh129 sc) (gCu_of (by decide +kernel)) (fun c h => by cases h) rfl (by decide +kernel) (by decide +kernel)
def qs130 : List eSm := qr129 :: qs129
set_option maxRecDepth 100000 in
theorem qh130 (sc : List Nat) : ∀ q ∈ qs130, gSum sc q ∧ eWf 10000 q.2.1 = true := gSu_cons (qr129t sc) (by decide +kernel) (qh129 sc)
/-- LentArmsModel.set(II)I -/
def qr130 : eSm := (118, ([], 118, 0, [(1, 56, 0, 0, 57, 0), (0, 0, 4294967295, 1, 10001, 0), (0, 0, 4294967295, 1, 10002, 0), (3, 0, 0, 0, 0, 0)], [], [], 16000), [((0, 2147483643, 2147483647, 1, 0, 0), []), ((0, 0, 4294967295, 1, 0, 0), [])], [(50, 2, 10), (52, 0, 1883), (56, 3, 3)], 0)
def qr130c : List eCt := []
set_option maxRecDepth 100000 in
theorem qr130t (sc : List Nat) : gSum sc qr130 := gSum_of (su := qs130) (inl := ([81, 117], [])) (cu := qr130c) (sp := []) (L := []) (fuel := 100000) (k := 0) (lems := []) eDat_t (qh130 sc) (gCu_of (by decide +kernel)) (fun c h => by cases h) rfl (by decide +kernel) (by decide +kernel)
def qs131 : List eSm := qr130 :: qs130
set_option maxRecDepth 100000 in
theorem qh131 (sc : List Nat) : ∀ q ∈ qs131, gSum sc q ∧ eWf 10000 q.2.1 = true := gSu_cons (qr130t sc) (by decide +kernel) (qh130 sc)
/-- LentArmsModel.type(C)I -/
def qr131 : eSm := (119, ([], 119, 0, [(1, 56, 0, 0, 57, 0), (0, 2147483648, 2147549183, 1, 10001, 0)], [], [], 16000), [((0, 2147483649, 2147483708, 1, 0, 0), []), ((0, 2147483645, 2147483645, 0, 0, 0), [])], [(54, 0, 59), (56, 7, 7)], 0)
def qr131c : List eCt := []
set_option maxRecDepth 100000 in
theorem qr131t (sc : List Nat) : gSum sc qr131 := gSum_of (su := qs131) (inl := ([], [])) (cu := qr131c) (sp := []) (L := []) (fuel := 100000) (k := 0) (lems := []) eDat_t (qh131 sc) (gCu_of (by decide +kernel)) (fun c h => by cases h) rfl (by decide +kernel) (by decide +kernel)
def qs132 : List eSm := qr131 :: qs131
set_option maxRecDepth 100000 in
theorem qh132 (sc : List Nat) : ∀ q ∈ qs132, gSum sc q ∧ eWf 10000 q.2.1 = true := gSu_cons (qr131t sc) (by decide +kernel) (qh131 sc)
/-- LentArmsModel.clearText()I -/
def qr132 : eSm := (120, ([], 120, 0, [(1, 56, 0, 0, 57, 0), (3, 0, 0, 0, 0, 0)], [], [], 16000), [((0, 2147483648, 2147483708, 1, 0, 0), [])], [(56, 7, 7)], 0)
def qr132c : List eCt := []
set_option maxRecDepth 100000 in
theorem qr132t (sc : List Nat) : gSum sc qr132 := gSum_of (su := qs132) (inl := ([], [])) (cu := qr132c) (sp := []) (L := []) (fuel := 100000) (k := 0) (lems := []) eDat_t (qh132 sc) (gCu_of (by decide +kernel)) (fun c h => by cases h) rfl (by decide +kernel) (by decide +kernel)
def qs133 : List eSm := qr132 :: qs132
set_option maxRecDepth 100000 in
theorem qh133 (sc : List Nat) : ∀ q ∈ qs133, gSum sc q ∧ eWf 10000 q.2.1 = true := gSu_cons (qr132t sc) (by decide +kernel) (qh132 sc)
/-- LentArmsModel.copies([II[II)V -/
def qr133 : eSm := (86, ([], 86, 0, [(1, 52, 0, 0, 53, 0), (0, 2147483648, 2147483648, 0, 10001, 0), (1, 50, 0, 0, 51, 0), (0, 2147483648, 2147483648, 0, 10003, 0), (3, 0, 0, 0, 0, 0)], [], [], 16000), [((0, 2147483648, 2147483648, 0, 0, 0), [])], [(50, 0, 470)], 0)
def qr133c : List eCt := [(100000, (100004, 1, 2147483648, 2147484119), [([], 86, 3, [(1, 52, 0, 0, 53, 0), (0, 2147483648, 2147483648, 0, 100001, 0), (1, 50, 0, 0, 51, 0), (0, 2147483648, 2147483648, 0, 100003, 0), (0, 2147483648, 2147484119, 1, 100004, 0)], [], [], 110000)])]
set_option maxRecDepth 100000 in
theorem qr133t (sc : List Nat) : gSum sc qr133 := gSum_of (su := qs133) (inl := ([], [])) (cu := qr133c) (sp := [(86, 11, 1, 4, 8589934592, 0)]) (L := []) (fuel := 100000) (k := 0) (lems := []) eDat_t (qh133 sc) (gCu_of (by decide +kernel)) (fun c h => by cases h) rfl (by decide +kernel) (by decide +kernel)
def qs134 : List eSm := qr133 :: qs133
set_option maxRecDepth 100000 in
theorem qh134 (sc : List Nat) : ∀ q ∈ qs134, gSum sc q ∧ eWf 10000 q.2.1 = true := gSu_cons (qr133t sc) (by decide +kernel) (qh133 sc)
/-- LentArmsModel.copies([II[II)V -/
def qr134 : eSm := (86, ([], 86, 0, [(1, 52, 0, 0, 53, 0), (0, 2147485061, 2147485061, 0, 10001, 0), (1, 50, 0, 0, 51, 0), (0, 2147483648, 2147483648, 0, 10003, 0), (3, 0, 0, 0, 0, 0)], [], [], 16000), [((0, 2147483648, 2147483648, 0, 0, 0), [])], [(50, 0, 470)], 0)
def qr134c : List eCt := [(100000, (100004, 1, 2147483648, 2147484119), [([], 86, 3, [(1, 52, 0, 0, 53, 0), (0, 2147485061, 2147485061, 0, 100001, 0), (1, 50, 0, 0, 51, 0), (0, 2147483648, 2147483648, 0, 100003, 0), (0, 2147483648, 2147484119, 1, 100004, 0)], [], [], 110000)])]
set_option maxRecDepth 100000 in
theorem qr134t (sc : List Nat) : gSum sc qr134 := gSum_of (su := qs134) (inl := ([], [])) (cu := qr134c) (sp := [(86, 11, 1, 4, 8589934592, 0)]) (L := []) (fuel := 100000) (k := 0) (lems := []) eDat_t (qh134 sc) (gCu_of (by decide +kernel)) (fun c h => by cases h) rfl (by decide +kernel) (by decide +kernel)
def qs135 : List eSm := qr134 :: qs134
set_option maxRecDepth 100000 in
theorem qh135 (sc : List Nat) : ∀ q ∈ qs135, gSum sc q ∧ eWf 10000 q.2.1 = true := gSu_cons (qr134t sc) (by decide +kernel) (qh134 sc)
/-- LentArmsModel.copies([II[II)V -/
def qr135 : eSm := (86, ([], 86, 0, [(1, 52, 0, 0, 53, 0), (0, 2147484590, 2147484590, 0, 10001, 0), (1, 50, 0, 0, 51, 0), (0, 2147483648, 2147483648, 0, 10003, 0), (3, 0, 0, 0, 0, 0)], [], [], 16000), [((0, 2147483648, 2147483648, 0, 0, 0), [])], [(50, 0, 470)], 0)
def qr135c : List eCt := [(100000, (100004, 1, 2147483648, 2147484119), [([], 86, 3, [(1, 52, 0, 0, 53, 0), (0, 2147484590, 2147484590, 0, 100001, 0), (1, 50, 0, 0, 51, 0), (0, 2147483648, 2147483648, 0, 100003, 0), (0, 2147483648, 2147484119, 1, 100004, 0)], [], [], 110000)])]
set_option maxRecDepth 100000 in
theorem qr135t (sc : List Nat) : gSum sc qr135 := gSum_of (su := qs135) (inl := ([], [])) (cu := qr135c) (sp := [(86, 11, 1, 4, 8589934592, 0)]) (L := []) (fuel := 100000) (k := 0) (lems := []) eDat_t (qh135 sc) (gCu_of (by decide +kernel)) (fun c h => by cases h) rfl (by decide +kernel) (by decide +kernel)
def qs136 : List eSm := qr135 :: qs135
set_option maxRecDepth 100000 in
theorem qh136 (sc : List Nat) : ∀ q ∈ qs136, gSum sc q ∧ eWf 10000 q.2.1 = true := gSu_cons (qr135t sc) (by decide +kernel) (qh135 sc)
/-- LentArmsModel.copies([II[II)V -/
def qr136 : eSm := (86, ([], 86, 0, [(1, 52, 0, 0, 53, 0), (0, 2147484119, 2147484119, 0, 10001, 0), (1, 50, 0, 0, 51, 0), (0, 2147483648, 2147483648, 0, 10003, 0), (3, 0, 0, 0, 0, 0)], [], [], 16000), [((0, 2147483648, 2147483648, 0, 0, 0), [])], [(50, 0, 470)], 0)
def qr136c : List eCt := [(100000, (100004, 1, 2147483648, 2147484119), [([], 86, 3, [(1, 52, 0, 0, 53, 0), (0, 2147484119, 2147484119, 0, 100001, 0), (1, 50, 0, 0, 51, 0), (0, 2147483648, 2147483648, 0, 100003, 0), (0, 2147483648, 2147484119, 1, 100004, 0)], [], [], 110000)])]
set_option maxRecDepth 100000 in
theorem qr136t (sc : List Nat) : gSum sc qr136 := gSum_of (su := qs136) (inl := ([], [])) (cu := qr136c) (sp := [(86, 11, 1, 4, 8589934592, 0)]) (L := []) (fuel := 100000) (k := 0) (lems := []) eDat_t (qh136 sc) (gCu_of (by decide +kernel)) (fun c h => by cases h) rfl (by decide +kernel) (by decide +kernel)
def qs137 : List eSm := qr136 :: qs136
set_option maxRecDepth 100000 in
theorem qh137 (sc : List Nat) : ∀ q ∈ qs137, gSum sc q ∧ eWf 10000 q.2.1 = true := gSu_cons (qr136t sc) (by decide +kernel) (qh136 sc)
/-- LentArmsModel.undo()I -/
def qr137 : eSm := (88, ([], 88, 0, [(1, 56, 0, 0, 57, 0)], [], [], 16000), [((0, 2147483648, 2147483651, 1, 0, 0), []), ((0, 2147483643, 2147483643, 0, 0, 0), [])], [(50, 0, 470), (56, 3, 3)], 0)
def qr137c : List eCt := []
set_option maxRecDepth 100000 in
theorem qr137t (sc : List Nat) : gSum sc qr137 := gSum_of (su := qs137) (inl := ([], [])) (cu := qr137c) (sp := [(88, 37, 0, 2, 0, 4294967296)]) (L := []) (fuel := 100000) (k := 0) (lems := []) eDat_t (qh137 sc) (gCu_of (by decide +kernel)) (fun c h => by cases h) rfl (by decide +kernel) (by decide +kernel)
def qs138 : List eSm := qr137 :: qs137
set_option maxRecDepth 100000 in
theorem qh138 (sc : List Nat) : ∀ q ∈ qs138, gSum sc q ∧ eWf 10000 q.2.1 = true := gSu_cons (qr137t sc) (by decide +kernel) (qh137 sc)
/-- LentArmsModel.copies([II[II)V -/
def qr138 : eSm := (86, ([], 86, 0, [(1, 50, 0, 0, 51, 0), (0, 2147483648, 2147483648, 0, 10001, 0), (1, 53, 0, 0, 54, 0), (0, 2147483648, 2147483648, 0, 10003, 0), (3, 0, 0, 0, 0, 0)], [], [], 16000), [((0, 2147483648, 2147483648, 0, 0, 0), [])], [(53, 0, 470)], 0)
def qr138c : List eCt := [(100000, (100004, 1, 2147483648, 2147484119), [([], 86, 3, [(1, 50, 0, 0, 51, 0), (0, 2147483648, 2147483648, 0, 100001, 0), (1, 53, 0, 0, 54, 0), (0, 2147483648, 2147483648, 0, 100003, 0), (0, 2147483648, 2147484119, 1, 100004, 0)], [], [], 110000)])]
set_option maxRecDepth 100000 in
theorem qr138t (sc : List Nat) : gSum sc qr138 := gSum_of (su := qs138) (inl := ([], [])) (cu := qr138c) (sp := [(86, 11, 1, 4, 8589934592, 0)]) (L := []) (fuel := 100000) (k := 0) (lems := []) eDat_t (qh138 sc) (gCu_of (by decide +kernel)) (fun c h => by cases h) rfl (by decide +kernel) (by decide +kernel)
def qs139 : List eSm := qr138 :: qs138
set_option maxRecDepth 100000 in
theorem qh139 (sc : List Nat) : ∀ q ∈ qs139, gSum sc q ∧ eWf 10000 q.2.1 = true := gSu_cons (qr138t sc) (by decide +kernel) (qh138 sc)
/-- LentArmsModel.keep()I -/
def qr139 : eSm := (89, ([], 89, 0, [(1, 56, 0, 0, 57, 0)], [], [], 16000), [((0, 0, 4294967295, 1, 0, 0), [])], [(53, 0, 470), (56, 5, 5)], 0)
def qr139c : List eCt := []
set_option maxRecDepth 100000 in
theorem qr139t (sc : List Nat) : gSum sc qr139 := gSum_of (su := qs139) (inl := ([], [])) (cu := qr139c) (sp := []) (L := []) (fuel := 100000) (k := 0) (lems := []) eDat_t (qh139 sc) (gCu_of (by decide +kernel)) (fun c h => by cases h) rfl (by decide +kernel) (by decide +kernel)
def qs140 : List eSm := qr139 :: qs139
set_option maxRecDepth 100000 in
theorem qh140 (sc : List Nat) : ∀ q ∈ qs140, gSum sc q ∧ eWf 10000 q.2.1 = true := gSu_cons (qr139t sc) (by decide +kernel) (qh139 sc)
/-- LentArmsModel.copies([II[II)V -/
def qr140 : eSm := (86, ([], 86, 0, [(1, 53, 0, 0, 54, 0), (0, 2147483648, 2147483648, 0, 10001, 0), (1, 50, 0, 0, 51, 0), (0, 2147483648, 2147483648, 0, 10003, 0), (3, 0, 0, 0, 0, 0)], [], [], 16000), [((0, 2147483648, 2147483648, 0, 0, 0), [])], [(50, 0, 470)], 0)
def qr140c : List eCt := [(100000, (100004, 1, 2147483648, 2147484119), [([], 86, 3, [(1, 53, 0, 0, 54, 0), (0, 2147483648, 2147483648, 0, 100001, 0), (1, 50, 0, 0, 51, 0), (0, 2147483648, 2147483648, 0, 100003, 0), (0, 2147483648, 2147484119, 1, 100004, 0)], [], [], 110000)])]
set_option maxRecDepth 100000 in
theorem qr140t (sc : List Nat) : gSum sc qr140 := gSum_of (su := qs140) (inl := ([], [])) (cu := qr140c) (sp := [(86, 11, 1, 4, 8589934592, 0)]) (L := []) (fuel := 100000) (k := 0) (lems := []) eDat_t (qh140 sc) (gCu_of (by decide +kernel)) (fun c h => by cases h) rfl (by decide +kernel) (by decide +kernel)
def qs141 : List eSm := qr140 :: qs140
set_option maxRecDepth 100000 in
theorem qh141 (sc : List Nat) : ∀ q ∈ qs141, gSum sc q ∧ eWf 10000 q.2.1 = true := gSu_cons (qr140t sc) (by decide +kernel) (qh140 sc)
/-- LentArmsModel.restore()I -/
def qr141 : eSm := (90, ([], 90, 0, [(1, 56, 0, 0, 57, 0)], [], [], 16000), [((0, 0, 4294967295, 1, 0, 0), []), ((0, 2147483643, 2147483643, 0, 0, 0), [])], [(50, 0, 470), (52, 0, 1883), (56, 3, 3)], 0)
def qr141c : List eCt := []
set_option maxRecDepth 100000 in
theorem qr141t (sc : List Nat) : gSum sc qr141 := gSum_of (su := qs141) (inl := ([], [])) (cu := qr141c) (sp := []) (L := []) (fuel := 100000) (k := 0) (lems := []) eDat_t (qh141 sc) (gCu_of (by decide +kernel)) (fun c h => by cases h) rfl (by decide +kernel) (by decide +kernel)
def qs142 : List eSm := qr141 :: qs141
set_option maxRecDepth 100000 in
theorem qh142 (sc : List Nat) : ∀ q ∈ qs142, gSum sc q ∧ eWf 10000 q.2.1 = true := gSu_cons (qr141t sc) (by decide +kernel) (qh141 sc)
/-- LentArmsModel.arm(II)I -/
def qr142 : eSm := (125, ([], 125, 0, [(1, 56, 0, 0, 57, 0), (0, 0, 4294967295, 1, 10001, 0), (0, 0, 4294967295, 1, 10002, 0)], [], [], 16000), [((0, 2147483646, 2147483647, 1, 0, 0), []), ((0, 0, 4294967295, 1, 0, 0), [])], [], 0)
def qr142c : List eCt := []
set_option maxRecDepth 100000 in
theorem qr142t (sc : List Nat) : gSum sc qr142 := gSum_of (su := qs142) (inl := ([81, 82, 84], [])) (cu := qr142c) (sp := []) (L := []) (fuel := 100000) (k := 0) (lems := []) eDat_t (qh142 sc) (gCu_of (by decide +kernel)) (fun c h => by cases h) rfl (by decide +kernel) (by decide +kernel)
def qs143 : List eSm := qr142 :: qs142
set_option maxRecDepth 100000 in
theorem qh143 (sc : List Nat) : ∀ q ∈ qs143, gSum sc q ∧ eWf 10000 q.2.1 = true := gSu_cons (qr142t sc) (by decide +kernel) (qh142 sc)
/-- LentArmsModel.arms(II)I -/
def qr143 : eSm := (126, ([], 126, 0, [(1, 56, 0, 0, 57, 0), (0, 2147483647, 2147483659, 1, 10001, 0), (0, 2147483648, 2147483651, 1, 10002, 0), (3, 0, 0, 0, 0, 0), (3, 0, 0, 0, 0, 0), (3, 0, 0, 0, 0, 0)], [], [], 16000), [((0, 0, 4294967295, 1, 0, 0), [])], [], 0)
def qr143c : List eCt := [(100000, (100004, 1, 2147483648, 2147483664), [([], 126, 5, [(1, 56, 0, 0, 57, 0), (0, 2147483647, 2147483659, 1, 100001, 0), (0, 2147483648, 2147483651, 1, 100002, 0), (0, 2147483648, 2147483648, 0, 100003, 0), (0, 2147483648, 2147483648, 0, 100004, 0), (3, 0, 0, 0, 0, 0)], [], [], 110000), ([], 126, 5, [(1, 56, 0, 0, 57, 0), (0, 2147483647, 2147483659, 1, 100001, 0), (0, 2147483648, 2147483651, 1, 100002, 0), (0, 0, 4294967295, 1, 100003, 0), (0, 2147483649, 2147483664, 1, 100004, 0), (0, 2147483648, 2147483649, 1, 100005, 0)], [], [(51, 50, 0, 98, 0, (0, 2147483648, 2147483650, 1, 105000, 0)), (51, 50, 0, 1, 0, (0, 2147483649, 2147483664, 1, 105001, 0))], 110000), ([], 126, 5, [(1, 56, 0, 0, 57, 0), (0, 2147483647, 2147483647, 0, 100001, 0), (0, 2147483648, 2147483651, 1, 100002, 0), (0, 0, 4294967295, 1, 100003, 0), (0, 2147483649, 2147483664, 1, 100004, 0), (0, 2147483648, 2147483649, 1, 100005, 0)], [], [(51, 50, 0, 98, 0, (0, 2147483648, 2147483650, 1, 105000, 0)), (51, 50, 0, 1, 0, (0, 2147483649, 2147483664, 1, 105001, 0))], 110000)])]
set_option maxRecDepth 100000 in
theorem qr143t (sc : List Nat) : gSum sc qr143 := gSum_of (su := qs143) (inl := ([84], [])) (cu := qr143c) (sp := []) (L := []) (fuel := 100000) (k := 0) (lems := []) eDat_t (qh143 sc) (gCu_of (by decide +kernel)) (fun c h => by cases h) rfl (by decide +kernel) (by decide +kernel)
def qs144 : List eSm := qr143 :: qs143
set_option maxRecDepth 100000 in
theorem qh144 (sc : List Nat) : ∀ q ∈ qs144, gSum sc q ∧ eWf 10000 q.2.1 = true := gSu_cons (qr143t sc) (by decide +kernel) (qh143 sc)
/-- LentArmsModel.longest(I)I -/
def qr144 : eSm := (128, ([], 128, 0, [(1, 56, 0, 0, 57, 0), (0, 2147483648, 2147483659, 1, 10001, 0), (3, 0, 0, 0, 0, 0), (3, 0, 0, 0, 0, 0), (3, 0, 0, 0, 0, 0)], [], [], 16000), [((0, 2147483643, 2147483643, 0, 0, 0), []), ((0, 2147483644, 4294967295, 1, 0, 0), [])], [], 0)
def qr144c : List eCt := [(100000, (100003, 1, 2147483648, 2147483657), [([], 128, 5, [(1, 56, 0, 0, 57, 0), (0, 2147483648, 2147483659, 1, 100001, 0), (0, 2147483643, 2147483643, 0, 100002, 0), (0, 2147483648, 2147483648, 0, 100003, 0), (3, 0, 0, 0, 0, 0)], [], [], 110000), ([], 128, 5, [(1, 56, 0, 0, 57, 0), (0, 2147483648, 2147483659, 1, 100001, 0), (0, 2147483643, 2147483643, 0, 100002, 0), (0, 2147483649, 2147483657, 1, 100003, 0), (0, 0, 2147483643, 1, 100004, 0)], [], [], 110000), ([], 128, 5, [(1, 56, 0, 0, 57, 0), (0, 2147483648, 2147483659, 1, 100001, 0), (0, 2147483644, 4294967295, 1, 100002, 0), (0, 2147483649, 2147483657, 1, 100003, 0), (0, 0, 4294967295, 1, 100004, 0)], [], [], 110000)])]
set_option maxRecDepth 100000 in
theorem qr144t (sc : List Nat) : gSum sc qr144 := gSum_of (su := qs144) (inl := ([85], [])) (cu := qr144c) (sp := []) (L := []) (fuel := 100000) (k := 0) (lems := []) eDat_t (qh144 sc) (gCu_of (by decide +kernel)) (fun c h => by cases h) rfl (by decide +kernel) (by decide +kernel)
def qs145 : List eSm := qr144 :: qs144
set_option maxRecDepth 100000 in
theorem qh145 (sc : List Nat) : ∀ q ∈ qs145, gSum sc q ∧ eWf 10000 q.2.1 = true := gSu_cons (qr144t sc) (by decide +kernel) (qh144 sc)
/-- LentArmsModel.workAt(I)I -/
def qr145 : eSm := (127, ([], 127, 0, [(1, 56, 0, 0, 57, 0), (0, 2147483648, 2147483659, 1, 10001, 0), (3, 0, 0, 0, 0, 0), (3, 0, 0, 0, 0, 0)], [], [], 16000), [((0, 0, 4294967295, 1, 0, 0), [])], [], 0)
def qr145c : List eCt := [(100000, (100003, 1, 2147483648, 2147483657), [([], 127, 4, [(1, 56, 0, 0, 57, 0), (0, 2147483648, 2147483659, 1, 100001, 0), (0, 0, 4294967295, 1, 100002, 0), (0, 2147483648, 2147483657, 1, 100003, 0)], [], [], 110000)])]
set_option maxRecDepth 100000 in
theorem qr145t (sc : List Nat) : gSum sc qr145 := gSum_of (su := qs145) (inl := ([85], [])) (cu := qr145c) (sp := []) (L := []) (fuel := 100000) (k := 0) (lems := []) eDat_t (qh145 sc) (gCu_of (by decide +kernel)) (fun c h => by cases h) rfl (by decide +kernel) (by decide +kernel)
def qs146 : List eSm := qr145 :: qs145
set_option maxRecDepth 100000 in
theorem qh146 (sc : List Nat) : ∀ q ∈ qs146, gSum sc q ∧ eWf 10000 q.2.1 = true := gSu_cons (qr145t sc) (by decide +kernel) (qh145 sc)
/-- LentArmsModel.quay(II)I -/
def qr146 : eSm := (129, ([], 129, 0, [(1, 56, 0, 0, 57, 0), (0, 0, 4294967295, 1, 10001, 0), (0, 0, 4294967295, 1, 10002, 0)], [], [], 16000), [((0, 2147483643, 2147483647, 1, 0, 0), []), ((0, 0, 4294967295, 1, 0, 0), [])], [], 0)
def qr146c : List eCt := []
set_option maxRecDepth 100000 in
theorem qr146t (sc : List Nat) : gSum sc qr146 := gSum_of (su := qs146) (inl := ([81, 83, 85], [])) (cu := qr146c) (sp := []) (L := []) (fuel := 100000) (k := 0) (lems := []) eDat_t (qh146 sc) (gCu_of (by decide +kernel)) (fun c h => by cases h) rfl (by decide +kernel) (by decide +kernel)
def qs147 : List eSm := qr146 :: qs146
set_option maxRecDepth 100000 in
theorem qh147 (sc : List Nat) : ∀ q ∈ qs147, gSum sc q ∧ eWf 10000 q.2.1 = true := gSu_cons (qr146t sc) (by decide +kernel) (qh146 sc)
/-- LentArmsModel.waiting(III)I -/
def qr147 : eSm := (130, ([], 130, 0, [(1, 56, 0, 0, 57, 0), (0, 0, 4294967295, 1, 10001, 0), (0, 0, 4294967295, 1, 10002, 0), (0, 0, 4294967295, 1, 10003, 0)], [], [], 16000), [((0, 2147483646, 2147483647, 1, 0, 0), []), ((0, 0, 4294967295, 1, 0, 0), [])], [], 0)
def qr147c : List eCt := []
set_option maxRecDepth 100000 in
theorem qr147t (sc : List Nat) : gSum sc qr147 := gSum_of (su := qs147) (inl := ([81, 83, 85], [])) (cu := qr147c) (sp := []) (L := []) (fuel := 100000) (k := 0) (lems := []) eDat_t (qh147 sc) (gCu_of (by decide +kernel)) (fun c h => by cases h) rfl (by decide +kernel) (by decide +kernel)
def qs148 : List eSm := qr147 :: qs147
set_option maxRecDepth 100000 in
theorem qh148 (sc : List Nat) : ∀ q ∈ qs148, gSum sc q ∧ eWf 10000 q.2.1 = true := gSu_cons (qr147t sc) (by decide +kernel) (qh147 sc)
/-- LentArmsModel.isBehind(II)Z -/
def qr148 : eSm := (131, ([], 131, 0, [(1, 56, 0, 0, 57, 0), (0, 2147483648, 2147483659, 1, 10001, 0), (0, 2147483648, 2147483659, 1, 10002, 0), (3, 0, 0, 0, 0, 0), (3, 0, 0, 0, 0, 0), (3, 0, 0, 0, 0, 0), (3, 0, 0, 0, 0, 0)], [], [], 16000), [((0, 2147483648, 2147483649, 1, 0, 0), [])], [], 0)
def qr148c : List eCt := [(100000, (100005, 1, 2147483648, 2147483660), [([], 131, 21, [(1, 56, 0, 0, 57, 0), (0, 2147483648, 2147483659, 1, 100001, 0), (0, 2147483648, 2147483659, 1, 100002, 0), (0, 2147483648, 2147483649, 1, 100003, 0), (0, 2147483648, 2147483648, 0, 100004, 0), (0, 2147483648, 2147483648, 0, 100005, 0), (3, 0, 0, 0, 0, 0)], [], [], 110000), ([], 131, 21, [(1, 56, 0, 0, 57, 0), (0, 2147483648, 2147483659, 1, 100001, 0), (0, 2147483648, 2147483659, 1, 100002, 0), (0, 2147483648, 2147483649, 1, 100003, 0), (0, 2147483648, 2147483649, 1, 100004, 0), (0, 2147483649, 2147483660, 1, 100005, 0), (0, 2147483648, 2147483649, 1, 100006, 0)], [], [], 110000)])]
set_option maxRecDepth 100000 in
theorem qr148t (sc : List Nat) : gSum sc qr148 := gSum_of (su := qs148) (inl := ([85, 93], [])) (cu := qr148c) (sp := []) (L := []) (fuel := 100000) (k := 0) (lems := []) eDat_t (qh148 sc) (gCu_of (by decide +kernel)) (fun c h => by cases h) rfl (by decide +kernel) (by decide +kernel)
def qs149 : List eSm := qr148 :: qs148
set_option maxRecDepth 100000 in
theorem qh149 (sc : List Nat) : ∀ q ∈ qs149, gSum sc q ∧ eWf 10000 q.2.1 = true := gSu_cons (qr148t sc) (by decide +kernel) (qh148 sc)
/-- LentArmsModel.reason(II)I -/
def qr149 : eSm := (132, ([], 132, 0, [(1, 56, 0, 0, 57, 0), (0, 0, 4294967295, 1, 10001, 0), (0, 0, 4294967295, 1, 10002, 0), (3, 0, 0, 0, 0, 0)], [], [], 16000), [((0, 2147483647, 2147483647, 0, 0, 0), []), ((0, 2147483648, 2147483653, 1, 0, 0), [])], [], 0)
def qr149c : List eCt := []
set_option maxRecDepth 100000 in
theorem qr149t (sc : List Nat) : gSum sc qr149 := gSum_of (su := qs149) (inl := ([81, 82, 83, 84, 85, 93], [])) (cu := qr149c) (sp := []) (L := []) (fuel := 100000) (k := 0) (lems := []) eDat_t (qh149 sc) (gCu_of (by decide +kernel)) (fun c h => by cases h) rfl (by decide +kernel) (by decide +kernel)
def qs150 : List eSm := qr149 :: qs149
set_option maxRecDepth 100000 in
theorem qh150 (sc : List Nat) : ∀ q ∈ qs150, gSum sc q ∧ eWf 10000 q.2.1 = true := gSu_cons (qr149t sc) (by decide +kernel) (qh149 sc)
/-- LentArmsModel.way(II)I -/
def qr150 : eSm := (133, ([], 133, 0, [(1, 56, 0, 0, 57, 0), (0, 0, 4294967295, 1, 10001, 0), (0, 0, 4294967295, 1, 10002, 0)], [], [], 16000), [((0, 2147483643, 2147483646, 3, 0, 0), []), ((0, 0, 4294967295, 1, 0, 0), [])], [], 0)
def qr150c : List eCt := []
set_option maxRecDepth 100000 in
theorem qr150t (sc : List Nat) : gSum sc qr150 := gSum_of (su := qs150) (inl := ([81], [])) (cu := qr150c) (sp := []) (L := []) (fuel := 100000) (k := 0) (lems := []) eDat_t (qh150 sc) (gCu_of (by decide +kernel)) (fun c h => by cases h) rfl (by decide +kernel) (by decide +kernel)
def qs151 : List eSm := qr150 :: qs150
set_option maxRecDepth 100000 in
theorem qh151 (sc : List Nat) : ∀ q ∈ qs151, gSum sc q ∧ eWf 10000 q.2.1 = true := gSu_cons (qr150t sc) (by decide +kernel) (qh150 sc)
/-- LentArmsModel.copies([II[II)V -/
def qr151 : eSm := (86, ([], 86, 0, [(1, 50, 0, 0, 51, 0), (0, 2147483648, 2147483648, 0, 10001, 0), (1, 51, 0, 0, 52, 0), (0, 2147483648, 2147483648, 0, 10003, 0), (3, 0, 0, 0, 0, 0)], [], [], 16000), [((0, 2147483648, 2147483648, 0, 0, 0), [(52, 51, 0, 1, 0, (0, 2147483648, 2147483664, 1, 0, 0))])], [(51, 0, 470)], 0)
def qr151c : List eCt := [(100000, (100004, 1, 2147483648, 2147484119), [([], 86, 3, [(1, 50, 0, 0, 51, 0), (0, 2147483648, 2147483648, 0, 100001, 0), (1, 51, 0, 0, 52, 0), (0, 2147483648, 2147483648, 0, 100003, 0), (0, 2147483648, 2147483648, 0, 100004, 0)], [], [], 110000), ([], 86, 3, [(1, 50, 0, 0, 51, 0), (0, 2147483648, 2147483648, 0, 100001, 0), (1, 51, 0, 0, 52, 0), (0, 2147483648, 2147483648, 0, 100003, 0), (0, 2147483649, 2147483649, 0, 100004, 0)], [], [(52, 51, 0, 0, 0, (0, 0, 4294967295, 1, 105000, 0)), (51, 50, 0, 0, 0, (0, 0, 4294967295, 1, 105001, 0))], 110000), ([], 86, 3, [(1, 50, 0, 0, 51, 0), (0, 2147483648, 2147483648, 0, 100001, 0), (1, 51, 0, 0, 52, 0), (0, 2147483648, 2147483648, 0, 100003, 0), (0, 2147483650, 2147483650, 0, 100004, 0)], [], [(52, 51, 0, 1, 0, (0, 2147483648, 2147483664, 1, 105000, 0)), (51, 50, 0, 1, 0, (0, 2147483648, 2147483664, 1, 105001, 0)), (52, 51, 0, 0, 0, (0, 0, 4294967295, 1, 105002, 0)), (51, 50, 0, 0, 0, (0, 0, 4294967295, 1, 105003, 0))], 110000), ([], 86, 3, [(1, 50, 0, 0, 51, 0), (0, 2147483648, 2147483648, 0, 100001, 0), (1, 51, 0, 0, 52, 0), (0, 2147483648, 2147483648, 0, 100003, 0), (0, 2147483651, 2147484119, 1, 100004, 0)], [], [(51, 50, 0, 2, 0, (0, 0, 4294967295, 1, 105000, 0)), (52, 51, 0, 1, 0, (0, 2147483648, 2147483664, 1, 105001, 0)), (51, 50, 0, 1, 0, (0, 2147483648, 2147483664, 1, 105002, 0)), (52, 51, 0, 0, 0, (0, 0, 4294967295, 1, 105003, 0)), (51, 50, 0, 0, 0, (0, 0, 4294967295, 1, 105004, 0))], 110000)])]
set_option maxRecDepth 100000 in
theorem qr151t (sc : List Nat) : gSum sc qr151 := gSum_of (su := qs151) (inl := ([], [])) (cu := qr151c) (sp := [(86, 11, 1, 4, 8589934592, 0)]) (L := []) (fuel := 100000) (k := 0) (lems := []) eDat_t (qh151 sc) (gCu_of (by decide +kernel)) (fun c h => by cases h) rfl (by decide +kernel) (by decide +kernel)
def qs152 : List eSm := qr151 :: qs151
set_option maxRecDepth 100000 in
theorem qh152 (sc : List Nat) : ∀ q ∈ qs152, gSum sc q ∧ eWf 10000 q.2.1 = true := gSu_cons (qr151t sc) (by decide +kernel) (qh151 sc)
