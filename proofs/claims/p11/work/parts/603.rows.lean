/-! ===== rows of the methods, 3: printed by wip/gen/emit11.py ===== -/
/-- LentArmsModel.isNumber(II)Z -/
def qr120 : eSm := (122, ([], 122, 0, [(1, 56, 0, 0, 57, 0), (0, 2147483649, 2147483649, 0, 10001, 0), (0, 2147483747, 2147483747, 0, 10002, 0)], [], [(57, 56, 0, 8, 0, (0, 2147483682, 2147483708, 1, 15000, 0))], 16000), [((0, 2147483648, 2147483648, 0, 0, 0), [(57, 56, 0, 8, 0, (0, 2147483682, 2147483708, 1, 0, 0))]), ((0, 2147483649, 2147483649, 0, 0, 0), [(57, 56, 0, 8, 0, (0, 2147483683, 2147483708, 1, 0, 0)), (57, 56, 0, 9, 0, (0, 2147483649, 2147483747, 1, 0, 0))])], [(56, 8, 9)], 0)
def qr120c : List eCt := []
set_option maxRecDepth 100000 in
theorem qr120t (sc : List Nat) : gSum sc qr120 := gSum_of (su := qs120) (inl := ([81, 121], [])) (cu := qr120c) (sp := []) (L := []) (fuel := 100000) (k := 0) (lems := []) eDat_t (qh120 sc) (gCu_of (by decide +kernel)) (fun c h => by cases h) rfl (by decide +kernel) (by decide +kernel)
def qs121 : List eSm := qr120 :: qs120
set_option maxRecDepth 100000 in
theorem qh121 (sc : List Nat) : ∀ q ∈ qs121, gSum sc q ∧ eWf 10000 q.2.1 = true := gSu_cons (qr120t sc) (by decide +kernel) (qh120 sc)
/-- LentArmsModel.isNumber(II)Z -/
def qr121 : eSm := (122, ([], 122, 0, [(1, 56, 0, 0, 57, 0), (0, 2147483648, 2147483648, 0, 10001, 0), (0, 2147483659, 2147483659, 0, 10002, 0)], [], [(57, 56, 0, 8, 0, (0, 2147483684, 2147483708, 1, 15000, 0))], 16000), [((0, 2147483648, 2147483648, 0, 0, 0), [(57, 56, 0, 8, 0, (0, 2147483684, 2147483708, 1, 0, 0))]), ((0, 2147483649, 2147483649, 0, 0, 0), [(57, 56, 0, 8, 0, (0, 2147483685, 2147483708, 1, 0, 0)), (57, 56, 0, 9, 0, (0, 2147483648, 2147483659, 1, 0, 0))])], [(56, 8, 9)], 0)
def qr121c : List eCt := []
set_option maxRecDepth 100000 in
theorem qr121t (sc : List Nat) : gSum sc qr121 := gSum_of (su := qs121) (inl := ([81, 121], [])) (cu := qr121c) (sp := []) (L := []) (fuel := 100000) (k := 0) (lems := []) eDat_t (qh121 sc) (gCu_of (by decide +kernel)) (fun c h => by cases h) rfl (by decide +kernel) (by decide +kernel)
def qs122 : List eSm := qr121 :: qs121
set_option maxRecDepth 100000 in
theorem qh122 (sc : List Nat) : ∀ q ∈ qs122, gSum sc q ∧ eWf 10000 q.2.1 = true := gSu_cons (qr121t sc) (by decide +kernel) (qh121 sc)
/-- LentArmsModel.isNumber(II)Z -/
def qr122 : eSm := (122, ([], 122, 0, [(1, 56, 0, 0, 57, 0), (0, 2147483649, 2147483649, 0, 10001, 0), (0, 2147483747, 2147483747, 0, 10002, 0)], [], [(57, 56, 0, 8, 0, (0, 2147483686, 2147483708, 1, 15000, 0))], 16000), [((0, 2147483648, 2147483648, 0, 0, 0), [(57, 56, 0, 8, 0, (0, 2147483686, 2147483708, 1, 0, 0))]), ((0, 2147483649, 2147483649, 0, 0, 0), [(57, 56, 0, 8, 0, (0, 2147483687, 2147483708, 1, 0, 0)), (57, 56, 0, 9, 0, (0, 2147483649, 2147483747, 1, 0, 0))])], [(56, 8, 9)], 0)
def qr122c : List eCt := []
set_option maxRecDepth 100000 in
theorem qr122t (sc : List Nat) : gSum sc qr122 := gSum_of (su := qs122) (inl := ([81, 121], [])) (cu := qr122c) (sp := []) (L := []) (fuel := 100000) (k := 0) (lems := []) eDat_t (qh122 sc) (gCu_of (by decide +kernel)) (fun c h => by cases h) rfl (by decide +kernel) (by decide +kernel)
def qs123 : List eSm := qr122 :: qs122
set_option maxRecDepth 100000 in
theorem qh123 (sc : List Nat) : ∀ q ∈ qs123, gSum sc q ∧ eWf 10000 q.2.1 = true := gSu_cons (qr122t sc) (by decide +kernel) (qh122 sc)
/-- LentArmsModel.isNumber(II)Z -/
def qr123 : eSm := (122, ([], 122, 0, [(1, 56, 0, 0, 57, 0), (0, 2147483648, 2147483648, 0, 10001, 0), (0, 2147483659, 2147483659, 0, 10002, 0)], [], [(57, 56, 0, 8, 0, (0, 2147483688, 2147483708, 1, 15000, 0))], 16000), [((0, 2147483648, 2147483648, 0, 0, 0), [(57, 56, 0, 8, 0, (0, 2147483688, 2147483708, 1, 0, 0))]), ((0, 2147483649, 2147483649, 0, 0, 0), [(57, 56, 0, 8, 0, (0, 2147483689, 2147483708, 1, 0, 0)), (57, 56, 0, 9, 0, (0, 2147483648, 2147483659, 1, 0, 0))])], [(56, 8, 9)], 0)
def qr123c : List eCt := []
set_option maxRecDepth 100000 in
theorem qr123t (sc : List Nat) : gSum sc qr123 := gSum_of (su := qs123) (inl := ([81, 121], [])) (cu := qr123c) (sp := []) (L := []) (fuel := 100000) (k := 0) (lems := []) eDat_t (qh123 sc) (gCu_of (by decide +kernel)) (fun c h => by cases h) rfl (by decide +kernel) (by decide +kernel)
def qs124 : List eSm := qr123 :: qs123
set_option maxRecDepth 100000 in
theorem qh124 (sc : List Nat) : ∀ q ∈ qs124, gSum sc q ∧ eWf 10000 q.2.1 = true := gSu_cons (qr123t sc) (by decide +kernel) (qh123 sc)
/-- LentArmsModel.isNumber(II)Z -/
def qr124 : eSm := (122, ([], 122, 0, [(1, 56, 0, 0, 57, 0), (0, 2147483649, 2147483649, 0, 10001, 0), (0, 2147483747, 2147483747, 0, 10002, 0)], [], [(57, 56, 0, 8, 0, (0, 2147483690, 2147483708, 1, 15000, 0))], 16000), [((0, 2147483648, 2147483648, 0, 0, 0), [(57, 56, 0, 8, 0, (0, 2147483690, 2147483708, 1, 0, 0))]), ((0, 2147483649, 2147483649, 0, 0, 0), [(57, 56, 0, 8, 0, (0, 2147483691, 2147483708, 1, 0, 0)), (57, 56, 0, 9, 0, (0, 2147483649, 2147483747, 1, 0, 0))])], [(56, 8, 9)], 0)
def qr124c : List eCt := []
set_option maxRecDepth 100000 in
theorem qr124t (sc : List Nat) : gSum sc qr124 := gSum_of (su := qs124) (inl := ([81, 121], [])) (cu := qr124c) (sp := []) (L := []) (fuel := 100000) (k := 0) (lems := []) eDat_t (qh124 sc) (gCu_of (by decide +kernel)) (fun c h => by cases h) rfl (by decide +kernel) (by decide +kernel)
def qs125 : List eSm := qr124 :: qs124
set_option maxRecDepth 100000 in
theorem qh125 (sc : List Nat) : ∀ q ∈ qs125, gSum sc q ∧ eWf 10000 q.2.1 = true := gSu_cons (qr124t sc) (by decide +kernel) (qh124 sc)
/-- LentArmsModel.isNumber(II)Z -/
def qr125 : eSm := (122, ([], 122, 0, [(1, 56, 0, 0, 57, 0), (0, 2147483648, 2147483648, 0, 10001, 0), (0, 2147483659, 2147483659, 0, 10002, 0)], [], [(57, 56, 0, 8, 0, (0, 2147483692, 2147483708, 1, 15000, 0))], 16000), [((0, 2147483648, 2147483648, 0, 0, 0), [(57, 56, 0, 8, 0, (0, 2147483692, 2147483708, 1, 0, 0))]), ((0, 2147483649, 2147483649, 0, 0, 0), [(57, 56, 0, 8, 0, (0, 2147483693, 2147483708, 1, 0, 0)), (57, 56, 0, 9, 0, (0, 2147483648, 2147483659, 1, 0, 0))])], [(56, 8, 9)], 0)
def qr125c : List eCt := []
set_option maxRecDepth 100000 in
theorem qr125t (sc : List Nat) : gSum sc qr125 := gSum_of (su := qs125) (inl := ([81, 121], [])) (cu := qr125c) (sp := []) (L := []) (fuel := 100000) (k := 0) (lems := []) eDat_t (qh125 sc) (gCu_of (by decide +kernel)) (fun c h => by cases h) rfl (by decide +kernel) (by decide +kernel)
def qs126 : List eSm := qr125 :: qs125
set_option maxRecDepth 100000 in
theorem qh126 (sc : List Nat) : ∀ q ∈ qs126, gSum sc q ∧ eWf 10000 q.2.1 = true := gSu_cons (qr125t sc) (by decide +kernel) (qh125 sc)
/-- LentArmsModel.isNumber(II)Z -/
def qr126 : eSm := (122, ([], 122, 0, [(1, 56, 0, 0, 57, 0), (0, 2147483649, 2147483649, 0, 10001, 0), (0, 2147483747, 2147483747, 0, 10002, 0)], [], [(57, 56, 0, 8, 0, (0, 2147483694, 2147483708, 1, 15000, 0))], 16000), [((0, 2147483648, 2147483648, 0, 0, 0), [(57, 56, 0, 8, 0, (0, 2147483694, 2147483708, 1, 0, 0))]), ((0, 2147483649, 2147483649, 0, 0, 0), [(57, 56, 0, 8, 0, (0, 2147483695, 2147483708, 1, 0, 0)), (57, 56, 0, 9, 0, (0, 2147483649, 2147483747, 1, 0, 0))])], [(56, 8, 9)], 0)
def qr126c : List eCt := []
set_option maxRecDepth 100000 in
theorem qr126t (sc : List Nat) : gSum sc qr126 := gSum_of (su := qs126) (inl := ([81, 121], [])) (cu := qr126c) (sp := []) (L := []) (fuel := 100000) (k := 0) (lems := []) eDat_t (qh126 sc) (gCu_of (by decide +kernel)) (fun c h => by cases h) rfl (by decide +kernel) (by decide +kernel)
def qs127 : List eSm := qr126 :: qs126
set_option maxRecDepth 100000 in
theorem qh127 (sc : List Nat) : ∀ q ∈ qs127, gSum sc q ∧ eWf 10000 q.2.1 = true := gSu_cons (qr126t sc) (by decide +kernel) (qh126 sc)
/-- LentArmsModel.isNumber(II)Z -/
def qr127 : eSm := (122, ([], 122, 0, [(1, 56, 0, 0, 57, 0), (0, 2147483648, 2147483648, 0, 10001, 0), (0, 2147483659, 2147483659, 0, 10002, 0)], [], [(57, 56, 0, 8, 0, (0, 2147483696, 2147483708, 1, 15000, 0))], 16000), [((0, 2147483648, 2147483648, 0, 0, 0), [(57, 56, 0, 8, 0, (0, 2147483696, 2147483708, 1, 0, 0))]), ((0, 2147483649, 2147483649, 0, 0, 0), [(57, 56, 0, 8, 0, (0, 2147483697, 2147483708, 1, 0, 0)), (57, 56, 0, 9, 0, (0, 2147483648, 2147483659, 1, 0, 0))])], [(56, 8, 9)], 0)
def qr127c : List eCt := []
set_option maxRecDepth 100000 in
theorem qr127t (sc : List Nat) : gSum sc qr127 := gSum_of (su := qs127) (inl := ([81, 121], [])) (cu := qr127c) (sp := []) (L := []) (fuel := 100000) (k := 0) (lems := []) eDat_t (qh127 sc) (gCu_of (by decide +kernel)) (fun c h => by cases h) rfl (by decide +kernel) (by decide +kernel)
def qs128 : List eSm := qr127 :: qs127
set_option maxRecDepth 100000 in
theorem qh128 (sc : List Nat) : ∀ q ∈ qs128, gSum sc q ∧ eWf 10000 q.2.1 = true := gSu_cons (qr127t sc) (by decide +kernel) (qh127 sc)
/-- LentArmsModel.isNumber(II)Z -/
def qr128 : eSm := (122, ([], 122, 0, [(1, 56, 0, 0, 57, 0), (0, 2147483649, 2147483649, 0, 10001, 0), (0, 2147483747, 2147483747, 0, 10002, 0)], [], [(57, 56, 0, 8, 0, (0, 2147483698, 2147483708, 1, 15000, 0))], 16000), [((0, 2147483648, 2147483648, 0, 0, 0), [(57, 56, 0, 8, 0, (0, 2147483698, 2147483708, 1, 0, 0))]), ((0, 2147483649, 2147483649, 0, 0, 0), [(57, 56, 0, 8, 0, (0, 2147483699, 2147483708, 1, 0, 0)), (57, 56, 0, 9, 0, (0, 2147483649, 2147483747, 1, 0, 0))])], [(56, 8, 9)], 0)
def qr128c : List eCt := []
set_option maxRecDepth 100000 in
theorem qr128t (sc : List Nat) : gSum sc qr128 := gSum_of (su := qs128) (inl := ([81, 121], [])) (cu := qr128c) (sp := []) (L := []) (fuel := 100000) (k := 0) (lems := []) eDat_t (qh128 sc) (gCu_of (by decide +kernel)) (fun c h => by cases h) rfl (by decide +kernel) (by decide +kernel)
def qs129 : List eSm := qr128 :: qs128
set_option maxRecDepth 100000 in
theorem qh129 (sc : List Nat) : ∀ q ∈ qs129, gSum sc q ∧ eWf 10000 q.2.1 = true := gSu_cons (qr128t sc) (by decide +kernel) (qh128 sc)
/-- LentArmsModel.isNumber(II)Z -/
def qr129 : eSm := (122, ([], 122, 0, [(1, 56, 0, 0, 57, 0), (0, 2147483648, 2147483648, 0, 10001, 0), (0, 2147483659, 2147483659, 0, 10002, 0)], [], [(57, 56, 0, 8, 0, (0, 2147483700, 2147483708, 1, 15000, 0))], 16000), [((0, 2147483648, 2147483648, 0, 0, 0), [(57, 56, 0, 8, 0, (0, 2147483700, 2147483708, 1, 0, 0))]), ((0, 2147483649, 2147483649, 0, 0, 0), [(57, 56, 0, 8, 0, (0, 2147483701, 2147483708, 1, 0, 0)), (57, 56, 0, 9, 0, (0, 2147483648, 2147483659, 1, 0, 0))])], [(56, 8, 9)], 0)
def qr129c : List eCt := []
set_option maxRecDepth 100000 in
theorem qr129t (sc : List Nat) : gSum sc qr129 := gSum_of (su := qs129) (inl := ([81, 121], [])) (cu := qr129c) (sp := []) (L := []) (fuel := 100000) (k := 0) (lems := []) eDat_t (qh129 sc) (gCu_of (by decide +kernel)) (fun c h => by cases h) rfl (by decide +kernel) (by decide +kernel)
def qs130 : List eSm := qr129 :: qs129
set_option maxRecDepth 100000 in
theorem qh130 (sc : List Nat) : ∀ q ∈ qs130, gSum sc q ∧ eWf 10000 q.2.1 = true := gSu_cons (qr129t sc) (by decide +kernel) (qh129 sc)
/-- LentArmsModel.isNumber(II)Z -/
def qr130 : eSm := (122, ([], 122, 0, [(1, 56, 0, 0, 57, 0), (0, 2147483649, 2147483649, 0, 10001, 0), (0, 2147483747, 2147483747, 0, 10002, 0)], [], [(57, 56, 0, 8, 0, (0, 2147483702, 2147483708, 1, 15000, 0))], 16000), [((0, 2147483648, 2147483648, 0, 0, 0), [(57, 56, 0, 8, 0, (0, 2147483702, 2147483708, 1, 0, 0))]), ((0, 2147483649, 2147483649, 0, 0, 0), [(57, 56, 0, 8, 0, (0, 2147483703, 2147483708, 1, 0, 0)), (57, 56, 0, 9, 0, (0, 2147483649, 2147483747, 1, 0, 0))])], [(56, 8, 9)], 0)
def qr130c : List eCt := []
set_option maxRecDepth 100000 in
theorem qr130t (sc : List Nat) : gSum sc qr130 := gSum_of (su := qs130) (inl := ([81, 121], [])) (cu := qr130c) (sp := []) (L := []) (fuel := 100000) (k := 0) (lems := []) eDat_t (qh130 sc) (gCu_of (by decide +kernel)) (fun c h => by cases h) rfl (by decide +kernel) (by decide +kernel)
def qs131 : List eSm := qr130 :: qs130
set_option maxRecDepth 100000 in
theorem qh131 (sc : List Nat) : ∀ q ∈ qs131, gSum sc q ∧ eWf 10000 q.2.1 = true := gSu_cons (qr130t sc) (by decide +kernel) (qh130 sc)
/-- LentArmsModel.isNumber(II)Z -/
def qr131 : eSm := (122, ([], 122, 0, [(1, 56, 0, 0, 57, 0), (0, 2147483648, 2147483648, 0, 10001, 0), (0, 2147483659, 2147483659, 0, 10002, 0)], [], [(57, 56, 0, 8, 0, (0, 2147483704, 2147483708, 1, 15000, 0))], 16000), [((0, 2147483648, 2147483648, 0, 0, 0), [(57, 56, 0, 8, 0, (0, 2147483704, 2147483708, 1, 0, 0))]), ((0, 2147483649, 2147483649, 0, 0, 0), [(57, 56, 0, 8, 0, (0, 2147483705, 2147483708, 1, 0, 0)), (57, 56, 0, 9, 0, (0, 2147483648, 2147483659, 1, 0, 0))])], [(56, 8, 9)], 0)
def qr131c : List eCt := []
set_option maxRecDepth 100000 in
theorem qr131t (sc : List Nat) : gSum sc qr131 := gSum_of (su := qs131) (inl := ([81, 121], [])) (cu := qr131c) (sp := []) (L := []) (fuel := 100000) (k := 0) (lems := []) eDat_t (qh131 sc) (gCu_of (by decide +kernel)) (fun c h => by cases h) rfl (by decide +kernel) (by decide +kernel)
def qs132 : List eSm := qr131 :: qs131
set_option maxRecDepth 100000 in
theorem qh132 (sc : List Nat) : ∀ q ∈ qs132, gSum sc q ∧ eWf 10000 q.2.1 = true := gSu_cons (qr131t sc) (by decide +kernel) (qh131 sc)
/-- LentArmsModel.isNumber(II)Z -/
def qr132 : eSm := (122, ([], 122, 0, [(1, 56, 0, 0, 57, 0), (0, 2147483649, 2147483649, 0, 10001, 0), (0, 2147483747, 2147483747, 0, 10002, 0)], [], [(57, 56, 0, 8, 0, (0, 2147483706, 2147483708, 1, 15000, 0))], 16000), [((0, 2147483648, 2147483648, 0, 0, 0), [(57, 56, 0, 8, 0, (0, 2147483706, 2147483708, 1, 0, 0))]), ((0, 2147483649, 2147483649, 0, 0, 0), [(57, 56, 0, 8, 0, (0, 2147483707, 2147483708, 1, 0, 0)), (57, 56, 0, 9, 0, (0, 2147483649, 2147483747, 1, 0, 0))])], [(56, 8, 9)], 0)
def qr132c : List eCt := []
set_option maxRecDepth 100000 in
theorem qr132t (sc : List Nat) : gSum sc qr132 := gSum_of (su := qs132) (inl := ([81, 121], [])) (cu := qr132c) (sp := []) (L := []) (fuel := 100000) (k := 0) (lems := []) eDat_t (qh132 sc) (gCu_of (by decide +kernel)) (fun c h => by cases h) rfl (by decide +kernel) (by decide +kernel)
def qs133 : List eSm := qr132 :: qs132
set_option maxRecDepth 100000 in
theorem qh133 (sc : List Nat) : ∀ q ∈ qs133, gSum sc q ∧ eWf 10000 q.2.1 = true := gSu_cons (qr132t sc) (by decide +kernel) (qh132 sc)
/-- LentArmsModel.isNumber(II)Z -/
def qr133 : eSm := (122, ([], 122, 0, [(1, 56, 0, 0, 57, 0), (0, 2147483648, 2147483648, 0, 10001, 0), (0, 2147483659, 2147483659, 0, 10002, 0)], [], [(57, 56, 0, 8, 0, (0, 2147483708, 2147483708, 0, 15000, 0))], 16000), [((0, 2147483648, 2147483648, 0, 0, 0), [(57, 56, 0, 8, 0, (0, 2147483708, 2147483708, 0, 0, 0))])], [], 0)
def qr133c : List eCt := []
set_option maxRecDepth 100000 in
theorem qr133t (sc : List Nat) : gSum sc qr133 := gSum_of (su := qs133) (inl := ([121], [])) (cu := qr133c) (sp := []) (L := []) (fuel := 100000) (k := 0) (lems := []) eDat_t (qh133 sc) (gCu_of (by decide +kernel)) (fun c h => by cases h) rfl (by decide +kernel) (by decide +kernel)
def qs134 : List eSm := qr133 :: qs133
set_option maxRecDepth 100000 in
theorem qh134 (sc : List Nat) : ∀ q ∈ qs134, gSum sc q ∧ eWf 10000 q.2.1 = true := gSu_cons (qr133t sc) (by decide +kernel) (qh133 sc)
/-- LentArmsModel.isPart()Z -/
def qr134 : eSm := (123, ([], 123, 0, [(1, 56, 0, 0, 57, 0)], [], [(57, 56, 0, 8, 0, (0, 2147483648, 2147483708, 1, 15000, 0)), (57, 56, 0, 11, 0, (0, 2147483648, 2147483648, 0, 15001, 0))], 16000), [((0, 2147483648, 2147483648, 0, 0, 0), [(57, 56, 0, 8, 0, (0, 2147483648, 2147483708, 1, 0, 0))]), ((0, 2147483649, 2147483649, 0, 0, 0), [(57, 56, 0, 8, 0, (0, 2147483651, 2147483708, 1, 0, 0))])], [(55, 0, 2), (56, 8, 9)], 0)
def qr134c : List eCt := []
set_option maxRecDepth 100000 in
theorem qr134t (sc : List Nat) : gSum sc qr134 := gSum_of (su := qs134) (inl := ([81, 121], [])) (cu := qr134c) (sp := []) (L := []) (fuel := 100000) (k := 0) (lems := []) eDat_t (qh134 sc) (gCu_of (by decide +kernel)) (fun c h => by cases h) rfl (by decide +kernel) (by decide +kernel)
def qs135 : List eSm := qr134 :: qs134
set_option maxRecDepth 100000 in
theorem qh135 (sc : List Nat) : ∀ q ∈ qs135, gSum sc q ∧ eWf 10000 q.2.1 = true := gSu_cons (qr134t sc) (by decide +kernel) (qh134 sc)
/-- LentArmsModel.isPart()Z -/
def qr135 : eSm := (123, ([], 123, 0, [(1, 56, 0, 0, 57, 0)], [], [(57, 56, 0, 8, 0, (0, 2147483652, 2147483708, 1, 15000, 0)), (57, 56, 0, 11, 0, (0, 2147483649, 2147483649, 0, 15001, 0))], 16000), [((0, 2147483648, 2147483648, 0, 0, 0), [(57, 56, 0, 8, 0, (0, 2147483652, 2147483708, 1, 0, 0))]), ((0, 2147483649, 2147483649, 0, 0, 0), [(57, 56, 0, 8, 0, (0, 2147483655, 2147483708, 1, 0, 0))])], [(55, 3, 5), (56, 8, 9)], 0)
def qr135c : List eCt := []
set_option maxRecDepth 100000 in
theorem qr135t (sc : List Nat) : gSum sc qr135 := gSum_of (su := qs135) (inl := ([81, 121], [])) (cu := qr135c) (sp := []) (L := []) (fuel := 100000) (k := 0) (lems := []) eDat_t (qh135 sc) (gCu_of (by decide +kernel)) (fun c h => by cases h) rfl (by decide +kernel) (by decide +kernel)
def qs136 : List eSm := qr135 :: qs135
set_option maxRecDepth 100000 in
theorem qh136 (sc : List Nat) : ∀ q ∈ qs136, gSum sc q ∧ eWf 10000 q.2.1 = true := gSu_cons (qr135t sc) (by decide +kernel) (qh135 sc)
/-- LentArmsModel.isPart()Z -/
def qr136 : eSm := (123, ([], 123, 0, [(1, 56, 0, 0, 57, 0)], [], [(57, 56, 0, 8, 0, (0, 2147483656, 2147483708, 1, 15000, 0)), (57, 56, 0, 11, 0, (0, 2147483650, 2147483650, 0, 15001, 0))], 16000), [((0, 2147483648, 2147483648, 0, 0, 0), [(57, 56, 0, 8, 0, (0, 2147483656, 2147483708, 1, 0, 0))]), ((0, 2147483649, 2147483649, 0, 0, 0), [(57, 56, 0, 8, 0, (0, 2147483659, 2147483708, 1, 0, 0))])], [(55, 6, 8), (56, 8, 9)], 0)
def qr136c : List eCt := []
set_option maxRecDepth 100000 in
theorem qr136t (sc : List Nat) : gSum sc qr136 := gSum_of (su := qs136) (inl := ([81, 121], [])) (cu := qr136c) (sp := []) (L := []) (fuel := 100000) (k := 0) (lems := []) eDat_t (qh136 sc) (gCu_of (by decide +kernel)) (fun c h => by cases h) rfl (by decide +kernel) (by decide +kernel)
def qs137 : List eSm := qr136 :: qs136
set_option maxRecDepth 100000 in
theorem qh137 (sc : List Nat) : ∀ q ∈ qs137, gSum sc q ∧ eWf 10000 q.2.1 = true := gSu_cons (qr136t sc) (by decide +kernel) (qh136 sc)
/-- LentArmsModel.isPart()Z -/
def qr137 : eSm := (123, ([], 123, 0, [(1, 56, 0, 0, 57, 0)], [], [(57, 56, 0, 8, 0, (0, 2147483660, 2147483708, 1, 15000, 0)), (57, 56, 0, 11, 0, (0, 2147483651, 2147483651, 0, 15001, 0))], 16000), [((0, 2147483648, 2147483648, 0, 0, 0), [(57, 56, 0, 8, 0, (0, 2147483660, 2147483708, 1, 0, 0))]), ((0, 2147483649, 2147483649, 0, 0, 0), [(57, 56, 0, 8, 0, (0, 2147483663, 2147483708, 1, 0, 0))])], [(55, 9, 11), (56, 8, 9)], 0)
def qr137c : List eCt := []
set_option maxRecDepth 100000 in
theorem qr137t (sc : List Nat) : gSum sc qr137 := gSum_of (su := qs137) (inl := ([81, 121], [])) (cu := qr137c) (sp := []) (L := []) (fuel := 100000) (k := 0) (lems := []) eDat_t (qh137 sc) (gCu_of (by decide +kernel)) (fun c h => by cases h) rfl (by decide +kernel) (by decide +kernel)
def qs138 : List eSm := qr137 :: qs137
set_option maxRecDepth 100000 in
theorem qh138 (sc : List Nat) : ∀ q ∈ qs138, gSum sc q ∧ eWf 10000 q.2.1 = true := gSu_cons (qr137t sc) (by decide +kernel) (qh137 sc)
/-- LentArmsModel.isPart()Z -/
def qr138 : eSm := (123, ([], 123, 0, [(1, 56, 0, 0, 57, 0)], [], [(57, 56, 0, 8, 0, (0, 2147483664, 2147483708, 1, 15000, 0)), (57, 56, 0, 11, 0, (0, 2147483652, 2147483652, 0, 15001, 0))], 16000), [((0, 2147483648, 2147483648, 0, 0, 0), [(57, 56, 0, 8, 0, (0, 2147483664, 2147483708, 1, 0, 0))]), ((0, 2147483649, 2147483649, 0, 0, 0), [(57, 56, 0, 8, 0, (0, 2147483667, 2147483708, 1, 0, 0))])], [(55, 12, 14), (56, 8, 9)], 0)
def qr138c : List eCt := []
set_option maxRecDepth 100000 in
theorem qr138t (sc : List Nat) : gSum sc qr138 := gSum_of (su := qs138) (inl := ([81, 121], [])) (cu := qr138c) (sp := []) (L := []) (fuel := 100000) (k := 0) (lems := []) eDat_t (qh138 sc) (gCu_of (by decide +kernel)) (fun c h => by cases h) rfl (by decide +kernel) (by decide +kernel)
def qs139 : List eSm := qr138 :: qs138
set_option maxRecDepth 100000 in
theorem qh139 (sc : List Nat) : ∀ q ∈ qs139, gSum sc q ∧ eWf 10000 q.2.1 = true := gSu_cons (qr138t sc) (by decide +kernel) (qh138 sc)
/-- LentArmsModel.isPart()Z -/
def qr139 : eSm := (123, ([], 123, 0, [(1, 56, 0, 0, 57, 0)], [], [(57, 56, 0, 8, 0, (0, 2147483668, 2147483708, 1, 15000, 0)), (57, 56, 0, 11, 0, (0, 2147483653, 2147483653, 0, 15001, 0))], 16000), [((0, 2147483648, 2147483648, 0, 0, 0), [(57, 56, 0, 8, 0, (0, 2147483668, 2147483708, 1, 0, 0))]), ((0, 2147483649, 2147483649, 0, 0, 0), [(57, 56, 0, 8, 0, (0, 2147483671, 2147483708, 1, 0, 0))])], [(55, 15, 17), (56, 8, 9)], 0)
def qr139c : List eCt := []
set_option maxRecDepth 100000 in
theorem qr139t (sc : List Nat) : gSum sc qr139 := gSum_of (su := qs139) (inl := ([81, 121], [])) (cu := qr139c) (sp := []) (L := []) (fuel := 100000) (k := 0) (lems := []) eDat_t (qh139 sc) (gCu_of (by decide +kernel)) (fun c h => by cases h) rfl (by decide +kernel) (by decide +kernel)
def qs140 : List eSm := qr139 :: qs139
set_option maxRecDepth 100000 in
theorem qh140 (sc : List Nat) : ∀ q ∈ qs140, gSum sc q ∧ eWf 10000 q.2.1 = true := gSu_cons (qr139t sc) (by decide +kernel) (qh139 sc)
/-- LentArmsModel.isPart()Z -/
def qr140 : eSm := (123, ([], 123, 0, [(1, 56, 0, 0, 57, 0)], [], [(57, 56, 0, 8, 0, (0, 2147483672, 2147483708, 1, 15000, 0)), (57, 56, 0, 11, 0, (0, 2147483654, 2147483654, 0, 15001, 0))], 16000), [((0, 2147483648, 2147483648, 0, 0, 0), [(57, 56, 0, 8, 0, (0, 2147483672, 2147483708, 1, 0, 0))]), ((0, 2147483649, 2147483649, 0, 0, 0), [(57, 56, 0, 8, 0, (0, 2147483675, 2147483708, 1, 0, 0))])], [(55, 18, 20), (56, 8, 9)], 0)
def qr140c : List eCt := []
set_option maxRecDepth 100000 in
theorem qr140t (sc : List Nat) : gSum sc qr140 := gSum_of (su := qs140) (inl := ([81, 121], [])) (cu := qr140c) (sp := []) (L := []) (fuel := 100000) (k := 0) (lems := []) eDat_t (qh140 sc) (gCu_of (by decide +kernel)) (fun c h => by cases h) rfl (by decide +kernel) (by decide +kernel)
def qs141 : List eSm := qr140 :: qs140
set_option maxRecDepth 100000 in
theorem qh141 (sc : List Nat) : ∀ q ∈ qs141, gSum sc q ∧ eWf 10000 q.2.1 = true := gSu_cons (qr140t sc) (by decide +kernel) (qh140 sc)
/-- LentArmsModel.isPart()Z -/
def qr141 : eSm := (123, ([], 123, 0, [(1, 56, 0, 0, 57, 0)], [], [(57, 56, 0, 8, 0, (0, 2147483676, 2147483708, 1, 15000, 0)), (57, 56, 0, 11, 0, (0, 2147483655, 2147483655, 0, 15001, 0))], 16000), [((0, 2147483648, 2147483648, 0, 0, 0), [(57, 56, 0, 8, 0, (0, 2147483676, 2147483708, 1, 0, 0))]), ((0, 2147483649, 2147483649, 0, 0, 0), [(57, 56, 0, 8, 0, (0, 2147483679, 2147483708, 1, 0, 0))])], [(55, 21, 23), (56, 8, 9)], 0)
def qr141c : List eCt := []
set_option maxRecDepth 100000 in
theorem qr141t (sc : List Nat) : gSum sc qr141 := gSum_of (su := qs141) (inl := ([81, 121], [])) (cu := qr141c) (sp := []) (L := []) (fuel := 100000) (k := 0) (lems := []) eDat_t (qh141 sc) (gCu_of (by decide +kernel)) (fun c h => by cases h) rfl (by decide +kernel) (by decide +kernel)
def qs142 : List eSm := qr141 :: qs141
set_option maxRecDepth 100000 in
theorem qh142 (sc : List Nat) : ∀ q ∈ qs142, gSum sc q ∧ eWf 10000 q.2.1 = true := gSu_cons (qr141t sc) (by decide +kernel) (qh141 sc)
/-- LentArmsModel.isPart()Z -/
def qr142 : eSm := (123, ([], 123, 0, [(1, 56, 0, 0, 57, 0)], [], [(57, 56, 0, 8, 0, (0, 2147483680, 2147483708, 1, 15000, 0)), (57, 56, 0, 11, 0, (0, 2147483656, 2147483656, 0, 15001, 0))], 16000), [((0, 2147483648, 2147483648, 0, 0, 0), [(57, 56, 0, 8, 0, (0, 2147483680, 2147483708, 1, 0, 0))]), ((0, 2147483649, 2147483649, 0, 0, 0), [(57, 56, 0, 8, 0, (0, 2147483683, 2147483708, 1, 0, 0))])], [(55, 24, 26), (56, 8, 9)], 0)
def qr142c : List eCt := []
set_option maxRecDepth 100000 in
theorem qr142t (sc : List Nat) : gSum sc qr142 := gSum_of (su := qs142) (inl := ([81, 121], [])) (cu := qr142c) (sp := []) (L := []) (fuel := 100000) (k := 0) (lems := []) eDat_t (qh142 sc) (gCu_of (by decide +kernel)) (fun c h => by cases h) rfl (by decide +kernel) (by decide +kernel)
def qs143 : List eSm := qr142 :: qs142
set_option maxRecDepth 100000 in
theorem qh143 (sc : List Nat) : ∀ q ∈ qs143, gSum sc q ∧ eWf 10000 q.2.1 = true := gSu_cons (qr142t sc) (by decide +kernel) (qh142 sc)
/-- LentArmsModel.isPart()Z -/
def qr143 : eSm := (123, ([], 123, 0, [(1, 56, 0, 0, 57, 0)], [], [(57, 56, 0, 8, 0, (0, 2147483684, 2147483708, 1, 15000, 0)), (57, 56, 0, 11, 0, (0, 2147483657, 2147483657, 0, 15001, 0))], 16000), [((0, 2147483648, 2147483648, 0, 0, 0), [(57, 56, 0, 8, 0, (0, 2147483684, 2147483708, 1, 0, 0))]), ((0, 2147483649, 2147483649, 0, 0, 0), [(57, 56, 0, 8, 0, (0, 2147483687, 2147483708, 1, 0, 0))])], [(55, 27, 29), (56, 8, 9)], 0)
def qr143c : List eCt := []
set_option maxRecDepth 100000 in
theorem qr143t (sc : List Nat) : gSum sc qr143 := gSum_of (su := qs143) (inl := ([81, 121], [])) (cu := qr143c) (sp := []) (L := []) (fuel := 100000) (k := 0) (lems := []) eDat_t (qh143 sc) (gCu_of (by decide +kernel)) (fun c h => by cases h) rfl (by decide +kernel) (by decide +kernel)
def qs144 : List eSm := qr143 :: qs143
set_option maxRecDepth 100000 in
theorem qh144 (sc : List Nat) : ∀ q ∈ qs144, gSum sc q ∧ eWf 10000 q.2.1 = true := gSu_cons (qr143t sc) (by decide +kernel) (qh143 sc)
/-- LentArmsModel.isPart()Z -/
def qr144 : eSm := (123, ([], 123, 0, [(1, 56, 0, 0, 57, 0)], [], [(57, 56, 0, 8, 0, (0, 2147483688, 2147483708, 1, 15000, 0)), (57, 56, 0, 11, 0, (0, 2147483658, 2147483658, 0, 15001, 0))], 16000), [((0, 2147483648, 2147483648, 0, 0, 0), [(57, 56, 0, 8, 0, (0, 2147483688, 2147483708, 1, 0, 0))]), ((0, 2147483649, 2147483649, 0, 0, 0), [(57, 56, 0, 8, 0, (0, 2147483691, 2147483708, 1, 0, 0))])], [(55, 30, 32), (56, 8, 9)], 0)
def qr144c : List eCt := []
set_option maxRecDepth 100000 in
theorem qr144t (sc : List Nat) : gSum sc qr144 := gSum_of (su := qs144) (inl := ([81, 121], [])) (cu := qr144c) (sp := []) (L := []) (fuel := 100000) (k := 0) (lems := []) eDat_t (qh144 sc) (gCu_of (by decide +kernel)) (fun c h => by cases h) rfl (by decide +kernel) (by decide +kernel)
def qs145 : List eSm := qr144 :: qs144
set_option maxRecDepth 100000 in
theorem qh145 (sc : List Nat) : ∀ q ∈ qs145, gSum sc q ∧ eWf 10000 q.2.1 = true := gSu_cons (qr144t sc) (by decide +kernel) (qh144 sc)
/-- LentArmsModel.isPart()Z -/
def qr145 : eSm := (123, ([], 123, 0, [(1, 56, 0, 0, 57, 0)], [], [(57, 56, 0, 8, 0, (0, 2147483692, 2147483708, 1, 15000, 0)), (57, 56, 0, 11, 0, (0, 2147483659, 2147483659, 0, 15001, 0))], 16000), [((0, 2147483648, 2147483648, 0, 0, 0), [(57, 56, 0, 8, 0, (0, 2147483692, 2147483708, 1, 0, 0))]), ((0, 2147483649, 2147483649, 0, 0, 0), [(57, 56, 0, 8, 0, (0, 2147483695, 2147483708, 1, 0, 0))])], [(55, 33, 35), (56, 8, 9)], 0)
def qr145c : List eCt := []
set_option maxRecDepth 100000 in
theorem qr145t (sc : List Nat) : gSum sc qr145 := gSum_of (su := qs145) (inl := ([81, 121], [])) (cu := qr145c) (sp := []) (L := []) (fuel := 100000) (k := 0) (lems := []) eDat_t (qh145 sc) (gCu_of (by decide +kernel)) (fun c h => by cases h) rfl (by decide +kernel) (by decide +kernel)
def qs146 : List eSm := qr145 :: qs145
set_option maxRecDepth 100000 in
theorem qh146 (sc : List Nat) : ∀ q ∈ qs146, gSum sc q ∧ eWf 10000 q.2.1 = true := gSu_cons (qr145t sc) (by decide +kernel) (qh145 sc)
/-- LentArmsModel.isPart()Z -/
def qr146 : eSm := (123, ([], 123, 0, [(1, 56, 0, 0, 57, 0)], [], [(57, 56, 0, 8, 0, (0, 2147483696, 2147483708, 1, 15000, 0)), (57, 56, 0, 11, 0, (0, 2147483660, 2147483660, 0, 15001, 0))], 16000), [((0, 2147483648, 2147483648, 0, 0, 0), [(57, 56, 0, 8, 0, (0, 2147483696, 2147483708, 1, 0, 0))]), ((0, 2147483649, 2147483649, 0, 0, 0), [(57, 56, 0, 8, 0, (0, 2147483699, 2147483708, 1, 0, 0))])], [(55, 36, 38), (56, 8, 9)], 0)
def qr146c : List eCt := []
set_option maxRecDepth 100000 in
theorem qr146t (sc : List Nat) : gSum sc qr146 := gSum_of (su := qs146) (inl := ([81, 121], [])) (cu := qr146c) (sp := []) (L := []) (fuel := 100000) (k := 0) (lems := []) eDat_t (qh146 sc) (gCu_of (by decide +kernel)) (fun c h => by cases h) rfl (by decide +kernel) (by decide +kernel)
def qs147 : List eSm := qr146 :: qs146
set_option maxRecDepth 100000 in
theorem qh147 (sc : List Nat) : ∀ q ∈ qs147, gSum sc q ∧ eWf 10000 q.2.1 = true := gSu_cons (qr146t sc) (by decide +kernel) (qh146 sc)
/-- LentArmsModel.isPart()Z -/
def qr147 : eSm := (123, ([], 123, 0, [(1, 56, 0, 0, 57, 0)], [], [(57, 56, 0, 8, 0, (0, 2147483700, 2147483708, 1, 15000, 0)), (57, 56, 0, 11, 0, (0, 2147483661, 2147483661, 0, 15001, 0))], 16000), [((0, 2147483648, 2147483648, 0, 0, 0), [(57, 56, 0, 8, 0, (0, 2147483700, 2147483708, 1, 0, 0))]), ((0, 2147483649, 2147483649, 0, 0, 0), [(57, 56, 0, 8, 0, (0, 2147483703, 2147483708, 1, 0, 0))])], [(55, 39, 41), (56, 8, 9)], 0)
def qr147c : List eCt := []
set_option maxRecDepth 100000 in
theorem qr147t (sc : List Nat) : gSum sc qr147 := gSum_of (su := qs147) (inl := ([81, 121], [])) (cu := qr147c) (sp := []) (L := []) (fuel := 100000) (k := 0) (lems := []) eDat_t (qh147 sc) (gCu_of (by decide +kernel)) (fun c h => by cases h) rfl (by decide +kernel) (by decide +kernel)
def qs148 : List eSm := qr147 :: qs147
set_option maxRecDepth 100000 in
theorem qh148 (sc : List Nat) : ∀ q ∈ qs148, gSum sc q ∧ eWf 10000 q.2.1 = true := gSu_cons (qr147t sc) (by decide +kernel) (qh147 sc)
/-- LentArmsModel.isPart()Z -/
def qr148 : eSm := (123, ([], 123, 0, [(1, 56, 0, 0, 57, 0)], [], [(57, 56, 0, 8, 0, (0, 2147483704, 2147483708, 1, 15000, 0)), (57, 56, 0, 11, 0, (0, 2147483662, 2147483662, 0, 15001, 0))], 16000), [((0, 2147483648, 2147483648, 0, 0, 0), [(57, 56, 0, 8, 0, (0, 2147483704, 2147483708, 1, 0, 0))]), ((0, 2147483649, 2147483649, 0, 0, 0), [(57, 56, 0, 8, 0, (0, 2147483707, 2147483708, 1, 0, 0))])], [(55, 42, 44), (56, 8, 9)], 0)
def qr148c : List eCt := []
set_option maxRecDepth 100000 in
theorem qr148t (sc : List Nat) : gSum sc qr148 := gSum_of (su := qs148) (inl := ([81, 121], [])) (cu := qr148c) (sp := []) (L := []) (fuel := 100000) (k := 0) (lems := []) eDat_t (qh148 sc) (gCu_of (by decide +kernel)) (fun c h => by cases h) rfl (by decide +kernel) (by decide +kernel)
def qs149 : List eSm := qr148 :: qs148
set_option maxRecDepth 100000 in
theorem qh149 (sc : List Nat) : ∀ q ∈ qs149, gSum sc q ∧ eWf 10000 q.2.1 = true := gSu_cons (qr148t sc) (by decide +kernel) (qh148 sc)
/-- LentArmsModel.isPart()Z -/
def qr149 : eSm := (123, ([], 123, 0, [(1, 56, 0, 0, 57, 0)], [], [(57, 56, 0, 8, 0, (0, 2147483708, 2147483708, 0, 15000, 0)), (57, 56, 0, 11, 0, (0, 2147483663, 2147483663, 0, 15001, 0))], 16000), [((0, 2147483648, 2147483648, 0, 0, 0), [(57, 56, 0, 8, 0, (0, 2147483708, 2147483708, 0, 0, 0))])], [], 0)
def qr149c : List eCt := []
set_option maxRecDepth 100000 in
theorem qr149t (sc : List Nat) : gSum sc qr149 := gSum_of (su := qs149) (inl := ([], [])) (cu := qr149c) (sp := []) (L := []) (fuel := 100000) (k := 0) (lems := []) eDat_t (qh149 sc) (gCu_of (by decide +kernel)) (fun c h => by cases h) rfl (by decide +kernel) (by decide +kernel)
def qs150 : List eSm := qr149 :: qs149
set_option maxRecDepth 100000 in
theorem qh150 (sc : List Nat) : ∀ q ∈ qs150, gSum sc q ∧ eWf 10000 q.2.1 = true := gSu_cons (qr149t sc) (by decide +kernel) (qh149 sc)
