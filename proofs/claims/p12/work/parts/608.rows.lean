/-! ===== rows of the methods, 8: printed by wip/gen/emit11.py ===== -/
/-- LentArmsModel.isNumber(II)Z -/
def qr211 : eSm := (122, ([], 122, 0, [(1, 56, 0, 0, 57, 0), (0, 2147483648, 2147483648, 0, 10001, 0), (0, 2147483659, 2147483659, 0, 10002, 0)], [], [(57, 56, 0, 8, 0, (0, 2147483700, 2147483708, 1, 15000, 0))], 16000), [((0, 2147483648, 2147483648, 0, 0, 0), [(57, 56, 0, 8, 0, (0, 2147483700, 2147483708, 1, 0, 0))]), ((0, 2147483649, 2147483649, 0, 0, 0), [(57, 56, 0, 8, 0, (0, 2147483701, 2147483708, 1, 0, 0)), (57, 56, 0, 9, 0, (0, 2147483648, 2147483659, 1, 0, 0))])], [(56, 8, 9)], 0)
def qr211c : List eCt := []
set_option maxRecDepth 100000 in
theorem qr211t (sc : List Nat) : gSum sc qr211 := gSum_of (su := qs211) (inl := ([81, 121], [])) (cu := qr211c) (sp := []) (L := []) (fuel := 100000) (k := 0) (lems := []) eDat_t (qh211 sc) (gCu_of (by decide +kernel)) (fun c h => by cases h) rfl (by decide +kernel) (by decide +kernel)
def qs212 : List eSm := qr211 :: qs211
set_option maxRecDepth 100000 in
theorem qh212 (sc : List Nat) : ∀ q ∈ qs212, gSum sc q ∧ eWf 10000 q.2.1 = true := gSu_cons (qr211t sc) (by decide +kernel) (qh211 sc)
/-- LentArmsModel.isNumber(II)Z -/
def qr212 : eSm := (122, ([], 122, 0, [(1, 56, 0, 0, 57, 0), (0, 2147483649, 2147483649, 0, 10001, 0), (0, 2147483747, 2147483747, 0, 10002, 0)], [], [(57, 56, 0, 8, 0, (0, 2147483702, 2147483708, 1, 15000, 0))], 16000), [((0, 2147483648, 2147483648, 0, 0, 0), [(57, 56, 0, 8, 0, (0, 2147483702, 2147483708, 1, 0, 0))]), ((0, 2147483649, 2147483649, 0, 0, 0), [(57, 56, 0, 8, 0, (0, 2147483703, 2147483708, 1, 0, 0)), (57, 56, 0, 9, 0, (0, 2147483649, 2147483747, 1, 0, 0))])], [(56, 8, 9)], 0)
def qr212c : List eCt := []
set_option maxRecDepth 100000 in
theorem qr212t (sc : List Nat) : gSum sc qr212 := gSum_of (su := qs212) (inl := ([81, 121], [])) (cu := qr212c) (sp := []) (L := []) (fuel := 100000) (k := 0) (lems := []) eDat_t (qh212 sc) (gCu_of (by decide +kernel)) (fun c h => by cases h) rfl (by decide +kernel) (by decide +kernel)
def qs213 : List eSm := qr212 :: qs212
set_option maxRecDepth 100000 in
theorem qh213 (sc : List Nat) : ∀ q ∈ qs213, gSum sc q ∧ eWf 10000 q.2.1 = true := gSu_cons (qr212t sc) (by decide +kernel) (qh212 sc)
/-- LentArmsModel.isNumber(II)Z -/
def qr213 : eSm := (122, ([], 122, 0, [(1, 56, 0, 0, 57, 0), (0, 2147483648, 2147483648, 0, 10001, 0), (0, 2147483659, 2147483659, 0, 10002, 0)], [], [(57, 56, 0, 8, 0, (0, 2147483704, 2147483708, 1, 15000, 0))], 16000), [((0, 2147483648, 2147483648, 0, 0, 0), [(57, 56, 0, 8, 0, (0, 2147483704, 2147483708, 1, 0, 0))]), ((0, 2147483649, 2147483649, 0, 0, 0), [(57, 56, 0, 8, 0, (0, 2147483705, 2147483708, 1, 0, 0)), (57, 56, 0, 9, 0, (0, 2147483648, 2147483659, 1, 0, 0))])], [(56, 8, 9)], 0)
def qr213c : List eCt := []
set_option maxRecDepth 100000 in
theorem qr213t (sc : List Nat) : gSum sc qr213 := gSum_of (su := qs213) (inl := ([81, 121], [])) (cu := qr213c) (sp := []) (L := []) (fuel := 100000) (k := 0) (lems := []) eDat_t (qh213 sc) (gCu_of (by decide +kernel)) (fun c h => by cases h) rfl (by decide +kernel) (by decide +kernel)
def qs214 : List eSm := qr213 :: qs213
set_option maxRecDepth 100000 in
theorem qh214 (sc : List Nat) : ∀ q ∈ qs214, gSum sc q ∧ eWf 10000 q.2.1 = true := gSu_cons (qr213t sc) (by decide +kernel) (qh213 sc)
/-- LentArmsModel.isNumber(II)Z -/
def qr214 : eSm := (122, ([], 122, 0, [(1, 56, 0, 0, 57, 0), (0, 2147483649, 2147483649, 0, 10001, 0), (0, 2147483747, 2147483747, 0, 10002, 0)], [], [(57, 56, 0, 8, 0, (0, 2147483706, 2147483708, 1, 15000, 0))], 16000), [((0, 2147483648, 2147483648, 0, 0, 0), [(57, 56, 0, 8, 0, (0, 2147483706, 2147483708, 1, 0, 0))]), ((0, 2147483649, 2147483649, 0, 0, 0), [(57, 56, 0, 8, 0, (0, 2147483707, 2147483708, 1, 0, 0)), (57, 56, 0, 9, 0, (0, 2147483649, 2147483747, 1, 0, 0))])], [(56, 8, 9)], 0)
def qr214c : List eCt := []
set_option maxRecDepth 100000 in
theorem qr214t (sc : List Nat) : gSum sc qr214 := gSum_of (su := qs214) (inl := ([81, 121], [])) (cu := qr214c) (sp := []) (L := []) (fuel := 100000) (k := 0) (lems := []) eDat_t (qh214 sc) (gCu_of (by decide +kernel)) (fun c h => by cases h) rfl (by decide +kernel) (by decide +kernel)
def qs215 : List eSm := qr214 :: qs214
set_option maxRecDepth 100000 in
theorem qh215 (sc : List Nat) : ∀ q ∈ qs215, gSum sc q ∧ eWf 10000 q.2.1 = true := gSu_cons (qr214t sc) (by decide +kernel) (qh214 sc)
/-- LentArmsModel.isNumber(II)Z -/
def qr215 : eSm := (122, ([], 122, 0, [(1, 56, 0, 0, 57, 0), (0, 2147483648, 2147483648, 0, 10001, 0), (0, 2147483659, 2147483659, 0, 10002, 0)], [], [(57, 56, 0, 8, 0, (0, 2147483708, 2147483708, 0, 15000, 0))], 16000), [((0, 2147483648, 2147483648, 0, 0, 0), [(57, 56, 0, 8, 0, (0, 2147483708, 2147483708, 0, 0, 0))])], [], 0)
def qr215c : List eCt := []
set_option maxRecDepth 100000 in
theorem qr215t (sc : List Nat) : gSum sc qr215 := gSum_of (su := qs215) (inl := ([121], [])) (cu := qr215c) (sp := []) (L := []) (fuel := 100000) (k := 0) (lems := []) eDat_t (qh215 sc) (gCu_of (by decide +kernel)) (fun c h => by cases h) rfl (by decide +kernel) (by decide +kernel)
def qs216 : List eSm := qr215 :: qs215
set_option maxRecDepth 100000 in
theorem qh216 (sc : List Nat) : ∀ q ∈ qs216, gSum sc q ∧ eWf 10000 q.2.1 = true := gSu_cons (qr215t sc) (by decide +kernel) (qh215 sc)
/-- LentArmsModel.isPart()Z -/
def qr216 : eSm := (123, ([], 123, 0, [(1, 56, 0, 0, 57, 0)], [], [(57, 56, 0, 8, 0, (0, 2147483648, 2147483708, 1, 15000, 0)), (57, 56, 0, 11, 0, (0, 2147483648, 2147483648, 0, 15001, 0))], 16000), [((0, 2147483648, 2147483648, 0, 0, 0), [(57, 56, 0, 8, 0, (0, 2147483648, 2147483708, 1, 0, 0))]), ((0, 2147483649, 2147483649, 0, 0, 0), [(57, 56, 0, 8, 0, (0, 2147483651, 2147483708, 1, 0, 0))])], [(55, 0, 2), (56, 8, 9)], 0)
def qr216c : List eCt := []
set_option maxRecDepth 100000 in
theorem qr216t (sc : List Nat) : gSum sc qr216 := gSum_of (su := qs216) (inl := ([81, 121], [])) (cu := qr216c) (sp := []) (L := []) (fuel := 100000) (k := 0) (lems := []) eDat_t (qh216 sc) (gCu_of (by decide +kernel)) (fun c h => by cases h) rfl (by decide +kernel) (by decide +kernel)
def qs217 : List eSm := qr216 :: qs216
set_option maxRecDepth 100000 in
theorem qh217 (sc : List Nat) : ∀ q ∈ qs217, gSum sc q ∧ eWf 10000 q.2.1 = true := gSu_cons (qr216t sc) (by decide +kernel) (qh216 sc)
/-- LentArmsModel.isPart()Z -/
def qr217 : eSm := (123, ([], 123, 0, [(1, 56, 0, 0, 57, 0)], [], [(57, 56, 0, 8, 0, (0, 2147483652, 2147483708, 1, 15000, 0)), (57, 56, 0, 11, 0, (0, 2147483649, 2147483649, 0, 15001, 0))], 16000), [((0, 2147483648, 2147483648, 0, 0, 0), [(57, 56, 0, 8, 0, (0, 2147483652, 2147483708, 1, 0, 0))]), ((0, 2147483649, 2147483649, 0, 0, 0), [(57, 56, 0, 8, 0, (0, 2147483655, 2147483708, 1, 0, 0))])], [(55, 3, 5), (56, 8, 9)], 0)
def qr217c : List eCt := []
set_option maxRecDepth 100000 in
theorem qr217t (sc : List Nat) : gSum sc qr217 := gSum_of (su := qs217) (inl := ([81, 121], [])) (cu := qr217c) (sp := []) (L := []) (fuel := 100000) (k := 0) (lems := []) eDat_t (qh217 sc) (gCu_of (by decide +kernel)) (fun c h => by cases h) rfl (by decide +kernel) (by decide +kernel)
def qs218 : List eSm := qr217 :: qs217
set_option maxRecDepth 100000 in
theorem qh218 (sc : List Nat) : ∀ q ∈ qs218, gSum sc q ∧ eWf 10000 q.2.1 = true := gSu_cons (qr217t sc) (by decide +kernel) (qh217 sc)
/-- LentArmsModel.isPart()Z -/
def qr218 : eSm := (123, ([], 123, 0, [(1, 56, 0, 0, 57, 0)], [], [(57, 56, 0, 8, 0, (0, 2147483656, 2147483708, 1, 15000, 0)), (57, 56, 0, 11, 0, (0, 2147483650, 2147483650, 0, 15001, 0))], 16000), [((0, 2147483648, 2147483648, 0, 0, 0), [(57, 56, 0, 8, 0, (0, 2147483656, 2147483708, 1, 0, 0))]), ((0, 2147483649, 2147483649, 0, 0, 0), [(57, 56, 0, 8, 0, (0, 2147483659, 2147483708, 1, 0, 0))])], [(55, 6, 8), (56, 8, 9)], 0)
def qr218c : List eCt := []
set_option maxRecDepth 100000 in
theorem qr218t (sc : List Nat) : gSum sc qr218 := gSum_of (su := qs218) (inl := ([81, 121], [])) (cu := qr218c) (sp := []) (L := []) (fuel := 100000) (k := 0) (lems := []) eDat_t (qh218 sc) (gCu_of (by decide +kernel)) (fun c h => by cases h) rfl (by decide +kernel) (by decide +kernel)
def qs219 : List eSm := qr218 :: qs218
set_option maxRecDepth 100000 in
theorem qh219 (sc : List Nat) : ∀ q ∈ qs219, gSum sc q ∧ eWf 10000 q.2.1 = true := gSu_cons (qr218t sc) (by decide +kernel) (qh218 sc)
/-- LentArmsModel.isPart()Z -/
def qr219 : eSm := (123, ([], 123, 0, [(1, 56, 0, 0, 57, 0)], [], [(57, 56, 0, 8, 0, (0, 2147483660, 2147483708, 1, 15000, 0)), (57, 56, 0, 11, 0, (0, 2147483651, 2147483651, 0, 15001, 0))], 16000), [((0, 2147483648, 2147483648, 0, 0, 0), [(57, 56, 0, 8, 0, (0, 2147483660, 2147483708, 1, 0, 0))]), ((0, 2147483649, 2147483649, 0, 0, 0), [(57, 56, 0, 8, 0, (0, 2147483663, 2147483708, 1, 0, 0))])], [(55, 9, 11), (56, 8, 9)], 0)
def qr219c : List eCt := []
set_option maxRecDepth 100000 in
theorem qr219t (sc : List Nat) : gSum sc qr219 := gSum_of (su := qs219) (inl := ([81, 121], [])) (cu := qr219c) (sp := []) (L := []) (fuel := 100000) (k := 0) (lems := []) eDat_t (qh219 sc) (gCu_of (by decide +kernel)) (fun c h => by cases h) rfl (by decide +kernel) (by decide +kernel)
def qs220 : List eSm := qr219 :: qs219
set_option maxRecDepth 100000 in
theorem qh220 (sc : List Nat) : ∀ q ∈ qs220, gSum sc q ∧ eWf 10000 q.2.1 = true := gSu_cons (qr219t sc) (by decide +kernel) (qh219 sc)
/-- LentArmsModel.isPart()Z -/
def qr220 : eSm := (123, ([], 123, 0, [(1, 56, 0, 0, 57, 0)], [], [(57, 56, 0, 8, 0, (0, 2147483664, 2147483708, 1, 15000, 0)), (57, 56, 0, 11, 0, (0, 2147483652, 2147483652, 0, 15001, 0))], 16000), [((0, 2147483648, 2147483648, 0, 0, 0), [(57, 56, 0, 8, 0, (0, 2147483664, 2147483708, 1, 0, 0))]), ((0, 2147483649, 2147483649, 0, 0, 0), [(57, 56, 0, 8, 0, (0, 2147483667, 2147483708, 1, 0, 0))])], [(55, 12, 14), (56, 8, 9)], 0)
def qr220c : List eCt := []
set_option maxRecDepth 100000 in
theorem qr220t (sc : List Nat) : gSum sc qr220 := gSum_of (su := qs220) (inl := ([81, 121], [])) (cu := qr220c) (sp := []) (L := []) (fuel := 100000) (k := 0) (lems := []) eDat_t (qh220 sc) (gCu_of (by decide +kernel)) (fun c h => by cases h) rfl (by decide +kernel) (by decide +kernel)
def qs221 : List eSm := qr220 :: qs220
set_option maxRecDepth 100000 in
theorem qh221 (sc : List Nat) : ∀ q ∈ qs221, gSum sc q ∧ eWf 10000 q.2.1 = true := gSu_cons (qr220t sc) (by decide +kernel) (qh220 sc)
/-- LentArmsModel.isPart()Z -/
def qr221 : eSm := (123, ([], 123, 0, [(1, 56, 0, 0, 57, 0)], [], [(57, 56, 0, 8, 0, (0, 2147483668, 2147483708, 1, 15000, 0)), (57, 56, 0, 11, 0, (0, 2147483653, 2147483653, 0, 15001, 0))], 16000), [((0, 2147483648, 2147483648, 0, 0, 0), [(57, 56, 0, 8, 0, (0, 2147483668, 2147483708, 1, 0, 0))]), ((0, 2147483649, 2147483649, 0, 0, 0), [(57, 56, 0, 8, 0, (0, 2147483671, 2147483708, 1, 0, 0))])], [(55, 15, 17), (56, 8, 9)], 0)
def qr221c : List eCt := []
set_option maxRecDepth 100000 in
theorem qr221t (sc : List Nat) : gSum sc qr221 := gSum_of (su := qs221) (inl := ([81, 121], [])) (cu := qr221c) (sp := []) (L := []) (fuel := 100000) (k := 0) (lems := []) eDat_t (qh221 sc) (gCu_of (by decide +kernel)) (fun c h => by cases h) rfl (by decide +kernel) (by decide +kernel)
def qs222 : List eSm := qr221 :: qs221
set_option maxRecDepth 100000 in
theorem qh222 (sc : List Nat) : ∀ q ∈ qs222, gSum sc q ∧ eWf 10000 q.2.1 = true := gSu_cons (qr221t sc) (by decide +kernel) (qh221 sc)
/-- LentArmsModel.isPart()Z -/
def qr222 : eSm := (123, ([], 123, 0, [(1, 56, 0, 0, 57, 0)], [], [(57, 56, 0, 8, 0, (0, 2147483672, 2147483708, 1, 15000, 0)), (57, 56, 0, 11, 0, (0, 2147483654, 2147483654, 0, 15001, 0))], 16000), [((0, 2147483648, 2147483648, 0, 0, 0), [(57, 56, 0, 8, 0, (0, 2147483672, 2147483708, 1, 0, 0))]), ((0, 2147483649, 2147483649, 0, 0, 0), [(57, 56, 0, 8, 0, (0, 2147483675, 2147483708, 1, 0, 0))])], [(55, 18, 20), (56, 8, 9)], 0)
def qr222c : List eCt := []
set_option maxRecDepth 100000 in
theorem qr222t (sc : List Nat) : gSum sc qr222 := gSum_of (su := qs222) (inl := ([81, 121], [])) (cu := qr222c) (sp := []) (L := []) (fuel := 100000) (k := 0) (lems := []) eDat_t (qh222 sc) (gCu_of (by decide +kernel)) (fun c h => by cases h) rfl (by decide +kernel) (by decide +kernel)
def qs223 : List eSm := qr222 :: qs222
set_option maxRecDepth 100000 in
theorem qh223 (sc : List Nat) : ∀ q ∈ qs223, gSum sc q ∧ eWf 10000 q.2.1 = true := gSu_cons (qr222t sc) (by decide +kernel) (qh222 sc)
/-- LentArmsModel.isPart()Z -/
def qr223 : eSm := (123, ([], 123, 0, [(1, 56, 0, 0, 57, 0)], [], [(57, 56, 0, 8, 0, (0, 2147483676, 2147483708, 1, 15000, 0)), (57, 56, 0, 11, 0, (0, 2147483655, 2147483655, 0, 15001, 0))], 16000), [((0, 2147483648, 2147483648, 0, 0, 0), [(57, 56, 0, 8, 0, (0, 2147483676, 2147483708, 1, 0, 0))]), ((0, 2147483649, 2147483649, 0, 0, 0), [(57, 56, 0, 8, 0, (0, 2147483679, 2147483708, 1, 0, 0))])], [(55, 21, 23), (56, 8, 9)], 0)
def qr223c : List eCt := []
set_option maxRecDepth 100000 in
theorem qr223t (sc : List Nat) : gSum sc qr223 := gSum_of (su := qs223) (inl := ([81, 121], [])) (cu := qr223c) (sp := []) (L := []) (fuel := 100000) (k := 0) (lems := []) eDat_t (qh223 sc) (gCu_of (by decide +kernel)) (fun c h => by cases h) rfl (by decide +kernel) (by decide +kernel)
def qs224 : List eSm := qr223 :: qs223
set_option maxRecDepth 100000 in
theorem qh224 (sc : List Nat) : ∀ q ∈ qs224, gSum sc q ∧ eWf 10000 q.2.1 = true := gSu_cons (qr223t sc) (by decide +kernel) (qh223 sc)
/-- LentArmsModel.isPart()Z -/
def qr224 : eSm := (123, ([], 123, 0, [(1, 56, 0, 0, 57, 0)], [], [(57, 56, 0, 8, 0, (0, 2147483680, 2147483708, 1, 15000, 0)), (57, 56, 0, 11, 0, (0, 2147483656, 2147483656, 0, 15001, 0))], 16000), [((0, 2147483648, 2147483648, 0, 0, 0), [(57, 56, 0, 8, 0, (0, 2147483680, 2147483708, 1, 0, 0))]), ((0, 2147483649, 2147483649, 0, 0, 0), [(57, 56, 0, 8, 0, (0, 2147483683, 2147483708, 1, 0, 0))])], [(55, 24, 26), (56, 8, 9)], 0)
def qr224c : List eCt := []
set_option maxRecDepth 100000 in
theorem qr224t (sc : List Nat) : gSum sc qr224 := gSum_of (su := qs224) (inl := ([81, 121], [])) (cu := qr224c) (sp := []) (L := []) (fuel := 100000) (k := 0) (lems := []) eDat_t (qh224 sc) (gCu_of (by decide +kernel)) (fun c h => by cases h) rfl (by decide +kernel) (by decide +kernel)
def qs225 : List eSm := qr224 :: qs224
set_option maxRecDepth 100000 in
theorem qh225 (sc : List Nat) : ∀ q ∈ qs225, gSum sc q ∧ eWf 10000 q.2.1 = true := gSu_cons (qr224t sc) (by decide +kernel) (qh224 sc)
/-- LentArmsModel.isPart()Z -/
def qr225 : eSm := (123, ([], 123, 0, [(1, 56, 0, 0, 57, 0)], [], [(57, 56, 0, 8, 0, (0, 2147483684, 2147483708, 1, 15000, 0)), (57, 56, 0, 11, 0, (0, 2147483657, 2147483657, 0, 15001, 0))], 16000), [((0, 2147483648, 2147483648, 0, 0, 0), [(57, 56, 0, 8, 0, (0, 2147483684, 2147483708, 1, 0, 0))]), ((0, 2147483649, 2147483649, 0, 0, 0), [(57, 56, 0, 8, 0, (0, 2147483687, 2147483708, 1, 0, 0))])], [(55, 27, 29), (56, 8, 9)], 0)
def qr225c : List eCt := []
set_option maxRecDepth 100000 in
theorem qr225t (sc : List Nat) : gSum sc qr225 := gSum_of (su := qs225) (inl := ([81, 121], [])) (cu := qr225c) (sp := []) (L := []) (fuel := 100000) (k := 0) (lems := []) eDat_t (qh225 sc) (gCu_of (by decide +kernel)) (fun c h => by cases h) rfl (by decide +kernel) (by decide +kernel)
def qs226 : List eSm := qr225 :: qs225
set_option maxRecDepth 100000 in
theorem qh226 (sc : List Nat) : ∀ q ∈ qs226, gSum sc q ∧ eWf 10000 q.2.1 = true := gSu_cons (qr225t sc) (by decide +kernel) (qh225 sc)
/-- LentArmsModel.isPart()Z -/
def qr226 : eSm := (123, ([], 123, 0, [(1, 56, 0, 0, 57, 0)], [], [(57, 56, 0, 8, 0, (0, 2147483688, 2147483708, 1, 15000, 0)), (57, 56, 0, 11, 0, (0, 2147483658, 2147483658, 0, 15001, 0))], 16000), [((0, 2147483648, 2147483648, 0, 0, 0), [(57, 56, 0, 8, 0, (0, 2147483688, 2147483708, 1, 0, 0))]), ((0, 2147483649, 2147483649, 0, 0, 0), [(57, 56, 0, 8, 0, (0, 2147483691, 2147483708, 1, 0, 0))])], [(55, 30, 32), (56, 8, 9)], 0)
def qr226c : List eCt := []
set_option maxRecDepth 100000 in
theorem qr226t (sc : List Nat) : gSum sc qr226 := gSum_of (su := qs226) (inl := ([81, 121], [])) (cu := qr226c) (sp := []) (L := []) (fuel := 100000) (k := 0) (lems := []) eDat_t (qh226 sc) (gCu_of (by decide +kernel)) (fun c h => by cases h) rfl (by decide +kernel) (by decide +kernel)
def qs227 : List eSm := qr226 :: qs226
set_option maxRecDepth 100000 in
theorem qh227 (sc : List Nat) : ∀ q ∈ qs227, gSum sc q ∧ eWf 10000 q.2.1 = true := gSu_cons (qr226t sc) (by decide +kernel) (qh226 sc)
/-- LentArmsModel.isPart()Z -/
def qr227 : eSm := (123, ([], 123, 0, [(1, 56, 0, 0, 57, 0)], [], [(57, 56, 0, 8, 0, (0, 2147483692, 2147483708, 1, 15000, 0)), (57, 56, 0, 11, 0, (0, 2147483659, 2147483659, 0, 15001, 0))], 16000), [((0, 2147483648, 2147483648, 0, 0, 0), [(57, 56, 0, 8, 0, (0, 2147483692, 2147483708, 1, 0, 0))]), ((0, 2147483649, 2147483649, 0, 0, 0), [(57, 56, 0, 8, 0, (0, 2147483695, 2147483708, 1, 0, 0))])], [(55, 33, 35), (56, 8, 9)], 0)
def qr227c : List eCt := []
set_option maxRecDepth 100000 in
theorem qr227t (sc : List Nat) : gSum sc qr227 := gSum_of (su := qs227) (inl := ([81, 121], [])) (cu := qr227c) (sp := []) (L := []) (fuel := 100000) (k := 0) (lems := []) eDat_t (qh227 sc) (gCu_of (by decide +kernel)) (fun c h => by cases h) rfl (by decide +kernel) (by decide +kernel)
def qs228 : List eSm := qr227 :: qs227
set_option maxRecDepth 100000 in
theorem qh228 (sc : List Nat) : ∀ q ∈ qs228, gSum sc q ∧ eWf 10000 q.2.1 = true := gSu_cons (qr227t sc) (by decide +kernel) (qh227 sc)
/-- LentArmsModel.isPart()Z -/
def qr228 : eSm := (123, ([], 123, 0, [(1, 56, 0, 0, 57, 0)], [], [(57, 56, 0, 8, 0, (0, 2147483696, 2147483708, 1, 15000, 0)), (57, 56, 0, 11, 0, (0, 2147483660, 2147483660, 0, 15001, 0))], 16000), [((0, 2147483648, 2147483648, 0, 0, 0), [(57, 56, 0, 8, 0, (0, 2147483696, 2147483708, 1, 0, 0))]), ((0, 2147483649, 2147483649, 0, 0, 0), [(57, 56, 0, 8, 0, (0, 2147483699, 2147483708, 1, 0, 0))])], [(55, 36, 38), (56, 8, 9)], 0)
def qr228c : List eCt := []
set_option maxRecDepth 100000 in
theorem qr228t (sc : List Nat) : gSum sc qr228 := gSum_of (su := qs228) (inl := ([81, 121], [])) (cu := qr228c) (sp := []) (L := []) (fuel := 100000) (k := 0) (lems := []) eDat_t (qh228 sc) (gCu_of (by decide +kernel)) (fun c h => by cases h) rfl (by decide +kernel) (by decide +kernel)
def qs229 : List eSm := qr228 :: qs228
set_option maxRecDepth 100000 in
theorem qh229 (sc : List Nat) : ∀ q ∈ qs229, gSum sc q ∧ eWf 10000 q.2.1 = true := gSu_cons (qr228t sc) (by decide +kernel) (qh228 sc)
/-- LentArmsModel.isPart()Z -/
def qr229 : eSm := (123, ([], 123, 0, [(1, 56, 0, 0, 57, 0)], [], [(57, 56, 0, 8, 0, (0, 2147483700, 2147483708, 1, 15000, 0)), (57, 56, 0, 11, 0, (0, 2147483661, 2147483661, 0, 15001, 0))], 16000), [((0, 2147483648, 2147483648, 0, 0, 0), [(57, 56, 0, 8, 0, (0, 2147483700, 2147483708, 1, 0, 0))]), ((0, 2147483649, 2147483649, 0, 0, 0), [(57, 56, 0, 8, 0, (0, 2147483703, 2147483708, 1, 0, 0))])], [(55, 39, 41), (56, 8, 9)], 0)
def qr229c : List eCt := []
set_option maxRecDepth 100000 in
theorem qr229t (sc : List Nat) : gSum sc qr229 := gSum_of (su := qs229) (inl := ([81, 121], [])) (cu := qr229c) (sp := []) (L := []) (fuel := 100000) (k := 0) (lems := []) eDat_t (qh229 sc) (gCu_of (by decide +kernel)) (fun c h => by cases h) rfl (by decide +kernel) (by decide +kernel)
def qs230 : List eSm := qr229 :: qs229
set_option maxRecDepth 100000 in
theorem qh230 (sc : List Nat) : ∀ q ∈ qs230, gSum sc q ∧ eWf 10000 q.2.1 = true := gSu_cons (qr229t sc) (by decide +kernel) (qh229 sc)
/-- LentArmsModel.isPart()Z -/
def qr230 : eSm := (123, ([], 123, 0, [(1, 56, 0, 0, 57, 0)], [], [(57, 56, 0, 8, 0, (0, 2147483704, 2147483708, 1, 15000, 0)), (57, 56, 0, 11, 0, (0, 2147483662, 2147483662, 0, 15001, 0))], 16000), [((0, 2147483648, 2147483648, 0, 0, 0), [(57, 56, 0, 8, 0, (0, 2147483704, 2147483708, 1, 0, 0))]), ((0, 2147483649, 2147483649, 0, 0, 0), [(57, 56, 0, 8, 0, (0, 2147483707, 2147483708, 1, 0, 0))])], [(55, 42, 44), (56, 8, 9)], 0)
def qr230c : List eCt := []
set_option maxRecDepth 100000 in
theorem qr230t (sc : List Nat) : gSum sc qr230 := gSum_of (su := qs230) (inl := ([81, 121], [])) (cu := qr230c) (sp := []) (L := []) (fuel := 100000) (k := 0) (lems := []) eDat_t (qh230 sc) (gCu_of (by decide +kernel)) (fun c h => by cases h) rfl (by decide +kernel) (by decide +kernel)
def qs231 : List eSm := qr230 :: qs230
set_option maxRecDepth 100000 in
theorem qh231 (sc : List Nat) : ∀ q ∈ qs231, gSum sc q ∧ eWf 10000 q.2.1 = true := gSu_cons (qr230t sc) (by decide +kernel) (qh230 sc)
/-- LentArmsModel.isPart()Z -/
def qr231 : eSm := (123, ([], 123, 0, [(1, 56, 0, 0, 57, 0)], [], [(57, 56, 0, 8, 0, (0, 2147483708, 2147483708, 0, 15000, 0)), (57, 56, 0, 11, 0, (0, 2147483663, 2147483663, 0, 15001, 0))], 16000), [((0, 2147483648, 2147483648, 0, 0, 0), [(57, 56, 0, 8, 0, (0, 2147483708, 2147483708, 0, 0, 0))])], [], 0)
def qr231c : List eCt := []
set_option maxRecDepth 100000 in
theorem qr231t (sc : List Nat) : gSum sc qr231 := gSum_of (su := qs231) (inl := ([], [])) (cu := qr231c) (sp := []) (L := []) (fuel := 100000) (k := 0) (lems := []) eDat_t (qh231 sc) (gCu_of (by decide +kernel)) (fun c h => by cases h) rfl (by decide +kernel) (by decide +kernel)
def qs232 : List eSm := qr231 :: qs231
set_option maxRecDepth 100000 in
theorem qh232 (sc : List Nat) : ∀ q ∈ qs232, gSum sc q ∧ eWf 10000 q.2.1 = true := gSu_cons (qr231t sc) (by decide +kernel) (qh231 sc)
/-- LentArmsModel.isText()Z -/
def qr232 : eSm := (124, ([], 124, 0, [(1, 56, 0, 0, 57, 0), (3, 0, 0, 0, 0, 0)], [], [], 16000), [((0, 2147483648, 2147483648, 0, 0, 0), []), ((0, 2147483649, 2147483649, 0, 0, 0), [])], [(55, 0, 44), (56, 8, 9), (56, 11, 11)], 0)
def qr232c : List eCt := []
set_option maxRecDepth 100000 in
theorem qr232t (sc : List Nat) : gSum sc qr232 := gSum_of (su := qs232) (inl := ([81, 121], [])) (cu := qr232c) (sp := []) (L := []) (fuel := 100000) (k := 0) (lems := []) eDat_t (qh232 sc) (gCu_of (by decide +kernel)) (fun c h => by cases h) rfl (by decide +kernel) (by decide +kernel)
def qs233 : List eSm := qr232 :: qs232
set_option maxRecDepth 100000 in
theorem qh233 (sc : List Nat) : ∀ q ∈ qs233, gSum sc q ∧ eWf 10000 q.2.1 = true := gSu_cons (qr232t sc) (by decide +kernel) (qh232 sc)
