/-! ===== rows of the methods, 4: printed by wip/gen/emit11.py ===== -/
/-- LentArmsModel.isText()Z -/
def qr150 : eSm := (124, ([], 124, 0, [(1, 56, 0, 0, 57, 0), (3, 0, 0, 0, 0, 0)], [], [], 16000), [((0, 2147483648, 2147483648, 0, 0, 0), []), ((0, 2147483649, 2147483649, 0, 0, 0), [])], [(55, 0, 44), (56, 8, 9), (56, 11, 11)], 0)
def qr150c : List eCt := []
set_option maxRecDepth 100000 in
theorem qr150t (sc : List Nat) : gSum sc qr150 := gSum_of (su := qs150) (inl := ([81, 121], [])) (cu := qr150c) (sp := []) (L := []) (fuel := 100000) (k := 0) (lems := []) eDat_t (qh150 sc) (gCu_of (by decide +kernel)) (fun c h => by cases h) rfl (by decide +kernel) (by decide +kernel)
def qs151 : List eSm := qr150 :: qs150
set_option maxRecDepth 100000 in
theorem qh151 (sc : List Nat) : ∀ q ∈ qs151, gSum sc q ∧ eWf 10000 q.2.1 = true := gSu_cons (qr150t sc) (by decide +kernel) (qh150 sc)
/-- LentArmsModel.allWaiting([I)I -/
def qr151 : eSm := (113, ([], 113, 0, [(1, 50, 0, 0, 51, 0), (3, 0, 0, 0, 0, 0), (3, 0, 0, 0, 0, 0)], [], [], 16000), [((0, 0, 4294967295, 1, 0, 0), [])], [], 0)
def qr151c : List eCt := [(100000, (100002, 1, 2147483648, 2147483660), [([], 113, 4, [(1, 50, 0, 0, 51, 0), (0, 0, 4294967295, 1, 100001, 0), (0, 2147483648, 2147483660, 1, 100002, 0)], [], [], 110000)])]
set_option maxRecDepth 100000 in
theorem qr151t (sc : List Nat) : gSum sc qr151 := gSum_of (su := qs151) (inl := ([85], [])) (cu := qr151c) (sp := []) (L := []) (fuel := 100000) (k := 0) (lems := []) eDat_t (qh151 sc) (gCu_of (by decide +kernel)) (fun c h => by cases h) rfl (by decide +kernel) (by decide +kernel)
def qs152 : List eSm := qr151 :: qs151
set_option maxRecDepth 100000 in
theorem qh152 (sc : List Nat) : ∀ q ∈ qs152, gSum sc q ∧ eWf 10000 q.2.1 = true := gSu_cons (qr151t sc) (by decide +kernel) (qh151 sc)
