/-! ===== rows of the methods, 7: printed by wip/gen/emit11.py ===== -/
/-- LentArmsModel.bestHome(I)I -/
def qr181 : eSm := (135, ([], 135, 0, [(1, 56, 0, 0, 57, 0), (0, 0, 4294967295, 1, 10001, 0), (3, 0, 0, 0, 0, 0), (3, 0, 0, 0, 0, 0), (3, 0, 0, 0, 0, 0), (3, 0, 0, 0, 0, 0)], [], [], 16000), [((0, 2147483646, 2147483646, 0, 0, 0), []), ((0, 2147483648, 2147483659, 1, 0, 0), [])], [(51, 0, 470)], 0)
def qr181c : List eCt := [(100000, (100004, 1, 2147483648, 2147483660), [([], 135, 21, [(1, 56, 0, 0, 57, 0), (0, 2147483649, 2147483708, 1, 100001, 0), (0, 2147483643, 2147483643, 0, 100002, 0), (0, 2147483648, 2147483648, 0, 100003, 0), (0, 2147483648, 2147483648, 0, 100004, 0), (3, 0, 0, 0, 0, 0)], [], [], 110000), ([], 135, 21, [(1, 56, 0, 0, 57, 0), (0, 2147483649, 2147483708, 1, 100001, 0), (0, 2147483648, 2147483659, 1, 100002, 0), (0, 0, 4294967295, 1, 100003, 0), (0, 2147483649, 2147483660, 1, 100004, 0), (0, 2147483648, 2147483649, 1, 100005, 0)], [], [(52, 51, 0, 13, 0, (0, 0, 4294967295, 1, 105000, 0)), (52, 51, 0, 1, 0, (0, 2147483649, 2147483665, 1, 105001, 0))], 110000)]), (200000, (200004, 1, 2147483648, 2147483656), [([(135, 48, [(1, 56, 0, 0, 57, 0), (0, 2147483649, 2147483708, 1, 200101, 0), (0, 2147483643, 2147483643, 0, 200102, 0), (0, 2147483648, 2147483648, 0, 200103, 0), (0, 2147483648, 2147483648, 0, 100004, 0), (3, 0, 0, 0, 0, 0)], [])], 103, 13, [(1, 51, 0, 0, 52, 0), (0, 2147483648, 2147483648, 0, 200001, 0), (0, 2147483649, 2147483649, 0, 200002, 0), (0, 2147483743, 2147483871, 8, 200003, 0), (0, 2147483648, 2147483656, 1, 200004, 0)], [], [(52, 51, 0, 1, 0, (0, 2147483648, 2147483664, 1, 205000, 0))], 210000), ([(135, 48, [(1, 56, 0, 0, 57, 0), (0, 2147483649, 2147483708, 1, 200101, 0), (0, 2147483648, 2147483659, 1, 200102, 0), (0, 0, 4294967295, 1, 200103, 0), (0, 2147483649, 2147483659, 1, 100004, 0), (0, 2147483648, 2147483649, 1, 200105, 0)], [])], 103, 13, [(1, 51, 0, 0, 52, 0), (0, 2147483649, 2147483659, 1, 200001, 0), (0, 2147483649, 2147483649, 0, 200002, 0), (0, 2147483743, 2147483871, 8, 200003, 0), (0, 2147483648, 2147483656, 1, 200004, 0)], [], [(52, 51, 0, 1, 0, (0, 2147483648, 2147483664, 1, 205000, 0))], 210000)])]
set_option maxRecDepth 100000 in
theorem qr181t (sc : List Nat) : gSum sc qr181 := gSum_of (su := qs181) (inl := ([81, 103], [])) (cu := qr181c) (sp := []) (L := []) (fuel := 100000) (k := 0) (lems := []) eDat_t (qh181 sc) (gCu_of (by decide +kernel)) (fun c h => by cases h) rfl (by decide +kernel) (by decide +kernel)
def qs182 : List eSm := qr181 :: qs181
set_option maxRecDepth 100000 in
theorem qh182 (sc : List Nat) : ∀ q ∈ qs182, gSum sc q ∧ eWf 10000 q.2.1 = true := gSu_cons (qr181t sc) (by decide +kernel) (qh181 sc)
/-- LentArmsModel.away()I -/
def qr182 : eSm := (136, ([], 136, 0, [(1, 56, 0, 0, 57, 0), (3, 0, 0, 0, 0, 0), (3, 0, 0, 0, 0, 0)], [], [], 16000), [((0, 0, 4294967295, 1, 0, 0), [])], [], 0)
def qr182c : List eCt := [(100000, (100002, 1, 2147483648, 2147483664), [([], 136, 4, [(1, 56, 0, 0, 57, 0), (0, 0, 4294967295, 1, 100001, 0), (0, 2147483648, 2147483664, 1, 100002, 0)], [], [], 110000)])]
set_option maxRecDepth 100000 in
theorem qr182t (sc : List Nat) : gSum sc qr182 := gSum_of (su := qs182) (inl := ([84], [])) (cu := qr182c) (sp := []) (L := []) (fuel := 100000) (k := 0) (lems := []) eDat_t (qh182 sc) (gCu_of (by decide +kernel)) (fun c h => by cases h) rfl (by decide +kernel) (by decide +kernel)
def qs183 : List eSm := qr182 :: qs182
set_option maxRecDepth 100000 in
theorem qh183 (sc : List Nat) : ∀ q ∈ qs183, gSum sc q ∧ eWf 10000 q.2.1 = true := gSu_cons (qr182t sc) (by decide +kernel) (qh182 sc)
/-- LentArmsModel.allWaiting([I)I -/
def qr183 : eSm := (113, ([], 113, 0, [(1, 50, 0, 0, 51, 0), (3, 0, 0, 0, 0, 0), (3, 0, 0, 0, 0, 0)], [], [], 16000), [((0, 0, 4294967295, 1, 0, 0), [])], [], 0)
def qr183c : List eCt := [(100000, (100002, 1, 2147483648, 2147483660), [([], 113, 4, [(1, 50, 0, 0, 51, 0), (0, 0, 4294967295, 1, 100001, 0), (0, 2147483648, 2147483660, 1, 100002, 0)], [], [], 110000)])]
set_option maxRecDepth 100000 in
theorem qr183t (sc : List Nat) : gSum sc qr183 := gSum_of (su := qs183) (inl := ([85], [])) (cu := qr183c) (sp := []) (L := []) (fuel := 100000) (k := 0) (lems := []) eDat_t (qh183 sc) (gCu_of (by decide +kernel)) (fun c h => by cases h) rfl (by decide +kernel) (by decide +kernel)
def qs184 : List eSm := qr183 :: qs183
set_option maxRecDepth 100000 in
theorem qh184 (sc : List Nat) : ∀ q ∈ qs184, gSum sc q ∧ eWf 10000 q.2.1 = true := gSu_cons (qr183t sc) (by decide +kernel) (qh183 sc)
/-- LentArmsModel.count(I)I -/
def qr184 : eSm := (137, ([], 137, 0, [(1, 56, 0, 0, 57, 0), (0, 0, 4294967295, 1, 10001, 0)], [], [], 16000), [((0, 0, 4294967295, 1, 0, 0), []), ((0, 2147483646, 2147483646, 0, 0, 0), [])], [], 0)
def qr184c : List eCt := []
set_option maxRecDepth 100000 in
theorem qr184t (sc : List Nat) : gSum sc qr184 := gSum_of (su := qs184) (inl := ([81], [])) (cu := qr184c) (sp := []) (L := []) (fuel := 100000) (k := 0) (lems := []) eDat_t (qh184 sc) (gCu_of (by decide +kernel)) (fun c h => by cases h) rfl (by decide +kernel) (by decide +kernel)
def qs185 : List eSm := qr184 :: qs184
set_option maxRecDepth 100000 in
theorem qh185 (sc : List Nat) : ∀ q ∈ qs185, gSum sc q ∧ eWf 10000 q.2.1 = true := gSu_cons (qr184t sc) (by decide +kernel) (qh184 sc)
/-- LentArmsModel.isNumber(II)Z -/
def qr185 : eSm := (122, ([], 122, 0, [(1, 56, 0, 0, 57, 0), (0, 2147483648, 2147483648, 0, 10001, 0), (0, 2147483659, 2147483659, 0, 10002, 0)], [], [(57, 56, 0, 8, 0, (0, 2147483648, 2147483708, 1, 15000, 0))], 16000), [((0, 2147483648, 2147483648, 0, 0, 0), [(57, 56, 0, 8, 0, (0, 2147483648, 2147483708, 1, 0, 0))]), ((0, 2147483649, 2147483649, 0, 0, 0), [(57, 56, 0, 8, 0, (0, 2147483649, 2147483708, 1, 0, 0)), (57, 56, 0, 9, 0, (0, 2147483648, 2147483659, 1, 0, 0))])], [(56, 8, 9)], 0)
def qr185c : List eCt := []
set_option maxRecDepth 100000 in
theorem qr185t (sc : List Nat) : gSum sc qr185 := gSum_of (su := qs185) (inl := ([81, 121], [])) (cu := qr185c) (sp := []) (L := []) (fuel := 100000) (k := 0) (lems := []) eDat_t (qh185 sc) (gCu_of (by decide +kernel)) (fun c h => by cases h) rfl (by decide +kernel) (by decide +kernel)
def qs186 : List eSm := qr185 :: qs185
set_option maxRecDepth 100000 in
theorem qh186 (sc : List Nat) : ∀ q ∈ qs186, gSum sc q ∧ eWf 10000 q.2.1 = true := gSu_cons (qr185t sc) (by decide +kernel) (qh185 sc)
/-- LentArmsModel.isNumber(II)Z -/
def qr186 : eSm := (122, ([], 122, 0, [(1, 56, 0, 0, 57, 0), (0, 2147483649, 2147483649, 0, 10001, 0), (0, 2147483747, 2147483747, 0, 10002, 0)], [], [(57, 56, 0, 8, 0, (0, 2147483650, 2147483708, 1, 15000, 0))], 16000), [((0, 2147483648, 2147483648, 0, 0, 0), [(57, 56, 0, 8, 0, (0, 2147483650, 2147483708, 1, 0, 0))]), ((0, 2147483649, 2147483649, 0, 0, 0), [(57, 56, 0, 8, 0, (0, 2147483651, 2147483708, 1, 0, 0)), (57, 56, 0, 9, 0, (0, 2147483649, 2147483747, 1, 0, 0))])], [(56, 8, 9)], 0)
def qr186c : List eCt := []
set_option maxRecDepth 100000 in
theorem qr186t (sc : List Nat) : gSum sc qr186 := gSum_of (su := qs186) (inl := ([81, 121], [])) (cu := qr186c) (sp := []) (L := []) (fuel := 100000) (k := 0) (lems := []) eDat_t (qh186 sc) (gCu_of (by decide +kernel)) (fun c h => by cases h) rfl (by decide +kernel) (by decide +kernel)
def qs187 : List eSm := qr186 :: qs186
set_option maxRecDepth 100000 in
theorem qh187 (sc : List Nat) : ∀ q ∈ qs187, gSum sc q ∧ eWf 10000 q.2.1 = true := gSu_cons (qr186t sc) (by decide +kernel) (qh186 sc)
/-- LentArmsModel.isNumber(II)Z -/
def qr187 : eSm := (122, ([], 122, 0, [(1, 56, 0, 0, 57, 0), (0, 2147483648, 2147483648, 0, 10001, 0), (0, 2147483659, 2147483659, 0, 10002, 0)], [], [(57, 56, 0, 8, 0, (0, 2147483652, 2147483708, 1, 15000, 0))], 16000), [((0, 2147483648, 2147483648, 0, 0, 0), [(57, 56, 0, 8, 0, (0, 2147483652, 2147483708, 1, 0, 0))]), ((0, 2147483649, 2147483649, 0, 0, 0), [(57, 56, 0, 8, 0, (0, 2147483653, 2147483708, 1, 0, 0)), (57, 56, 0, 9, 0, (0, 2147483648, 2147483659, 1, 0, 0))])], [(56, 8, 9)], 0)
def qr187c : List eCt := []
set_option maxRecDepth 100000 in
theorem qr187t (sc : List Nat) : gSum sc qr187 := gSum_of (su := qs187) (inl := ([81, 121], [])) (cu := qr187c) (sp := []) (L := []) (fuel := 100000) (k := 0) (lems := []) eDat_t (qh187 sc) (gCu_of (by decide +kernel)) (fun c h => by cases h) rfl (by decide +kernel) (by decide +kernel)
def qs188 : List eSm := qr187 :: qs187
set_option maxRecDepth 100000 in
theorem qh188 (sc : List Nat) : ∀ q ∈ qs188, gSum sc q ∧ eWf 10000 q.2.1 = true := gSu_cons (qr187t sc) (by decide +kernel) (qh187 sc)
/-- LentArmsModel.isNumber(II)Z -/
def qr188 : eSm := (122, ([], 122, 0, [(1, 56, 0, 0, 57, 0), (0, 2147483649, 2147483649, 0, 10001, 0), (0, 2147483747, 2147483747, 0, 10002, 0)], [], [(57, 56, 0, 8, 0, (0, 2147483654, 2147483708, 1, 15000, 0))], 16000), [((0, 2147483648, 2147483648, 0, 0, 0), [(57, 56, 0, 8, 0, (0, 2147483654, 2147483708, 1, 0, 0))]), ((0, 2147483649, 2147483649, 0, 0, 0), [(57, 56, 0, 8, 0, (0, 2147483655, 2147483708, 1, 0, 0)), (57, 56, 0, 9, 0, (0, 2147483649, 2147483747, 1, 0, 0))])], [(56, 8, 9)], 0)
def qr188c : List eCt := []
set_option maxRecDepth 100000 in
theorem qr188t (sc : List Nat) : gSum sc qr188 := gSum_of (su := qs188) (inl := ([81, 121], [])) (cu := qr188c) (sp := []) (L := []) (fuel := 100000) (k := 0) (lems := []) eDat_t (qh188 sc) (gCu_of (by decide +kernel)) (fun c h => by cases h) rfl (by decide +kernel) (by decide +kernel)
def qs189 : List eSm := qr188 :: qs188
set_option maxRecDepth 100000 in
theorem qh189 (sc : List Nat) : ∀ q ∈ qs189, gSum sc q ∧ eWf 10000 q.2.1 = true := gSu_cons (qr188t sc) (by decide +kernel) (qh188 sc)
/-- LentArmsModel.isNumber(II)Z -/
def qr189 : eSm := (122, ([], 122, 0, [(1, 56, 0, 0, 57, 0), (0, 2147483648, 2147483648, 0, 10001, 0), (0, 2147483659, 2147483659, 0, 10002, 0)], [], [(57, 56, 0, 8, 0, (0, 2147483656, 2147483708, 1, 15000, 0))], 16000), [((0, 2147483648, 2147483648, 0, 0, 0), [(57, 56, 0, 8, 0, (0, 2147483656, 2147483708, 1, 0, 0))]), ((0, 2147483649, 2147483649, 0, 0, 0), [(57, 56, 0, 8, 0, (0, 2147483657, 2147483708, 1, 0, 0)), (57, 56, 0, 9, 0, (0, 2147483648, 2147483659, 1, 0, 0))])], [(56, 8, 9)], 0)
def qr189c : List eCt := []
set_option maxRecDepth 100000 in
theorem qr189t (sc : List Nat) : gSum sc qr189 := gSum_of (su := qs189) (inl := ([81, 121], [])) (cu := qr189c) (sp := []) (L := []) (fuel := 100000) (k := 0) (lems := []) eDat_t (qh189 sc) (gCu_of (by decide +kernel)) (fun c h => by cases h) rfl (by decide +kernel) (by decide +kernel)
def qs190 : List eSm := qr189 :: qs189
set_option maxRecDepth 100000 in
theorem qh190 (sc : List Nat) : ∀ q ∈ qs190, gSum sc q ∧ eWf 10000 q.2.1 = true := gSu_cons (qr189t sc) (by decide +kernel) (qh189 sc)
/-- LentArmsModel.isNumber(II)Z -/
def qr190 : eSm := (122, ([], 122, 0, [(1, 56, 0, 0, 57, 0), (0, 2147483649, 2147483649, 0, 10001, 0), (0, 2147483747, 2147483747, 0, 10002, 0)], [], [(57, 56, 0, 8, 0, (0, 2147483658, 2147483708, 1, 15000, 0))], 16000), [((0, 2147483648, 2147483648, 0, 0, 0), [(57, 56, 0, 8, 0, (0, 2147483658, 2147483708, 1, 0, 0))]), ((0, 2147483649, 2147483649, 0, 0, 0), [(57, 56, 0, 8, 0, (0, 2147483659, 2147483708, 1, 0, 0)), (57, 56, 0, 9, 0, (0, 2147483649, 2147483747, 1, 0, 0))])], [(56, 8, 9)], 0)
def qr190c : List eCt := []
set_option maxRecDepth 100000 in
theorem qr190t (sc : List Nat) : gSum sc qr190 := gSum_of (su := qs190) (inl := ([81, 121], [])) (cu := qr190c) (sp := []) (L := []) (fuel := 100000) (k := 0) (lems := []) eDat_t (qh190 sc) (gCu_of (by decide +kernel)) (fun c h => by cases h) rfl (by decide +kernel) (by decide +kernel)
def qs191 : List eSm := qr190 :: qs190
set_option maxRecDepth 100000 in
theorem qh191 (sc : List Nat) : ∀ q ∈ qs191, gSum sc q ∧ eWf 10000 q.2.1 = true := gSu_cons (qr190t sc) (by decide +kernel) (qh190 sc)
/-- LentArmsModel.isNumber(II)Z -/
def qr191 : eSm := (122, ([], 122, 0, [(1, 56, 0, 0, 57, 0), (0, 2147483648, 2147483648, 0, 10001, 0), (0, 2147483659, 2147483659, 0, 10002, 0)], [], [(57, 56, 0, 8, 0, (0, 2147483660, 2147483708, 1, 15000, 0))], 16000), [((0, 2147483648, 2147483648, 0, 0, 0), [(57, 56, 0, 8, 0, (0, 2147483660, 2147483708, 1, 0, 0))]), ((0, 2147483649, 2147483649, 0, 0, 0), [(57, 56, 0, 8, 0, (0, 2147483661, 2147483708, 1, 0, 0)), (57, 56, 0, 9, 0, (0, 2147483648, 2147483659, 1, 0, 0))])], [(56, 8, 9)], 0)
def qr191c : List eCt := []
set_option maxRecDepth 100000 in
theorem qr191t (sc : List Nat) : gSum sc qr191 := gSum_of (su := qs191) (inl := ([81, 121], [])) (cu := qr191c) (sp := []) (L := []) (fuel := 100000) (k := 0) (lems := []) eDat_t (qh191 sc) (gCu_of (by decide +kernel)) (fun c h => by cases h) rfl (by decide +kernel) (by decide +kernel)
def qs192 : List eSm := qr191 :: qs191
set_option maxRecDepth 100000 in
theorem qh192 (sc : List Nat) : ∀ q ∈ qs192, gSum sc q ∧ eWf 10000 q.2.1 = true := gSu_cons (qr191t sc) (by decide +kernel) (qh191 sc)
/-- LentArmsModel.isNumber(II)Z -/
def qr192 : eSm := (122, ([], 122, 0, [(1, 56, 0, 0, 57, 0), (0, 2147483649, 2147483649, 0, 10001, 0), (0, 2147483747, 2147483747, 0, 10002, 0)], [], [(57, 56, 0, 8, 0, (0, 2147483662, 2147483708, 1, 15000, 0))], 16000), [((0, 2147483648, 2147483648, 0, 0, 0), [(57, 56, 0, 8, 0, (0, 2147483662, 2147483708, 1, 0, 0))]), ((0, 2147483649, 2147483649, 0, 0, 0), [(57, 56, 0, 8, 0, (0, 2147483663, 2147483708, 1, 0, 0)), (57, 56, 0, 9, 0, (0, 2147483649, 2147483747, 1, 0, 0))])], [(56, 8, 9)], 0)
def qr192c : List eCt := []
set_option maxRecDepth 100000 in
theorem qr192t (sc : List Nat) : gSum sc qr192 := gSum_of (su := qs192) (inl := ([81, 121], [])) (cu := qr192c) (sp := []) (L := []) (fuel := 100000) (k := 0) (lems := []) eDat_t (qh192 sc) (gCu_of (by decide +kernel)) (fun c h => by cases h) rfl (by decide +kernel) (by decide +kernel)
def qs193 : List eSm := qr192 :: qs192
set_option maxRecDepth 100000 in
theorem qh193 (sc : List Nat) : ∀ q ∈ qs193, gSum sc q ∧ eWf 10000 q.2.1 = true := gSu_cons (qr192t sc) (by decide +kernel) (qh192 sc)
/-- LentArmsModel.isNumber(II)Z -/
def qr193 : eSm := (122, ([], 122, 0, [(1, 56, 0, 0, 57, 0), (0, 2147483648, 2147483648, 0, 10001, 0), (0, 2147483659, 2147483659, 0, 10002, 0)], [], [(57, 56, 0, 8, 0, (0, 2147483664, 2147483708, 1, 15000, 0))], 16000), [((0, 2147483648, 2147483648, 0, 0, 0), [(57, 56, 0, 8, 0, (0, 2147483664, 2147483708, 1, 0, 0))]), ((0, 2147483649, 2147483649, 0, 0, 0), [(57, 56, 0, 8, 0, (0, 2147483665, 2147483708, 1, 0, 0)), (57, 56, 0, 9, 0, (0, 2147483648, 2147483659, 1, 0, 0))])], [(56, 8, 9)], 0)
def qr193c : List eCt := []
set_option maxRecDepth 100000 in
theorem qr193t (sc : List Nat) : gSum sc qr193 := gSum_of (su := qs193) (inl := ([81, 121], [])) (cu := qr193c) (sp := []) (L := []) (fuel := 100000) (k := 0) (lems := []) eDat_t (qh193 sc) (gCu_of (by decide +kernel)) (fun c h => by cases h) rfl (by decide +kernel) (by decide +kernel)
def qs194 : List eSm := qr193 :: qs193
set_option maxRecDepth 100000 in
theorem qh194 (sc : List Nat) : ∀ q ∈ qs194, gSum sc q ∧ eWf 10000 q.2.1 = true := gSu_cons (qr193t sc) (by decide +kernel) (qh193 sc)
/-- LentArmsModel.isNumber(II)Z -/
def qr194 : eSm := (122, ([], 122, 0, [(1, 56, 0, 0, 57, 0), (0, 2147483649, 2147483649, 0, 10001, 0), (0, 2147483747, 2147483747, 0, 10002, 0)], [], [(57, 56, 0, 8, 0, (0, 2147483666, 2147483708, 1, 15000, 0))], 16000), [((0, 2147483648, 2147483648, 0, 0, 0), [(57, 56, 0, 8, 0, (0, 2147483666, 2147483708, 1, 0, 0))]), ((0, 2147483649, 2147483649, 0, 0, 0), [(57, 56, 0, 8, 0, (0, 2147483667, 2147483708, 1, 0, 0)), (57, 56, 0, 9, 0, (0, 2147483649, 2147483747, 1, 0, 0))])], [(56, 8, 9)], 0)
def qr194c : List eCt := []
set_option maxRecDepth 100000 in
theorem qr194t (sc : List Nat) : gSum sc qr194 := gSum_of (su := qs194) (inl := ([81, 121], [])) (cu := qr194c) (sp := []) (L := []) (fuel := 100000) (k := 0) (lems := []) eDat_t (qh194 sc) (gCu_of (by decide +kernel)) (fun c h => by cases h) rfl (by decide +kernel) (by decide +kernel)
def qs195 : List eSm := qr194 :: qs194
set_option maxRecDepth 100000 in
theorem qh195 (sc : List Nat) : ∀ q ∈ qs195, gSum sc q ∧ eWf 10000 q.2.1 = true := gSu_cons (qr194t sc) (by decide +kernel) (qh194 sc)
/-- LentArmsModel.isNumber(II)Z -/
def qr195 : eSm := (122, ([], 122, 0, [(1, 56, 0, 0, 57, 0), (0, 2147483648, 2147483648, 0, 10001, 0), (0, 2147483659, 2147483659, 0, 10002, 0)], [], [(57, 56, 0, 8, 0, (0, 2147483668, 2147483708, 1, 15000, 0))], 16000), [((0, 2147483648, 2147483648, 0, 0, 0), [(57, 56, 0, 8, 0, (0, 2147483668, 2147483708, 1, 0, 0))]), ((0, 2147483649, 2147483649, 0, 0, 0), [(57, 56, 0, 8, 0, (0, 2147483669, 2147483708, 1, 0, 0)), (57, 56, 0, 9, 0, (0, 2147483648, 2147483659, 1, 0, 0))])], [(56, 8, 9)], 0)
def qr195c : List eCt := []
set_option maxRecDepth 100000 in
theorem qr195t (sc : List Nat) : gSum sc qr195 := gSum_of (su := qs195) (inl := ([81, 121], [])) (cu := qr195c) (sp := []) (L := []) (fuel := 100000) (k := 0) (lems := []) eDat_t (qh195 sc) (gCu_of (by decide +kernel)) (fun c h => by cases h) rfl (by decide +kernel) (by decide +kernel)
def qs196 : List eSm := qr195 :: qs195
set_option maxRecDepth 100000 in
theorem qh196 (sc : List Nat) : ∀ q ∈ qs196, gSum sc q ∧ eWf 10000 q.2.1 = true := gSu_cons (qr195t sc) (by decide +kernel) (qh195 sc)
/-- LentArmsModel.isNumber(II)Z -/
def qr196 : eSm := (122, ([], 122, 0, [(1, 56, 0, 0, 57, 0), (0, 2147483649, 2147483649, 0, 10001, 0), (0, 2147483747, 2147483747, 0, 10002, 0)], [], [(57, 56, 0, 8, 0, (0, 2147483670, 2147483708, 1, 15000, 0))], 16000), [((0, 2147483648, 2147483648, 0, 0, 0), [(57, 56, 0, 8, 0, (0, 2147483670, 2147483708, 1, 0, 0))]), ((0, 2147483649, 2147483649, 0, 0, 0), [(57, 56, 0, 8, 0, (0, 2147483671, 2147483708, 1, 0, 0)), (57, 56, 0, 9, 0, (0, 2147483649, 2147483747, 1, 0, 0))])], [(56, 8, 9)], 0)
def qr196c : List eCt := []
set_option maxRecDepth 100000 in
theorem qr196t (sc : List Nat) : gSum sc qr196 := gSum_of (su := qs196) (inl := ([81, 121], [])) (cu := qr196c) (sp := []) (L := []) (fuel := 100000) (k := 0) (lems := []) eDat_t (qh196 sc) (gCu_of (by decide +kernel)) (fun c h => by cases h) rfl (by decide +kernel) (by decide +kernel)
def qs197 : List eSm := qr196 :: qs196
set_option maxRecDepth 100000 in
theorem qh197 (sc : List Nat) : ∀ q ∈ qs197, gSum sc q ∧ eWf 10000 q.2.1 = true := gSu_cons (qr196t sc) (by decide +kernel) (qh196 sc)
/-- LentArmsModel.isNumber(II)Z -/
def qr197 : eSm := (122, ([], 122, 0, [(1, 56, 0, 0, 57, 0), (0, 2147483648, 2147483648, 0, 10001, 0), (0, 2147483659, 2147483659, 0, 10002, 0)], [], [(57, 56, 0, 8, 0, (0, 2147483672, 2147483708, 1, 15000, 0))], 16000), [((0, 2147483648, 2147483648, 0, 0, 0), [(57, 56, 0, 8, 0, (0, 2147483672, 2147483708, 1, 0, 0))]), ((0, 2147483649, 2147483649, 0, 0, 0), [(57, 56, 0, 8, 0, (0, 2147483673, 2147483708, 1, 0, 0)), (57, 56, 0, 9, 0, (0, 2147483648, 2147483659, 1, 0, 0))])], [(56, 8, 9)], 0)
def qr197c : List eCt := []
set_option maxRecDepth 100000 in
theorem qr197t (sc : List Nat) : gSum sc qr197 := gSum_of (su := qs197) (inl := ([81, 121], [])) (cu := qr197c) (sp := []) (L := []) (fuel := 100000) (k := 0) (lems := []) eDat_t (qh197 sc) (gCu_of (by decide +kernel)) (fun c h => by cases h) rfl (by decide +kernel) (by decide +kernel)
def qs198 : List eSm := qr197 :: qs197
set_option maxRecDepth 100000 in
theorem qh198 (sc : List Nat) : ∀ q ∈ qs198, gSum sc q ∧ eWf 10000 q.2.1 = true := gSu_cons (qr197t sc) (by decide +kernel) (qh197 sc)
/-- LentArmsModel.isNumber(II)Z -/
def qr198 : eSm := (122, ([], 122, 0, [(1, 56, 0, 0, 57, 0), (0, 2147483649, 2147483649, 0, 10001, 0), (0, 2147483747, 2147483747, 0, 10002, 0)], [], [(57, 56, 0, 8, 0, (0, 2147483674, 2147483708, 1, 15000, 0))], 16000), [((0, 2147483648, 2147483648, 0, 0, 0), [(57, 56, 0, 8, 0, (0, 2147483674, 2147483708, 1, 0, 0))]), ((0, 2147483649, 2147483649, 0, 0, 0), [(57, 56, 0, 8, 0, (0, 2147483675, 2147483708, 1, 0, 0)), (57, 56, 0, 9, 0, (0, 2147483649, 2147483747, 1, 0, 0))])], [(56, 8, 9)], 0)
def qr198c : List eCt := []
set_option maxRecDepth 100000 in
theorem qr198t (sc : List Nat) : gSum sc qr198 := gSum_of (su := qs198) (inl := ([81, 121], [])) (cu := qr198c) (sp := []) (L := []) (fuel := 100000) (k := 0) (lems := []) eDat_t (qh198 sc) (gCu_of (by decide +kernel)) (fun c h => by cases h) rfl (by decide +kernel) (by decide +kernel)
def qs199 : List eSm := qr198 :: qs198
set_option maxRecDepth 100000 in
theorem qh199 (sc : List Nat) : ∀ q ∈ qs199, gSum sc q ∧ eWf 10000 q.2.1 = true := gSu_cons (qr198t sc) (by decide +kernel) (qh198 sc)
/-- LentArmsModel.isNumber(II)Z -/
def qr199 : eSm := (122, ([], 122, 0, [(1, 56, 0, 0, 57, 0), (0, 2147483648, 2147483648, 0, 10001, 0), (0, 2147483659, 2147483659, 0, 10002, 0)], [], [(57, 56, 0, 8, 0, (0, 2147483676, 2147483708, 1, 15000, 0))], 16000), [((0, 2147483648, 2147483648, 0, 0, 0), [(57, 56, 0, 8, 0, (0, 2147483676, 2147483708, 1, 0, 0))]), ((0, 2147483649, 2147483649, 0, 0, 0), [(57, 56, 0, 8, 0, (0, 2147483677, 2147483708, 1, 0, 0)), (57, 56, 0, 9, 0, (0, 2147483648, 2147483659, 1, 0, 0))])], [(56, 8, 9)], 0)
def qr199c : List eCt := []
set_option maxRecDepth 100000 in
theorem qr199t (sc : List Nat) : gSum sc qr199 := gSum_of (su := qs199) (inl := ([81, 121], [])) (cu := qr199c) (sp := []) (L := []) (fuel := 100000) (k := 0) (lems := []) eDat_t (qh199 sc) (gCu_of (by decide +kernel)) (fun c h => by cases h) rfl (by decide +kernel) (by decide +kernel)
def qs200 : List eSm := qr199 :: qs199
set_option maxRecDepth 100000 in
theorem qh200 (sc : List Nat) : ∀ q ∈ qs200, gSum sc q ∧ eWf 10000 q.2.1 = true := gSu_cons (qr199t sc) (by decide +kernel) (qh199 sc)
/-- LentArmsModel.isNumber(II)Z -/
def qr200 : eSm := (122, ([], 122, 0, [(1, 56, 0, 0, 57, 0), (0, 2147483649, 2147483649, 0, 10001, 0), (0, 2147483747, 2147483747, 0, 10002, 0)], [], [(57, 56, 0, 8, 0, (0, 2147483678, 2147483708, 1, 15000, 0))], 16000), [((0, 2147483648, 2147483648, 0, 0, 0), [(57, 56, 0, 8, 0, (0, 2147483678, 2147483708, 1, 0, 0))]), ((0, 2147483649, 2147483649, 0, 0, 0), [(57, 56, 0, 8, 0, (0, 2147483679, 2147483708, 1, 0, 0)), (57, 56, 0, 9, 0, (0, 2147483649, 2147483747, 1, 0, 0))])], [(56, 8, 9)], 0)
def qr200c : List eCt := []
set_option maxRecDepth 100000 in
theorem qr200t (sc : List Nat) : gSum sc qr200 := gSum_of (su := qs200) (inl := ([81, 121], [])) (cu := qr200c) (sp := []) (L := []) (fuel := 100000) (k := 0) (lems := []) eDat_t (qh200 sc) (gCu_of (by decide +kernel)) (fun c h => by cases h) rfl (by decide +kernel) (by decide +kernel)
def qs201 : List eSm := qr200 :: qs200
set_option maxRecDepth 100000 in
theorem qh201 (sc : List Nat) : ∀ q ∈ qs201, gSum sc q ∧ eWf 10000 q.2.1 = true := gSu_cons (qr200t sc) (by decide +kernel) (qh200 sc)
/-- LentArmsModel.isNumber(II)Z -/
def qr201 : eSm := (122, ([], 122, 0, [(1, 56, 0, 0, 57, 0), (0, 2147483648, 2147483648, 0, 10001, 0), (0, 2147483659, 2147483659, 0, 10002, 0)], [], [(57, 56, 0, 8, 0, (0, 2147483680, 2147483708, 1, 15000, 0))], 16000), [((0, 2147483648, 2147483648, 0, 0, 0), [(57, 56, 0, 8, 0, (0, 2147483680, 2147483708, 1, 0, 0))]), ((0, 2147483649, 2147483649, 0, 0, 0), [(57, 56, 0, 8, 0, (0, 2147483681, 2147483708, 1, 0, 0)), (57, 56, 0, 9, 0, (0, 2147483648, 2147483659, 1, 0, 0))])], [(56, 8, 9)], 0)
def qr201c : List eCt := []
set_option maxRecDepth 100000 in
theorem qr201t (sc : List Nat) : gSum sc qr201 := gSum_of (su := qs201) (inl := ([81, 121], [])) (cu := qr201c) (sp := []) (L := []) (fuel := 100000) (k := 0) (lems := []) eDat_t (qh201 sc) (gCu_of (by decide +kernel)) (fun c h => by cases h) rfl (by decide +kernel) (by decide +kernel)
def qs202 : List eSm := qr201 :: qs201
set_option maxRecDepth 100000 in
theorem qh202 (sc : List Nat) : ∀ q ∈ qs202, gSum sc q ∧ eWf 10000 q.2.1 = true := gSu_cons (qr201t sc) (by decide +kernel) (qh201 sc)
/-- LentArmsModel.isNumber(II)Z -/
def qr202 : eSm := (122, ([], 122, 0, [(1, 56, 0, 0, 57, 0), (0, 2147483649, 2147483649, 0, 10001, 0), (0, 2147483747, 2147483747, 0, 10002, 0)], [], [(57, 56, 0, 8, 0, (0, 2147483682, 2147483708, 1, 15000, 0))], 16000), [((0, 2147483648, 2147483648, 0, 0, 0), [(57, 56, 0, 8, 0, (0, 2147483682, 2147483708, 1, 0, 0))]), ((0, 2147483649, 2147483649, 0, 0, 0), [(57, 56, 0, 8, 0, (0, 2147483683, 2147483708, 1, 0, 0)), (57, 56, 0, 9, 0, (0, 2147483649, 2147483747, 1, 0, 0))])], [(56, 8, 9)], 0)
def qr202c : List eCt := []
set_option maxRecDepth 100000 in
theorem qr202t (sc : List Nat) : gSum sc qr202 := gSum_of (su := qs202) (inl := ([81, 121], [])) (cu := qr202c) (sp := []) (L := []) (fuel := 100000) (k := 0) (lems := []) eDat_t (qh202 sc) (gCu_of (by decide +kernel)) (fun c h => by cases h) rfl (by decide +kernel) (by decide +kernel)
def qs203 : List eSm := qr202 :: qs202
set_option maxRecDepth 100000 in
theorem qh203 (sc : List Nat) : ∀ q ∈ qs203, gSum sc q ∧ eWf 10000 q.2.1 = true := gSu_cons (qr202t sc) (by decide +kernel) (qh202 sc)
/-- LentArmsModel.isNumber(II)Z -/
def qr203 : eSm := (122, ([], 122, 0, [(1, 56, 0, 0, 57, 0), (0, 2147483648, 2147483648, 0, 10001, 0), (0, 2147483659, 2147483659, 0, 10002, 0)], [], [(57, 56, 0, 8, 0, (0, 2147483684, 2147483708, 1, 15000, 0))], 16000), [((0, 2147483648, 2147483648, 0, 0, 0), [(57, 56, 0, 8, 0, (0, 2147483684, 2147483708, 1, 0, 0))]), ((0, 2147483649, 2147483649, 0, 0, 0), [(57, 56, 0, 8, 0, (0, 2147483685, 2147483708, 1, 0, 0)), (57, 56, 0, 9, 0, (0, 2147483648, 2147483659, 1, 0, 0))])], [(56, 8, 9)], 0)
def qr203c : List eCt := []
set_option maxRecDepth 100000 in
theorem qr203t (sc : List Nat) : gSum sc qr203 := gSum_of (su := qs203) (inl := ([81, 121], [])) (cu := qr203c) (sp := []) (L := []) (fuel := 100000) (k := 0) (lems := []) eDat_t (qh203 sc) (gCu_of (by decide +kernel)) (fun c h => by cases h) rfl (by decide +kernel) (by decide +kernel)
def qs204 : List eSm := qr203 :: qs203
set_option maxRecDepth 100000 in
theorem qh204 (sc : List Nat) : ∀ q ∈ qs204, gSum sc q ∧ eWf 10000 q.2.1 = true := gSu_cons (qr203t sc) (by decide +kernel) (qh203 sc)
/-- LentArmsModel.isNumber(II)Z -/
def qr204 : eSm := (122, ([], 122, 0, [(1, 56, 0, 0, 57, 0), (0, 2147483649, 2147483649, 0, 10001, 0), (0, 2147483747, 2147483747, 0, 10002, 0)], [], [(57, 56, 0, 8, 0, (0, 2147483686, 2147483708, 1, 15000, 0))], 16000), [((0, 2147483648, 2147483648, 0, 0, 0), [(57, 56, 0, 8, 0, (0, 2147483686, 2147483708, 1, 0, 0))]), ((0, 2147483649, 2147483649, 0, 0, 0), [(57, 56, 0, 8, 0, (0, 2147483687, 2147483708, 1, 0, 0)), (57, 56, 0, 9, 0, (0, 2147483649, 2147483747, 1, 0, 0))])], [(56, 8, 9)], 0)
def qr204c : List eCt := []
set_option maxRecDepth 100000 in
theorem qr204t (sc : List Nat) : gSum sc qr204 := gSum_of (su := qs204) (inl := ([81, 121], [])) (cu := qr204c) (sp := []) (L := []) (fuel := 100000) (k := 0) (lems := []) eDat_t (qh204 sc) (gCu_of (by decide +kernel)) (fun c h => by cases h) rfl (by decide +kernel) (by decide +kernel)
def qs205 : List eSm := qr204 :: qs204
set_option maxRecDepth 100000 in
theorem qh205 (sc : List Nat) : ∀ q ∈ qs205, gSum sc q ∧ eWf 10000 q.2.1 = true := gSu_cons (qr204t sc) (by decide +kernel) (qh204 sc)
/-- LentArmsModel.isNumber(II)Z -/
def qr205 : eSm := (122, ([], 122, 0, [(1, 56, 0, 0, 57, 0), (0, 2147483648, 2147483648, 0, 10001, 0), (0, 2147483659, 2147483659, 0, 10002, 0)], [], [(57, 56, 0, 8, 0, (0, 2147483688, 2147483708, 1, 15000, 0))], 16000), [((0, 2147483648, 2147483648, 0, 0, 0), [(57, 56, 0, 8, 0, (0, 2147483688, 2147483708, 1, 0, 0))]), ((0, 2147483649, 2147483649, 0, 0, 0), [(57, 56, 0, 8, 0, (0, 2147483689, 2147483708, 1, 0, 0)), (57, 56, 0, 9, 0, (0, 2147483648, 2147483659, 1, 0, 0))])], [(56, 8, 9)], 0)
def qr205c : List eCt := []
set_option maxRecDepth 100000 in
theorem qr205t (sc : List Nat) : gSum sc qr205 := gSum_of (su := qs205) (inl := ([81, 121], [])) (cu := qr205c) (sp := []) (L := []) (fuel := 100000) (k := 0) (lems := []) eDat_t (qh205 sc) (gCu_of (by decide +kernel)) (fun c h => by cases h) rfl (by decide +kernel) (by decide +kernel)
def qs206 : List eSm := qr205 :: qs205
set_option maxRecDepth 100000 in
theorem qh206 (sc : List Nat) : ∀ q ∈ qs206, gSum sc q ∧ eWf 10000 q.2.1 = true := gSu_cons (qr205t sc) (by decide +kernel) (qh205 sc)
/-- LentArmsModel.isNumber(II)Z -/
def qr206 : eSm := (122, ([], 122, 0, [(1, 56, 0, 0, 57, 0), (0, 2147483649, 2147483649, 0, 10001, 0), (0, 2147483747, 2147483747, 0, 10002, 0)], [], [(57, 56, 0, 8, 0, (0, 2147483690, 2147483708, 1, 15000, 0))], 16000), [((0, 2147483648, 2147483648, 0, 0, 0), [(57, 56, 0, 8, 0, (0, 2147483690, 2147483708, 1, 0, 0))]), ((0, 2147483649, 2147483649, 0, 0, 0), [(57, 56, 0, 8, 0, (0, 2147483691, 2147483708, 1, 0, 0)), (57, 56, 0, 9, 0, (0, 2147483649, 2147483747, 1, 0, 0))])], [(56, 8, 9)], 0)
def qr206c : List eCt := []
set_option maxRecDepth 100000 in
theorem qr206t (sc : List Nat) : gSum sc qr206 := gSum_of (su := qs206) (inl := ([81, 121], [])) (cu := qr206c) (sp := []) (L := []) (fuel := 100000) (k := 0) (lems := []) eDat_t (qh206 sc) (gCu_of (by decide +kernel)) (fun c h => by cases h) rfl (by decide +kernel) (by decide +kernel)
def qs207 : List eSm := qr206 :: qs206
set_option maxRecDepth 100000 in
theorem qh207 (sc : List Nat) : ∀ q ∈ qs207, gSum sc q ∧ eWf 10000 q.2.1 = true := gSu_cons (qr206t sc) (by decide +kernel) (qh206 sc)
/-- LentArmsModel.isNumber(II)Z -/
def qr207 : eSm := (122, ([], 122, 0, [(1, 56, 0, 0, 57, 0), (0, 2147483648, 2147483648, 0, 10001, 0), (0, 2147483659, 2147483659, 0, 10002, 0)], [], [(57, 56, 0, 8, 0, (0, 2147483692, 2147483708, 1, 15000, 0))], 16000), [((0, 2147483648, 2147483648, 0, 0, 0), [(57, 56, 0, 8, 0, (0, 2147483692, 2147483708, 1, 0, 0))]), ((0, 2147483649, 2147483649, 0, 0, 0), [(57, 56, 0, 8, 0, (0, 2147483693, 2147483708, 1, 0, 0)), (57, 56, 0, 9, 0, (0, 2147483648, 2147483659, 1, 0, 0))])], [(56, 8, 9)], 0)
def qr207c : List eCt := []
set_option maxRecDepth 100000 in
theorem qr207t (sc : List Nat) : gSum sc qr207 := gSum_of (su := qs207) (inl := ([81, 121], [])) (cu := qr207c) (sp := []) (L := []) (fuel := 100000) (k := 0) (lems := []) eDat_t (qh207 sc) (gCu_of (by decide +kernel)) (fun c h => by cases h) rfl (by decide +kernel) (by decide +kernel)
def qs208 : List eSm := qr207 :: qs207
set_option maxRecDepth 100000 in
theorem qh208 (sc : List Nat) : ∀ q ∈ qs208, gSum sc q ∧ eWf 10000 q.2.1 = true := gSu_cons (qr207t sc) (by decide +kernel) (qh207 sc)
/-- LentArmsModel.isNumber(II)Z -/
def qr208 : eSm := (122, ([], 122, 0, [(1, 56, 0, 0, 57, 0), (0, 2147483649, 2147483649, 0, 10001, 0), (0, 2147483747, 2147483747, 0, 10002, 0)], [], [(57, 56, 0, 8, 0, (0, 2147483694, 2147483708, 1, 15000, 0))], 16000), [((0, 2147483648, 2147483648, 0, 0, 0), [(57, 56, 0, 8, 0, (0, 2147483694, 2147483708, 1, 0, 0))]), ((0, 2147483649, 2147483649, 0, 0, 0), [(57, 56, 0, 8, 0, (0, 2147483695, 2147483708, 1, 0, 0)), (57, 56, 0, 9, 0, (0, 2147483649, 2147483747, 1, 0, 0))])], [(56, 8, 9)], 0)
def qr208c : List eCt := []
set_option maxRecDepth 100000 in
theorem qr208t (sc : List Nat) : gSum sc qr208 := gSum_of (su := qs208) (inl := ([81, 121], [])) (cu := qr208c) (sp := []) (L := []) (fuel := 100000) (k := 0) (lems := []) eDat_t (qh208 sc) (gCu_of (by decide +kernel)) (fun c h => by cases h) rfl (by decide +kernel) (by decide +kernel)
def qs209 : List eSm := qr208 :: qs208
set_option maxRecDepth 100000 in
theorem qh209 (sc : List Nat) : ∀ q ∈ qs209, gSum sc q ∧ eWf 10000 q.2.1 = true := gSu_cons (qr208t sc) (by decide +kernel) (qh208 sc)
/-- LentArmsModel.isNumber(II)Z -/
def qr209 : eSm := (122, ([], 122, 0, [(1, 56, 0, 0, 57, 0), (0, 2147483648, 2147483648, 0, 10001, 0), (0, 2147483659, 2147483659, 0, 10002, 0)], [], [(57, 56, 0, 8, 0, (0, 2147483696, 2147483708, 1, 15000, 0))], 16000), [((0, 2147483648, 2147483648, 0, 0, 0), [(57, 56, 0, 8, 0, (0, 2147483696, 2147483708, 1, 0, 0))]), ((0, 2147483649, 2147483649, 0, 0, 0), [(57, 56, 0, 8, 0, (0, 2147483697, 2147483708, 1, 0, 0)), (57, 56, 0, 9, 0, (0, 2147483648, 2147483659, 1, 0, 0))])], [(56, 8, 9)], 0)
def qr209c : List eCt := []
set_option maxRecDepth 100000 in
theorem qr209t (sc : List Nat) : gSum sc qr209 := gSum_of (su := qs209) (inl := ([81, 121], [])) (cu := qr209c) (sp := []) (L := []) (fuel := 100000) (k := 0) (lems := []) eDat_t (qh209 sc) (gCu_of (by decide +kernel)) (fun c h => by cases h) rfl (by decide +kernel) (by decide +kernel)
def qs210 : List eSm := qr209 :: qs209
set_option maxRecDepth 100000 in
theorem qh210 (sc : List Nat) : ∀ q ∈ qs210, gSum sc q ∧ eWf 10000 q.2.1 = true := gSu_cons (qr209t sc) (by decide +kernel) (qh209 sc)
/-- LentArmsModel.isNumber(II)Z -/
def qr210 : eSm := (122, ([], 122, 0, [(1, 56, 0, 0, 57, 0), (0, 2147483649, 2147483649, 0, 10001, 0), (0, 2147483747, 2147483747, 0, 10002, 0)], [], [(57, 56, 0, 8, 0, (0, 2147483698, 2147483708, 1, 15000, 0))], 16000), [((0, 2147483648, 2147483648, 0, 0, 0), [(57, 56, 0, 8, 0, (0, 2147483698, 2147483708, 1, 0, 0))]), ((0, 2147483649, 2147483649, 0, 0, 0), [(57, 56, 0, 8, 0, (0, 2147483699, 2147483708, 1, 0, 0)), (57, 56, 0, 9, 0, (0, 2147483649, 2147483747, 1, 0, 0))])], [(56, 8, 9)], 0)
def qr210c : List eCt := []
set_option maxRecDepth 100000 in
theorem qr210t (sc : List Nat) : gSum sc qr210 := gSum_of (su := qs210) (inl := ([81, 121], [])) (cu := qr210c) (sp := []) (L := []) (fuel := 100000) (k := 0) (lems := []) eDat_t (qh210 sc) (gCu_of (by decide +kernel)) (fun c h => by cases h) rfl (by decide +kernel) (by decide +kernel)
def qs211 : List eSm := qr210 :: qs210
set_option maxRecDepth 100000 in
theorem qh211 (sc : List Nat) : ∀ q ∈ qs211, gSum sc q ∧ eWf 10000 q.2.1 = true := gSu_cons (qr210t sc) (by decide +kernel) (qh210 sc)
