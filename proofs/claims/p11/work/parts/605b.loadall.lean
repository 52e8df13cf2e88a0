theorem qr152t (sc : List Nat) : gSum sc qr152 := sorry
