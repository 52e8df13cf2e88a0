abbrev eE0 : Type := Nat × Nat × Nat × Nat × Nat × Nat
def eRT : List (Nat × Nat × List (Nat × Nat × List eE0)) := []
def eRG : List Nat := []
def eSg : List Nat := []
def eN : Nat × Nat := (4, 4)
