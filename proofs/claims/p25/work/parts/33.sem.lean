/-! ===== WHAT THE INTERPRETER'S STATES MEAN ===== -/
/-- the value c is of the kind that e tells, under the counters' bound Bc -/
def gA (Bc : Nat) (e : eE) (c : Nat) : Prop :=
  (e.1 = 0 ∧ (c < 4294967296 ∧ (e.2.1 ≤ zs c ∧ zs c ≤ e.2.2.1) ∧ e.2.2.2.1 ∣ (zs c - e.2.1))) ∨ (e.1 = 1 ∧ ∃ k : Nat, k < eRG.length ∧ c = 4294967297 + k ∧ eRG.getD k 0 = e.2.1) ∨ (e.1 = 2 ∧ c = 8589934592 + e.2.1 ∧ e.2.1 ≤ 3) ∨ e.1 = 3 ∨ (e.1 = 5 ∧ (c < 4294967296 ∧ (e.2.1 ≤ zs c ∧ zs c ≤ e.2.2.1) ∧ c ≤ Bc + e.2.2.2.1))
/-- a named value -/
def gV (ρ : Nat → Nat) (id off : Nat) (c : Nat) : Prop := (c < 4294967296 ∧ (ρ id < 4294967296 ∧ c = (ρ id + off) % 4294967296)) ∨ (4294967296 ≤ c ∧ c = ρ id)
def gE (Bc : Nat) (ρ : Nat → Nat) (nx : Nat) (e : eE) (c : Nat) : Prop := gA Bc e c ∧ (eId e = 0 ∨ gV ρ (eId e) (eOff e) c) ∧ eId e < nx
def gL (Bc : Nat) (ρ : Nat → Nat) (nx : Nat) : List eE → List Nat → Prop
  | [], [] => True
  | e :: es, c :: cs => gE Bc ρ nx e c ∧ gL Bc ρ nx es cs
  | _, _ => False
abbrev gCf : Type := List (Nat × Nat × List Nat × List Nat)
def gFr (Bc : Nat) (ρ : Nat → Nat) (nx : Nat) : List eFr → gCf → Prop
  | [], [] => True
  | (i, pc, ls, st) :: es, (i2, pc2, ls2, st2) :: cs => ((i = i2 ∧ pc = pc2) ∧ gL Bc ρ nx ls ls2 ∧ gL Bc ρ nx st st2) ∧ gFr Bc ρ nx es cs
  | _, _ => False
/-- a packed name's value -/
def gNv (ρ : Nat → Nat) (p : Nat) : Nat := if p < 4294967296 then zs p else (ρ (p / 4294967296) + p % 4294967296) % 4294967296
def gIx (ρ : Nat → Nat) (k1 k2 k3 : Nat) : Nat := if k1 = 0 then k2 else (ρ k2 + k3) % 4294967296
/-- the object named o of region r holds c in the slot j -/
def gSl (sc : List Nat) (ρ : Nat → Nat) (m : zM) (o r j c : Nat) : Prop :=
  if o = 9003 then r = 9998 ∧ j < sc.length ∧ c = sc.getD j 0 else ∃ (k kd n : Nat) (f : Nat → Nat), (k < eRG.length ∧ ρ o = 4294967297 + k ∧ eRG.getD k 0 = r) ∧ m[k]? = some (kd, n, f) ∧ c = f j
def gF (sc : List Nat) (Bc : Nat) (ρ : Nat → Nat) (nx : Nat) (m : zM) (f : eF) : Prop :=
  if f.2.2.1 ≤ 1 then (f.1 < nx ∧ (f.2.2.1 = 0 ∨ f.2.2.2.1 < nx)) ∧ ∃ c, gSl sc ρ m f.1 f.2.1 (gIx ρ f.2.2.1 f.2.2.2.1 f.2.2.2.2.1) c ∧ gE Bc ρ nx f.2.2.2.2.2 c
  else if f.2.2.1 = 2 then f.2.2.2.1 < nx ∧ f.2.1 = 9999 ∧ (if f.2.2.2.1 = 0 then f.2.2.2.2.1 ≤ sc.length else ρ f.2.2.2.1 < 2147483648 ∧ ρ f.2.2.2.1 + f.2.2.2.2.1 ≤ sc.length)
  else if f.2.2.1 = 7 then f.2.1 = 9996 ∧ ((f.2.2.2.1 / 4294967296 < nx ∧ f.2.2.2.2.1 / 4294967296 < nx) ∧ gE Bc ρ nx f.2.2.2.2.2 ((gNv ρ f.2.2.2.1 + gNv ρ f.2.2.2.2.1) % 4294967296))
  else if f.2.2.1 = 9 then f.2.1 = 9996 ∧ ((f.2.2.2.1 / 4294967296 < nx ∧ f.2.2.2.2.1 / 4294967296 < nx) ∧ gE Bc ρ nx f.2.2.2.2.2 ((gNv ρ f.2.2.2.1 * gNv ρ f.2.2.2.2.1) % 4294967296))
  else False
/-- names that stand for single cells and the script's length -/
def gRig (sc : List Nat) (ρ : Nat → Nat) : Prop := (∀ r : Nat, 0 < eSg.getD r 0 → ρ (r + 1) = 4294967297 + (eSg.getD r 0 - 1)) ∧ (ρ 9500 = sc.length ∧ ρ 9003 = 0) ∧ (sc.length < 2147483648 ∧ eN.1 ≤ sc.length ∧ sc.length ≤ eN.2) ∧ (∀ c ∈ sc, c < 4294967296)
def gS (sc : List Nat) (Bc : Nat) (ρ : Nat → Nat) (s : eS) (frs : gCf) (i pc : Nat) (ls st : List Nat) (m : zM) : Prop :=
  (s.2.1 = i ∧ s.2.2.1 = pc) ∧ (gFr Bc ρ s.2.2.2.2.2.2 s.1 frs ∧ gL Bc ρ s.2.2.2.2.2.2 s.2.2.2.1 ls ∧ gL Bc ρ s.2.2.2.2.2.2 s.2.2.2.2.1 st) ∧ (∀ f ∈ eFs s, gF sc Bc ρ s.2.2.2.2.2.2 m f) ∧ (10000 ≤ s.2.2.2.2.2.2 ∧ gRig sc ρ)
/-- the memory, as the regions have it -/
def gM (Bc : Nat) (m : zM) : Prop := m.length = eRG.length ∧ ∀ k : Nat, k < eRG.length → ∃ f : Nat → Nat, m[k]? = some (eKd (eRG.getD k 0), eLen (eRG.getD k 0), f) ∧ ∀ j : Nat, j < eLen (eRG.getD k 0) → gA Bc (eTy (eRG.getD k 0) j) (f j)
/-- only what W names has changed -/
def gW (W : List (Nat × Nat × Nat)) (m m' : zM) : Prop := ∀ (k kd n : Nat) (f : Nat → Nat), m[k]? = some (kd, n, f) → ∃ f' : Nat → Nat, m'[k]? = some (kd, n, f') ∧ ∀ j : Nat, (∀ q ∈ W, q.1 = eRG.getD k 0 → q.2.1 ≤ j → j ≤ q.2.2 → False) → f' j = f j
def gAg (nx : Nat) (ρ ρ' : Nat → Nat) : Prop := ∀ x, x < nx → ρ' x = ρ x
/-- the run comes to its end, through the frames that wait -/
def gFin (sc : List Nat) (Q : Nat → zM → Prop) : gCf → Nat → Nat → List Nat → List Nat → zM → Prop
  | [], i, pc, ls, st, m => ∃ (n v : Nat) (m' : zM), zGo sc n i pc ls st m = some (v, m') ∧ Q v m'
  | (i2, pc2, ls2, st2) :: fr, i, pc, ls, st, m => ∃ (n v : Nat) (m' : zM), zGo sc n i pc ls st m = some (v, m') ∧ gFin sc Q fr i2 (pc2 + 3) ls2 (if zRet i = 0 then st2 else v :: st2) m'
/-! data that is looked through once -/
def eDat1 (r : Nat) : Bool := (List.range (eLen r)).all (fun j => (bif Nat.blt (eKd r) 7 then Nat.blt j (zNF (eKd r)) && (match zTag (zTy (eKd r) j) with
    | 0 => Nat.beq (eTy r j).1 0 || Nat.beq (eTy r j).1 5
    | 1 => eSub (eTy r j) (0, 2147483648, 2147483649, 1, 0, 0) && Nat.beq (eTy r j).1 0
    | _ => Nat.beq (eTy r j).1 1)
  else bif Nat.beq (eKd r) 7 then Nat.beq (eTy r j).1 0
  else bif Nat.beq (eKd r) 8 then Nat.beq (eTy r j).1 0 && eSub (eTy r j) (0, 2147483648, 2147549183, 1, 0, 0)
  else Nat.beq (eTy r j).1 1 && Nat.beq (eKd (eTy r j).2.1) (zEl (eKd r))) && (Nat.beq (eId (eTy r j)) 0))
def eDat : Bool := ((List.range eRT.length).all (fun r => (Nat.ble (eKd r) 11 && Nat.blt (eLen r) 100000) && eDat1 r) && (Nat.blt eRT.length 9000 && Nat.beq eSg.length eRT.length)) && (((List.range eRG.length).all (fun k => Nat.blt (eRG.getD k 0) eRT.length && (Nat.beq (eSg.getD (eRG.getD k 0) 0) 0 || Nat.beq (eSg.getD (eRG.getD k 0) 0) (k + 1))) && (Nat.blt eRG.length 100000 && (List.range eSg.length).all (fun r => Nat.beq (eSg.getD r 0) 0 || (Nat.blt (eSg.getD r 0 - 1) eRG.length && Nat.beq (eRG.getD (eSg.getD r 0 - 1) 0) r)))) && Nat.blt eN.2 2147483648)
/-! small rows -/
theorem cs_and {α : Type} {b : Bool} {x : Option α} {y : α} (h : (bif b then x else none) = some y) : b = true ∧ x = some y := by
  cases b
  · cases h
  · exact ⟨rfl, h⟩
theorem cs_ite {α : Type} {b : Bool} {x y z : α} (h : (bif b then x else y) = z) : (b = true ∧ x = z) ∨ (b = false ∧ y = z) := by
  cases b
  · exact Or.inr ⟨rfl, h⟩
  · exact Or.inl ⟨rfl, h⟩
theorem nb_eq {a b : Nat} : Nat.beq a b = true ↔ a = b := ⟨Nat.eq_of_beq_eq_true, fun h => by rw [h]; exact Nat.beq_refl b⟩
theorem nb_ne {a b : Nat} : Nat.beq a b = false ↔ a ≠ b := by
  constructor
  · intro h e
    rw [nb_eq.mpr e] at h
    cases h
  · intro h
    cases hq : Nat.beq a b
    · rfl
    · exact absurd (nb_eq.mp hq) h
theorem nl_le {a b : Nat} : Nat.ble a b = true ↔ a ≤ b := ⟨Nat.le_of_ble_eq_true, Nat.ble_eq_true_of_le⟩
theorem nl_lt {a b : Nat} : Nat.blt a b = true ↔ a < b := by
  unfold Nat.blt
  exact nl_le
theorem nl_nle {a b : Nat} : Nat.ble a b = false ↔ b < a := by
  constructor
  · intro h
    apply Nat.lt_of_not_le
    intro q
    rw [nl_le.mpr q] at h
    cases h
  · intro h
    cases hq : Nat.ble a b
    · rfl
    · exact absurd (nl_le.mp hq) (Nat.not_le.mpr h)
theorem nl_nlt {a b : Nat} : Nat.blt a b = false ↔ b ≤ a := by
  unfold Nat.blt
  rw [nl_nle]
  omega
theorem zs_lt {c : Nat} (h : c < 4294967296) : zs c < 4294967296 := by
  unfold zs
  split <;> omega
theorem zs_inv {c : Nat} (h : c < 4294967296) : zs (zs c) = c := by
  unfold zs
  split <;> split <;> omega
theorem zs_pos {c : Nat} (h : c < 4294967296) : 2147483648 ≤ zs c ↔ c < 2147483648 := by
  unfold zs
  split <;> omega
theorem zs_of {c : Nat} (h : c < 4294967296) (h2 : 2147483648 ≤ zs c) : c = zs c - 2147483648 := by
  have := (zs_pos h).mp h2
  unfold zs
  split <;> omega
theorem zs_lo {c : Nat} (h : c < 2147483648) : zs c = c + 2147483648 := if_pos h
theorem zs_hi {c : Nat} (h : ¬ c < 2147483648) : zs c = c - 2147483648 := if_neg h
theorem zs_add {a b : Nat} (ha : a < 4294967296) (hb : b < 4294967296) (h1 : 2147483648 ≤ zs a + zs b) (h2 : zs a + zs b < 6442450944) : zs ((a + b) % 4294967296) = zs a + zs b - 2147483648 := by
  by_cases qa : a < 2147483648 <;> by_cases qb : b < 2147483648
  · rw [zs_lo qa, zs_lo qb] at *
    rw [Nat.mod_eq_of_lt (by omega), zs_lo (by omega)]
    omega
  · rw [zs_lo qa, zs_hi qb] at *
    by_cases q : a + b < 4294967296
    · rw [Nat.mod_eq_of_lt q, zs_hi (by omega)]
      omega
    · rw [show (a + b) % 4294967296 = a + b - 4294967296 by omega, zs_lo (by omega)]
      omega
  · rw [zs_hi qa, zs_lo qb] at *
    by_cases q : a + b < 4294967296
    · rw [Nat.mod_eq_of_lt q, zs_hi (by omega)]
      omega
    · rw [show (a + b) % 4294967296 = a + b - 4294967296 by omega, zs_lo (by omega)]
      omega
  · rw [zs_hi qa, zs_hi qb] at *
    rw [show (a + b) % 4294967296 = a + b - 4294967296 by omega, zs_hi (by omega)]
    omega
theorem zs_sub {a b : Nat} (ha : a < 4294967296) (hb : b < 4294967296) (h1 : zs b ≤ zs a + 2147483648) (h2 : zs a + 2147483648 - zs b < 4294967296) : zs ((a + 4294967296 - b) % 4294967296) = zs a + 2147483648 - zs b := by
  by_cases qa : a < 2147483648 <;> by_cases qb : b < 2147483648
  · rw [zs_lo qa, zs_lo qb] at *
    by_cases q : b ≤ a
    · rw [show (a + 4294967296 - b) % 4294967296 = a - b by omega, zs_lo (by omega)]
      omega
    · rw [show (a + 4294967296 - b) % 4294967296 = a + 4294967296 - b by omega, zs_hi (by omega)]
      omega
  · rw [zs_lo qa, zs_hi qb] at *
    rw [show (a + 4294967296 - b) % 4294967296 = a + 4294967296 - b by omega, zs_lo (by omega)]
    omega
  · rw [zs_hi qa, zs_lo qb] at *
    rw [show (a + 4294967296 - b) % 4294967296 = a - b by omega, zs_hi (by omega)]
    omega
  · rw [zs_hi qa, zs_hi qb] at *
    by_cases q : b ≤ a
    · rw [show (a + 4294967296 - b) % 4294967296 = a - b by omega, zs_lo (by omega)]
      omega
    · rw [show (a + 4294967296 - b) % 4294967296 = a + 4294967296 - b by omega, zs_hi (by omega)]
      omega
theorem zs_inj {a b : Nat} (ha : a < 4294967296) (hb : b < 4294967296) (h : zs a = zs b) : a = b := by
  rw [← zs_inv ha, ← zs_inv hb, h]
