/-! ===== one instruction of the interpreter, whichever it is ===== -/
theorem cs_le {α : Type} {a b : Nat} {x y z : α} (h : (bif Nat.ble a b then x else y) = z) : (a ≤ b ∧ x = z) ∨ (b < a ∧ y = z) := by
  rcases cs_ite h with ⟨h1, h2⟩ | ⟨h1, h2⟩
  · exact Or.inl ⟨nl_le.mp h1, h2⟩
  · exact Or.inr ⟨nl_nle.mp h1, h2⟩
theorem cs_eq {α : Type} {a b : Nat} {x y z : α} (h : (bif Nat.beq a b then x else y) = z) : (a = b ∧ x = z) ∨ (a ≠ b ∧ y = z) := by
  rcases cs_ite h with ⟨h1, h2⟩ | ⟨h1, h2⟩
  · exact Or.inl ⟨nb_eq.mp h1, h2⟩
  · exact Or.inr ⟨nb_ne.mp h1, h2⟩
section EW
variable {sc : List Nat} {W : List (Nat × Nat × Nat)} {Bc : Nat} {ρ : Nat → Nat} {nx : Nat} {fr : List eFr} {frs : gCf} {i w pc k : Nat} {ls st : List eE} {cl cst : List Nat} {fs : List eF} {m : zM} {L : List eS}
theorem eDis1_ok (hD : eDat = true) (h16 : zop w ≤ 16) (hI : gIn sc Bc ρ fr frs ls st cl cst fs nx m) (h : eDis1 (zop w) (za w) (zb w) (zc w) (zln w) W fr i pc ls st fs nx = some (k, L)) : gStp sc W Bc ρ nx frs i w pc cl cst m k L := by
  unfold eDis1 at h
  rcases cs_le h with ⟨c1, h⟩ | ⟨c1, h⟩
  · rcases cs_le h with ⟨c2, h⟩ | ⟨c2, h⟩
    · rcases cs_eq h with ⟨c3, h⟩ | ⟨c3, h⟩
      · exact ep_con c3 hI h
      rcases cs_eq h with ⟨c4, h⟩ | ⟨c4, h⟩
      · exact ep_load2 c4 hI h
      rcases cs_eq h with ⟨c5, h⟩ | ⟨c5, h⟩
      · exact ep_load3 hD c5 hI h
      · cases h
    · rcases cs_eq h with ⟨c3, h⟩ | ⟨c3, h⟩
      · exact ep_store4 hD c3 hI h
      rcases cs_eq h with ⟨c4, h⟩ | ⟨c4, h⟩
      · exact ep_store5 hD c4 hI h
      · exact ep_inc hD (by omega) hI h
  rcases cs_le h with ⟨c2, h⟩ | ⟨c2, h⟩
  · rcases cs_eq h with ⟨c3, h⟩ | ⟨c3, h⟩
    · exact ep_add hD c3 hI h
    rcases cs_eq h with ⟨c4, h⟩ | ⟨c4, h⟩
    · exact ep_sub c4 hI h
    rcases cs_eq h with ⟨c5, h⟩ | ⟨c5, h⟩
    · exact ep_mul hD c5 hI h
    by_cases q : zop w = 11
    · rw [nb_eq.mpr q] at h
      exact ep_rem q hI h
    · rw [nb_ne.mpr q] at h
      exact ep_div (by omega) hI h
  · rcases cs_eq h with ⟨c3, h⟩ | ⟨c3, h⟩
    · exact ep_and c3 hI h
    rcases cs_eq h with ⟨c4, h⟩ | ⟨c4, h⟩
    · exact ep_i2c c4 hI h
    rcases cs_eq h with ⟨c5, h⟩ | ⟨c5, h⟩
    · exact ep_dup hD c5 hI h
    rcases cs_eq h with ⟨c6, h⟩ | ⟨c6, h⟩
    · exact ep_pop hD c6 hI h
    · exact ep_dup2 hD (by omega) hI h
theorem eDis2_ok (hD : eDat = true) (h16 : 16 < zop w) (hB : Bc + k ≤ 1073741824) (hI : gIn sc Bc ρ fr frs ls st cl cst fs nx m) (h : eDis2 (zop w) (za w) (zb w) (zc w) (zln w) W fr i pc ls st fs nx = some (k, L)) : gStp sc W Bc ρ nx frs i w pc cl cst m k L := by
  unfold eDis2 at h
  rcases cs_le h with ⟨c1, h⟩ | ⟨c1, h⟩
  · rcases cs_eq h with ⟨c3, h⟩ | ⟨c3, h⟩
    · exact ep_if c3 hI h
    rcases cs_eq h with ⟨c4, h⟩ | ⟨c4, h⟩
    · exact ep_cmp c4 hI h
    rcases cs_eq h with ⟨c5, h⟩ | ⟨c5, h⟩
    · exact ep_goto c5 hI h
    rcases cs_eq h with ⟨c6, h⟩ | ⟨c6, h⟩
    · exact ep_get hD c6 hI h
    · exact ep_switch (by omega) hI h
  rcases cs_le h with ⟨c2, h⟩ | ⟨c2, h⟩
  · rcases cs_eq h with ⟨c3, h⟩ | ⟨c3, h⟩
    · exact ep_put hD c3 hB hI h
    rcases cs_eq h with ⟨c4, h⟩ | ⟨c4, h⟩
    · rcases cs_le h with ⟨c5, h⟩ | ⟨c5, h⟩
      · exact ep_stat c4 c5 hI h
      · cases h
    rcases cs_eq h with ⟨c5, h⟩ | ⟨c5, h⟩
    · exact ep_ald hD (Or.inl ⟨c5, rfl⟩) hI h
    rcases cs_eq h with ⟨c6, h⟩ | ⟨c6, h⟩
    · exact ep_ast hD (Or.inl ⟨c6, rfl⟩) hI h
    · cases h
  · rcases cs_eq h with ⟨c3, h⟩ | ⟨c3, h⟩
    · exact ep_ald hD (Or.inr (Or.inl ⟨c3, rfl⟩)) hI h
    rcases cs_eq h with ⟨c4, h⟩ | ⟨c4, h⟩
    · exact ep_ast hD (Or.inr (Or.inl ⟨c4, rfl⟩)) hI h
    rcases cs_eq h with ⟨c5, h⟩ | ⟨c5, h⟩
    · exact ep_ald hD (Or.inr (Or.inr ⟨c5, rfl⟩)) hI h
    rcases cs_eq h with ⟨c6, h⟩ | ⟨c6, h⟩
    · exact ep_ast hD (Or.inr (Or.inr ⟨c6, rfl⟩)) hI h
    rcases cs_eq h with ⟨c7, h⟩ | ⟨c7, h⟩
    · exact ep_alen hD c7 hI h
    rcases cs_eq h with ⟨c8, h⟩ | ⟨c8, h⟩
    · exact ep_min c8 hI h
    rcases cs_eq h with ⟨c9, h⟩ | ⟨c9, h⟩
    · exact ep_max c9 hI h
    rcases cs_eq h with ⟨c9, h⟩ | ⟨c9, h⟩
    · exact ep_cpy hD c9 hI h
    · cases h
theorem eStep_ok (hD : eDat = true) (hB : Bc + k ≤ 1073741824) (hI : gIn sc Bc ρ fr frs ls st cl cst fs nx m) (h : eStep W w (fr, i, pc, ls, st, fs, nx) = some (k, L)) : gStp sc W Bc ρ nx frs i w pc cl cst m k L := by
  unfold eStep at h
  rcases cs_le h with ⟨c1, h⟩ | ⟨c1, h⟩
  · exact eDis1_ok hD c1 hI h
  · exact eDis2_ok hD c1 hB hI h
end EW
