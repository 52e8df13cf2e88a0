/-! ===== runs to the end, through the frames that wait ===== -/
section EZ
variable {sc : List Nat} {Q : Nat → zM → Prop} {frs : gCf} {i pc : Nat} {ls st : List Nat} {m : zM}
theorem zGo_up : ∀ {n k i pc : Nat} {ls st : List Nat} {m : zM} {r : Nat × zM}, zGo sc n i pc ls st m = some r → zGo sc (n + k) i pc ls st m = some r
  | 0, _, _, _, _, _, _, _, h => by cases h
  | n + 1, k, i, pc, ls, st, m, r, h => by
    rw [Nat.add_right_comm]
    unfold zGo at h ⊢
    by_cases q : zIsC (zI i pc) = true
    · rw [if_pos q] at h ⊢
      by_cases q2 : zCOk (zI i pc) st m = true
      · rw [if_pos q2] at h ⊢
        rcases e : zGo sc n (za (zI i pc)) 0 (zEn (za (zI i pc)) (zb (zI i pc)) st) [] m with _ | ⟨v, m'⟩
        · rw [e] at h
          cases h
        · rw [e] at h
          rw [zGo_up e]
          exact zGo_up h
      · rw [if_neg q2] at h
        cases h
    · rw [if_neg q] at h ⊢
      rcases e : zOne sc i (zI i pc) pc ls st m with _ | r2
      · rw [e] at h
        cases h
      · rw [e] at h
        rcases r2 with ⟨p2, l2, s2, m2⟩ | v
        · exact zGo_up h
        · exact h
/-- the end of a run goes on where its frames go on -/
def gFin1 (sc : List Nat) (Q : Nat → zM → Prop) (frs : gCf) (i v : Nat) (m : zM) : Prop := match frs with
  | [] => Q v m
  | (i2, pc2, ls2, st2) :: fr => gFin sc Q fr i2 (pc2 + 3) ls2 (if zRet i = 0 then st2 else v :: st2) m
theorem gFin_iff : gFin sc Q frs i pc ls st m ↔ ∃ (n v : Nat) (m' : zM), zGo sc n i pc ls st m = some (v, m') ∧ gFin1 sc Q frs i v m' := by
  rcases frs with _ | ⟨⟨i2, pc2, ls2, st2⟩, fr⟩
  · exact Iff.rfl
  · exact Iff.rfl
theorem gFin_step {pc2 : Nat} {ls2 st2 : List Nat} {m2 : zM} (hc : zIsC (zI i pc) = false) (h : zOne sc i (zI i pc) pc ls st m = some (.inl (pc2, ls2, st2, m2))) (g : gFin sc Q frs i pc2 ls2 st2 m2) : gFin sc Q frs i pc ls st m := by
  rw [gFin_iff] at g ⊢
  obtain ⟨n, v, m', h1, h2⟩ := g
  refine ⟨n + 1, v, m', ?_, h2⟩
  unfold zGo
  rw [if_neg (by rw [hc]; decide), h]
  exact h1
theorem gFin_ret {v : Nat} (hc : zIsC (zI i pc) = false) (h : zOne sc i (zI i pc) pc ls st m = some (.inr v)) (g : gFin1 sc Q frs i v m) : gFin sc Q frs i pc ls st m := by
  rw [gFin_iff]
  refine ⟨1, v, m, ?_, g⟩
  unfold zGo
  rw [if_neg (by rw [hc]; decide), h]
theorem gFin_call (hc : zIsC (zI i pc) = true) (hk : zCOk (zI i pc) st m = true) (g : gFin sc Q ((i, pc, ls, st.drop (zb (zI i pc))) :: frs) (za (zI i pc)) 0 (zEn (za (zI i pc)) (zb (zI i pc)) st) [] m) : gFin sc Q frs i pc ls st m := by
  rw [gFin_iff] at g
  obtain ⟨n, v, m', h1, h2⟩ := g
  have h2 : gFin sc Q frs i (pc + 3) ls (if zRet (za (zI i pc)) = 0 then st.drop (zb (zI i pc)) else v :: st.drop (zb (zI i pc))) m' := h2
  rw [gFin_iff] at h2 ⊢
  obtain ⟨n2, v2, m2, h3, h4⟩ := h2
  refine ⟨n + n2 + 1, v2, m2, ?_, h4⟩
  unfold zGo
  rw [if_pos hc, if_pos hk, zGo_up h1]
  show zGo sc (n + n2) i (pc + 3) ls _ m' = some (v2, m2)
  rw [Nat.add_comm n n2]
  exact zGo_up h3
theorem gFin_mono {Q2 : Nat → zM → Prop} (hq : ∀ v m, Q v m → Q2 v m) : ∀ {frs : gCf} {i pc : Nat} {ls st : List Nat} {m : zM}, gFin sc Q frs i pc ls st m → gFin sc Q2 frs i pc ls st m
  | [], _, _, _, _, _, h => by
    obtain ⟨n, v, m', h1, h2⟩ := h
    exact ⟨n, v, m', h1, hq _ _ h2⟩
  | (_, _, _, _) :: fr, _, _, _, _, _, h => by
    obtain ⟨n, v, m', h1, h2⟩ := h
    exact ⟨n, v, m', h1, gFin_mono hq h2⟩
theorem eMaxM_ok {f : eS → Option Nat} : ∀ {L : List eS} {b : Nat} {s : eS}, eMaxM f L = some b → s ∈ L → ∃ a, f s = some a ∧ a ≤ b
  | [], _, _, _, h => by cases h
  | t :: L, b, s, h, hs => by
    simp only [eMaxM] at h
    split at h
    · rename_i a ha
      split at h
      · rename_i b2 hb
        cases h
        rcases List.mem_cons.mp hs with rfl | hs
        · exact ⟨a, ha, Nat.le_max_left _ _⟩
        · obtain ⟨a2, e1, e2⟩ := eMaxM_ok hb hs
          exact ⟨a2, e1, Nat.le_trans e2 (Nat.le_max_right _ _)⟩
      · cases h
    · cases h
end EZ
