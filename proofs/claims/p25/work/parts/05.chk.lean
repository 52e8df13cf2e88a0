/-! ===== the checks, by the kernel ===== -/
set_option maxRecDepth 100000 in
theorem zk_m : (List.range 65).all zChM = true := by decide +kernel
set_option maxRecDepth 100000 in
theorem zk_0 : (List.range' 0 35).all zChk = true := by decide +kernel
set_option maxRecDepth 100000 in
theorem zk_1 : (List.range' 35 30).all zChk = true := by decide +kernel
/-! what the check of a method says -/
set_option maxRecDepth 100000 in
theorem zk_lay : (List.range 6).all (fun ci => (u_ws (zCn ci) (zTT ci) (zNF ci)).all (fun w => decide (w ∈ lw_tbl) && goodWord w)) = true := by decide +kernel
theorem zk_ws {ci : Nat} (h : ci < 6) : ∀ w ∈ u_ws (zCn ci) (zTT ci) (zNF ci), w ∈ zWT := by
  intro w hw
  have h1 := List.all_eq_true.mp (List.all_eq_true.mp zk_lay ci (List.mem_range.mpr h)) w hw
  simp only [Bool.and_eq_true, decide_eq_true_eq] at h1
  exact List.mem_filter.mpr h1
set_option maxRecDepth 100000 in
theorem zk_glob : ([Cond.instanceMethod objectInit, Cond.code objectInit ⟨#[0xb1]⟩ 1 none, Cond.static Lib.Math.min.name, Cond.static Lib.Math.max.name, Cond.initialized "java/lang/Math", Cond.code Lib.Math.min.name Lib.Math.min.code 2 (some .int), Cond.code Lib.Math.max.name Lib.Math.max.code 2 (some .int), Cond.native arraycopyName, Cond.static arraycopyName, Cond.initialized "java/lang/System"]).all (fun w => decide (w ∈ lw_tbl) && goodWord w) = true := by decide +kernel
theorem zk_gl {w : Cond} (h : w ∈ [Cond.instanceMethod objectInit, Cond.code objectInit ⟨#[0xb1]⟩ 1 none, Cond.static Lib.Math.min.name, Cond.static Lib.Math.max.name, Cond.initialized "java/lang/Math", Cond.code Lib.Math.min.name Lib.Math.min.code 2 (some .int), Cond.code Lib.Math.max.name Lib.Math.max.code 2 (some .int), Cond.native arraycopyName, Cond.static arraycopyName, Cond.initialized "java/lang/System"]) : w ∈ zWT := by
  have h1 := List.all_eq_true.mp zk_glob w h
  simp only [Bool.and_eq_true, decide_eq_true_eq] at h1
  exact List.mem_filter.mpr h1
