/-! single words, by place: printed by program -/
set_option maxRecDepth 100000 in
theorem sw_value : Cond.fieldLink "java/lang/String" 9 "java/lang/String" "value" "[B" ∈ lw_tbl := tb_in (i := 1683) rfl
set_option maxRecDepth 100000 in
theorem sw_coder : Cond.fieldLink "java/lang/String" 15 "java/lang/String" "coder" "B" ∈ lw_tbl := tb_in (i := 1684) rfl
set_option maxRecDepth 100000 in
theorem sw_compact : Cond.fieldLink "java/lang/String" 38 "java/lang/String" "COMPACT_STRINGS" "Z" ∈ lw_tbl := tb_in (i := 569) rfl
set_option maxRecDepth 100000 in
theorem sw_sioobe : Cond.fieldLink "java/lang/String" 1053 "jdk/internal/util/Preconditions" "SIOOBE_FORMATTER" "Ljava/util/function/BiFunction;" ∈ lw_tbl := tb_in (i := 585) rfl
set_option maxRecDepth 100000 in
theorem sw_acl : Cond.methodLink "ByThePound$Table" 48 arraycopyName ∈ lw_tbl := tb_in (i := 1075) rfl
set_option maxRecDepth 100000 in
theorem sw_acn : Cond.native arraycopyName ∈ lw_tbl := tb_in (i := 1077) rfl
set_option maxRecDepth 100000 in
theorem sw_acs : Cond.static arraycopyName ∈ lw_tbl := tb_in (i := 1076) rfl
set_option maxRecDepth 100000 in
theorem sw_aci : Cond.initialized "java/lang/System" ∈ lw_tbl := tb_in (i := 20) rfl
set_option maxRecDepth 100000 in
theorem sw_mi : Cond.initialized "java/lang/Math" ∈ lw_tbl := tb_in (i := 7) rfl
set_option maxRecDepth 100000 in
theorem sw_ms0 : Cond.static Lib.Math.max.name ∈ lw_tbl := tb_in (i := 137) rfl
set_option maxRecDepth 100000 in
theorem sw_mc0 : Cond.code Lib.Math.max.name Lib.Math.max.code 2 (some .int) ∈ lw_tbl := tb_in (i := 138) rfl
theorem mm_0 : ∀ q ∈ MMd, q.2.2.1 = 0 → Cond.methodLink (onm q.1) q.2.1 Lib.Math.max.name ∈ lw_tbl := by
  have h : MMd.all (fun q => !(Nat.beq q.2.2.1 0) || hasW q.2.2.2 (.methodLink (onm q.1) q.2.1 ⟨"java/lang/Math", "max", "(II)I"⟩)) = true := by decide +kernel
  intro q hq e
  have := List.all_eq_true.mp h q hq
  rw [e] at this
  have t : hasW q.2.2.2 (.methodLink (onm q.1) q.2.1 ⟨"java/lang/Math", "max", "(II)I"⟩) = true := by simpa using this
  exact hasW_in t
set_option maxRecDepth 100000 in
theorem sw_ms1 : Cond.static Lib.Math.min.name ∈ lw_tbl := tb_in (i := 454) rfl
set_option maxRecDepth 100000 in
theorem sw_mc1 : Cond.code Lib.Math.min.name Lib.Math.min.code 2 (some .int) ∈ lw_tbl := tb_in (i := 455) rfl
theorem mm_1 : ∀ q ∈ MMd, q.2.2.1 = 1 → Cond.methodLink (onm q.1) q.2.1 Lib.Math.min.name ∈ lw_tbl := by
  have h : MMd.all (fun q => !(Nat.beq q.2.2.1 1) || hasW q.2.2.2 (.methodLink (onm q.1) q.2.1 ⟨"java/lang/Math", "min", "(II)I"⟩)) = true := by decide +kernel
  intro q hq e
  have := List.all_eq_true.mp h q hq
  rw [e] at this
  have t : hasW q.2.2.2 (.methodLink (onm q.1) q.2.1 ⟨"java/lang/Math", "min", "(II)I"⟩) = true := by simpa using this
  exact hasW_in t
set_option maxRecDepth 100000 in
theorem sw_ms2 : Cond.static Lib.MathLoose.max_long.x ∈ lw_tbl := tb_in (i := 506) rfl
set_option maxRecDepth 100000 in
theorem sw_mc2 : Cond.code Lib.MathLoose.max_long.x Lib.MathLoose.max_long.code 4 (some .long) ∈ lw_tbl := tb_in (i := 507) rfl
theorem mm_2 : ∀ q ∈ MMd, q.2.2.1 = 2 → Cond.methodLink (onm q.1) q.2.1 Lib.MathLoose.max_long.x ∈ lw_tbl := by
  have h : MMd.all (fun q => !(Nat.beq q.2.2.1 2) || hasW q.2.2.2 (.methodLink (onm q.1) q.2.1 ⟨"java/lang/Math", "max", "(JJ)J"⟩)) = true := by decide +kernel
  intro q hq e
  have := List.all_eq_true.mp h q hq
  rw [e] at this
  have t : hasW q.2.2.2 (.methodLink (onm q.1) q.2.1 ⟨"java/lang/Math", "max", "(JJ)J"⟩) = true := by simpa using this
  exact hasW_in t
set_option maxRecDepth 100000 in
theorem sw_ms3 : Cond.static Lib.MathLoose.min_long.x ∈ lw_tbl := tb_in (i := 503) rfl
set_option maxRecDepth 100000 in
theorem sw_mc3 : Cond.code Lib.MathLoose.min_long.x Lib.MathLoose.min_long.code 4 (some .long) ∈ lw_tbl := tb_in (i := 504) rfl
theorem mm_3 : ∀ q ∈ MMd, q.2.2.1 = 3 → Cond.methodLink (onm q.1) q.2.1 Lib.MathLoose.min_long.x ∈ lw_tbl := by
  have h : MMd.all (fun q => !(Nat.beq q.2.2.1 3) || hasW q.2.2.2 (.methodLink (onm q.1) q.2.1 ⟨"java/lang/Math", "min", "(JJ)J"⟩)) = true := by decide +kernel
  intro q hq e
  have := List.all_eq_true.mp h q hq
  rw [e] at this
  have t : hasW q.2.2.2 (.methodLink (onm q.1) q.2.1 ⟨"java/lang/Math", "min", "(JJ)J"⟩) = true := by simpa using this
  exact hasW_in t
set_option maxRecDepth 100000 in
theorem sw_oi : Cond.instanceMethod Lib.objectInit ∈ lw_tbl := tb_in (i := 27) rfl
set_option maxRecDepth 100000 in
theorem sw_oc : Cond.code Lib.objectInit ⟨#[0xb1]⟩ 1 none ∈ lw_tbl := tb_in (i := 28) rfl
theorem oi_w : ∀ q ∈ OId, Cond.methodLink (onm q.1) q.2.1 Lib.objectInit ∈ lw_tbl := by
  have h : OId.all (fun q => hasW q.2.2 (.methodLink (onm q.1) q.2.1 ⟨"java/lang/Object", "<init>", "()V"⟩)) = true := by decide +kernel
  intro q hq
  exact hasW_in (List.all_eq_true.mp h q hq)
set_option maxRecDepth 100000 in
theorem sw_aint : Cond.arrayClass .int ∈ lw_tbl := tb_in (i := 60) rfl
set_option maxRecDepth 100000 in
theorem sw_aboolean : Cond.arrayClass .boolean ∈ lw_tbl := tb_in (i := 306) rfl
set_option maxRecDepth 100000 in
theorem sw_abyte : Cond.arrayClass .byte ∈ lw_tbl := tb_in (i := 750) rfl
set_option maxRecDepth 100000 in
theorem sw_along : Cond.arrayClass .long ∈ lw_tbl := tb_in (i := 1260) rfl
set_option maxRecDepth 100000 in
theorem sw_mna : Cond.classLink "ByThePound$Market" 33 "[[I" ∈ lw_tbl := tb_in (i := 269) rfl
