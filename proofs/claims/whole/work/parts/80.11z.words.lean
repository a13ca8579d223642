/-! single words, by place: printed by program -/
set_option maxRecDepth 100000 in
theorem sw_value : Cond.fieldLink "java/lang/String" 9 "java/lang/String" "value" "[B" ∈ lw_tbl := tb_in (i := 1675) rfl
set_option maxRecDepth 100000 in
theorem sw_coder : Cond.fieldLink "java/lang/String" 15 "java/lang/String" "coder" "B" ∈ lw_tbl := tb_in (i := 1676) rfl
set_option maxRecDepth 100000 in
theorem sw_compact : Cond.fieldLink "java/lang/String" 38 "java/lang/String" "COMPACT_STRINGS" "Z" ∈ lw_tbl := tb_in (i := 563) rfl
set_option maxRecDepth 100000 in
theorem sw_sioobe : Cond.fieldLink "java/lang/String" 1053 "jdk/internal/util/Preconditions" "SIOOBE_FORMATTER" "Ljava/util/function/BiFunction;" ∈ lw_tbl := tb_in (i := 579) rfl
set_option maxRecDepth 100000 in
theorem sw_acl : Cond.methodLink "ByThePound$Table" 45 arraycopyName ∈ lw_tbl := tb_in (i := 1067) rfl
set_option maxRecDepth 100000 in
theorem sw_acn : Cond.native arraycopyName ∈ lw_tbl := tb_in (i := 1069) rfl
set_option maxRecDepth 100000 in
theorem sw_acs : Cond.static arraycopyName ∈ lw_tbl := tb_in (i := 1068) rfl
set_option maxRecDepth 100000 in
theorem sw_aci : Cond.initialized "java/lang/System" ∈ lw_tbl := tb_in (i := 20) rfl
set_option maxRecDepth 100000 in
theorem sw_mi : Cond.initialized "java/lang/Math" ∈ lw_tbl := tb_in (i := 7) rfl
set_option maxRecDepth 100000 in
theorem sw_ms0 : Cond.static Lib.Math.max.name ∈ lw_tbl := tb_in (i := 137) rfl
set_option maxRecDepth 100000 in
theorem sw_mc0 : Cond.code Lib.Math.max.name Lib.Math.max.code 2 (some .int) ∈ lw_tbl := tb_in (i := 138) rfl
theorem mm_0 : ∀ q ∈ MMd, q.2.2.1 = 0 → Cond.methodLink (onm q.1) q.2.1 Lib.Math.max.name ∈ lw_tbl := by
  have h : MMd.all (fun q => !(Nat.beq q.2.2.1 0) || hasW q.2.2.2 (.methodLink (onm q.1) q.2.1 ⟨"java/lang/Math", "max", "(II)I"⟩)) = true := by decide +kernel
  intro q hq e
  have := List.all_eq_true.mp h q hq
  rw [e] at this
  have t : hasW q.2.2.2 (.methodLink (onm q.1) q.2.1 ⟨"java/lang/Math", "max", "(II)I"⟩) = true := by simpa using this
  exact hasW_in t
set_option maxRecDepth 100000 in
theorem sw_ms1 : Cond.static Lib.Math.min.name ∈ lw_tbl := tb_in (i := 449) rfl
set_option maxRecDepth 100000 in
theorem sw_mc1 : Cond.code Lib.Math.min.name Lib.Math.min.code 2 (some .int) ∈ lw_tbl := tb_in (i := 450) rfl
theorem mm_1 : ∀ q ∈ MMd, q.2.2.1 = 1 → Cond.methodLink (onm q.1) q.2.1 Lib.Math.min.name ∈ lw_tbl := by
  have h : MMd.all (fun q => !(Nat.beq q.2.2.1 1) || hasW q.2.2.2 (.methodLink (onm q.1) q.2.1 ⟨"java/lang/Math", "min", "(II)I"⟩)) = true := by decide +kernel
  intro q hq e
  have := List.all_eq_true.mp h q hq
  rw [e] at this
  have t : hasW q.2.2.2 (.methodLink (onm q.1) q.2.1 ⟨"java/lang/Math", "min", "(II)I"⟩) = true := by simpa using this
  exact hasW_in t
theorem mm_2 : ∀ q ∈ MMd, ¬ q.2.2.1 = 2 := by decide
theorem mm_3 : ∀ q ∈ MMd, ¬ q.2.2.1 = 3 := by decide
set_option maxRecDepth 100000 in
theorem sw_oi : Cond.instanceMethod Lib.objectInit ∈ lw_tbl := tb_in (i := 27) rfl
set_option maxRecDepth 100000 in
theorem sw_oc : Cond.code Lib.objectInit ⟨#[0xb1]⟩ 1 none ∈ lw_tbl := tb_in (i := 28) rfl
theorem oi_w : ∀ q ∈ OId, Cond.methodLink (onm q.1) q.2.1 Lib.objectInit ∈ lw_tbl := by
  have h : OId.all (fun q => hasW q.2.2 (.methodLink (onm q.1) q.2.1 ⟨"java/lang/Object", "<init>", "()V"⟩)) = true := by decide +kernel
  intro q hq
  exact hasW_in (List.all_eq_true.mp h q hq)
set_option maxRecDepth 100000 in
theorem sw_aint : Cond.arrayClass .int ∈ lw_tbl := tb_in (i := 60) rfl
set_option maxRecDepth 100000 in
theorem sw_aboolean : Cond.arrayClass .boolean ∈ lw_tbl := tb_in (i := 305) rfl
set_option maxRecDepth 100000 in
theorem sw_abyte : Cond.arrayClass .byte ∈ lw_tbl := tb_in (i := 732) rfl
set_option maxRecDepth 100000 in
theorem sw_along : Cond.arrayClass .long ∈ lw_tbl := tb_in (i := 1252) rfl
set_option maxRecDepth 100000 in
theorem sw_mna : Cond.classLink "ByThePound$Market" 33 "[[I" ∈ lw_tbl := tb_in (i := 269) rfl
