/-! PARSING, the reference follows the recursion -/
section SI
variable {d : Nat} {X : hX} {s s1 s2 : sg} {Q : Option Value → aH → Prop} {n w T : Int} {B : Int → Int}
theorem at_0 (h16 : s 122016 0 = 0) (h25 : s 122025 0 = 0) (g : ∀ Q', (∀ s', At X d Q s' → Q' none (hp X s')) → Wp (d + 4) 200 0 [.ref 122, .float 0] [] (hp X s) Q') : At X d Q s := by
  have g := g (Kt (d + 4 + 1) 210 136 [.ref 122] [] Q) (fun s' h => by
    unfold At at h
    repeat' (first | (with_reducible refine Br_i ?_ ?_ <;> (intro hbr; first | exact False.elim hbr | skip)) | (with_reducible refine Wl_i ?_) | (simp (disch := first | omega | exact okF _ | exact okI _ | exact okR _ | assumption | exact okN) only [u_at, iI_zero, iI_31, iI_add, iI_sub, iI_mul, iI_neg, ↓iI_max, ↓iI_min, iI_div, emod_f, iI_lt, iI_le, iI_inj, iI_toInt, ↓ii01, ↓ii11, ↓bI_b, bI_0, bI_1, Kt_s, Kt_n, cat0, cat1, cat2, cat3, cat4, rfV, Nat.reduceAdd, Nat.reduceMul, Nat.reduceEqDiff, Int.reduceAdd, Int.reduceSub, Int.reduceMul, Int.reduceNeg, Int.reduceLT, Int.reduceLE, Int.reduceEq, Int.reduceDiv, ↓reduceIte, ↓ite_ww, ↓ite_wi, Br_n, Br_TW, Br_FW, Br_FP, Br_FB, nn_p, and_true, true_and, and_self, true_or, or_true, not_true_eq_false, not_false_eq_true, le_T, le_F, lt_T, lt_F, eq_T, eq_F, Int.add_zero, Int.zero_add, Int.one_mul, Int.mul_one, up_eq, up_ne, Int.add_assoc, Int.add_sub_cancel, Int.sub_zero, Int.sub_self, S_210_0, S_210_1, S_210_4, S_210_5, S_210_6, S_210_8, S_210_11, S_210_12, S_210_13, S_210_14, S_210_15, S_210_18, S_210_21, S_210_22, S_210_23, S_210_26, S_210_27, S_210_28, S_210_31, S_210_32, S_210_33, S_210_36, S_210_37, S_210_38, S_210_41, S_210_42, S_210_43, S_210_46, S_210_47, S_210_48, S_210_51, S_210_52, S_210_53, S_210_56, S_210_57, S_210_58, S_210_61, S_210_62, S_210_63, S_210_66, S_210_67, S_210_68, S_210_71, S_210_72, S_210_76, S_210_79, S_210_82, S_210_83, S_210_86, S_210_87, S_210_90, S_210_91, S_210_94, S_210_97, S_210_98, S_210_101, S_210_132, S_210_133, S_210_136, S_210_139, S_210_140, S_210_143, S_210_146, S_210_147, S_210_150, S_210_153, S_210_154, S_210_157, S_210_160, S_210_161, S_210_164, S_210_167, S_210_168, S_210_169, S_210_172, S_210_175, S_210_176, S_210_177, S_210_180, S_210_183, S_210_184, S_210_187, S_210_190, S_210_191, S_210_192, S_210_193, S_210_194, S_210_197, S_210_198, S_210_199, S_210_202, S_210_203, S_210_206, S_210_207, S_210_208, S_210_209, S_210_210, S_210_211, S_210_212, S_210_213, S_210_216, S_210_217, S_210_218, S_210_219, S_210_220]))
    exact h)
  unfold At
  rw [S_210_75]
  repeat' (first | (with_reducible refine Br_i ?_ ?_ <;> (intro hbr; first | exact False.elim hbr | skip)) | (with_reducible refine Wl_i ?_) | (simp (disch := first | omega | exact okF _ | exact okI _ | exact okR _ | assumption | exact okN) only [u_at, iI_zero, iI_31, iI_add, iI_sub, iI_mul, iI_neg, ↓iI_max, ↓iI_min, iI_div, emod_f, iI_lt, iI_le, iI_inj, iI_toInt, ↓ii01, ↓ii11, ↓bI_b, bI_0, bI_1, Kt_s, Kt_n, cat0, cat1, cat2, cat3, cat4, rfV, Nat.reduceAdd, Nat.reduceMul, Nat.reduceEqDiff, Int.reduceAdd, Int.reduceSub, Int.reduceMul, Int.reduceNeg, Int.reduceLT, Int.reduceLE, Int.reduceEq, Int.reduceDiv, ↓reduceIte, ↓ite_ww, ↓ite_wi, Br_n, Br_TW, Br_FW, Br_FP, Br_FB, nn_p, and_true, true_and, and_self, true_or, or_true, not_true_eq_false, not_false_eq_true, le_T, le_F, lt_T, lt_F, eq_T, eq_F, Int.add_zero, Int.zero_add, Int.one_mul, Int.mul_one, up_eq, up_ne, Int.add_assoc, Int.add_sub_cancel, Int.sub_zero, Int.sub_self, S_210_0, S_210_1, S_210_4, S_210_5, S_210_6, S_210_8, S_210_11, S_210_12, S_210_13, S_210_14, S_210_15, S_210_18, S_210_21, S_210_22, S_210_23, S_210_26, S_210_27, S_210_28, S_210_31, S_210_32, S_210_33, S_210_36, S_210_37, S_210_38, S_210_41, S_210_42, S_210_43, S_210_46, S_210_47, S_210_48, S_210_51, S_210_52, S_210_53, S_210_56, S_210_57, S_210_58, S_210_61, S_210_62, S_210_63, S_210_66, S_210_67, S_210_68, S_210_71, S_210_72, S_210_76, S_210_79, S_210_82, S_210_83, S_210_86, S_210_87, S_210_90, S_210_91, S_210_94, S_210_97, S_210_98, S_210_101, S_210_132, S_210_133, S_210_136, S_210_139, S_210_140, S_210_143, S_210_146, S_210_147, S_210_150, S_210_153, S_210_154, S_210_157, S_210_160, S_210_161, S_210_164, S_210_167, S_210_168, S_210_169, S_210_172, S_210_175, S_210_176, S_210_177, S_210_180, S_210_183, S_210_184, S_210_187, S_210_190, S_210_191, S_210_192, S_210_193, S_210_194, S_210_197, S_210_198, S_210_199, S_210_202, S_210_203, S_210_206, S_210_207, S_210_208, S_210_209, S_210_210, S_210_211, S_210_212, S_210_213, S_210_216, S_210_217, S_210_218, S_210_219, S_210_220, H_122, h16, h25]))
  exact g
theorem at_1 (h16 : s 122016 0 = 0) (h25 : s 122025 0 = 1) (g : ∀ Q', (∀ s', At X d Q s' → Q' none (hp X s')) → Wp (d + 4) 201 0 [.ref 122, .float 0] [] (hp X s) Q') : At X d Q s := by
  have g := g (Kt (d + 4 + 1) 210 143 [.ref 122] [] Q) (fun s' h => by
    unfold At at h
    repeat' (first | (with_reducible refine Br_i ?_ ?_ <;> (intro hbr; first | exact False.elim hbr | skip)) | (with_reducible refine Wl_i ?_) | (simp (disch := first | omega | exact okF _ | exact okI _ | exact okR _ | assumption | exact okN) only [u_at, iI_zero, iI_31, iI_add, iI_sub, iI_mul, iI_neg, ↓iI_max, ↓iI_min, iI_div, emod_f, iI_lt, iI_le, iI_inj, iI_toInt, ↓ii01, ↓ii11, ↓bI_b, bI_0, bI_1, Kt_s, Kt_n, cat0, cat1, cat2, cat3, cat4, rfV, Nat.reduceAdd, Nat.reduceMul, Nat.reduceEqDiff, Int.reduceAdd, Int.reduceSub, Int.reduceMul, Int.reduceNeg, Int.reduceLT, Int.reduceLE, Int.reduceEq, Int.reduceDiv, ↓reduceIte, ↓ite_ww, ↓ite_wi, Br_n, Br_TW, Br_FW, Br_FP, Br_FB, nn_p, and_true, true_and, and_self, true_or, or_true, not_true_eq_false, not_false_eq_true, le_T, le_F, lt_T, lt_F, eq_T, eq_F, Int.add_zero, Int.zero_add, Int.one_mul, Int.mul_one, up_eq, up_ne, Int.add_assoc, Int.add_sub_cancel, Int.sub_zero, Int.sub_self, S_210_0, S_210_1, S_210_4, S_210_5, S_210_6, S_210_8, S_210_11, S_210_12, S_210_13, S_210_14, S_210_15, S_210_18, S_210_21, S_210_22, S_210_23, S_210_26, S_210_27, S_210_28, S_210_31, S_210_32, S_210_33, S_210_36, S_210_37, S_210_38, S_210_41, S_210_42, S_210_43, S_210_46, S_210_47, S_210_48, S_210_51, S_210_52, S_210_53, S_210_56, S_210_57, S_210_58, S_210_61, S_210_62, S_210_63, S_210_66, S_210_67, S_210_68, S_210_71, S_210_72, S_210_76, S_210_79, S_210_82, S_210_83, S_210_86, S_210_87, S_210_90, S_210_91, S_210_94, S_210_97, S_210_98, S_210_101, S_210_132, S_210_133, S_210_136, S_210_139, S_210_140, S_210_143, S_210_146, S_210_147, S_210_150, S_210_153, S_210_154, S_210_157, S_210_160, S_210_161, S_210_164, S_210_167, S_210_168, S_210_169, S_210_172, S_210_175, S_210_176, S_210_177, S_210_180, S_210_183, S_210_184, S_210_187, S_210_190, S_210_191, S_210_192, S_210_193, S_210_194, S_210_197, S_210_198, S_210_199, S_210_202, S_210_203, S_210_206, S_210_207, S_210_208, S_210_209, S_210_210, S_210_211, S_210_212, S_210_213, S_210_216, S_210_217, S_210_218, S_210_219, S_210_220]))
    exact h)
  unfold At
  rw [S_210_75]
  repeat' (first | (with_reducible refine Br_i ?_ ?_ <;> (intro hbr; first | exact False.elim hbr | skip)) | (with_reducible refine Wl_i ?_) | (simp (disch := first | omega | exact okF _ | exact okI _ | exact okR _ | assumption | exact okN) only [u_at, iI_zero, iI_31, iI_add, iI_sub, iI_mul, iI_neg, ↓iI_max, ↓iI_min, iI_div, emod_f, iI_lt, iI_le, iI_inj, iI_toInt, ↓ii01, ↓ii11, ↓bI_b, bI_0, bI_1, Kt_s, Kt_n, cat0, cat1, cat2, cat3, cat4, rfV, Nat.reduceAdd, Nat.reduceMul, Nat.reduceEqDiff, Int.reduceAdd, Int.reduceSub, Int.reduceMul, Int.reduceNeg, Int.reduceLT, Int.reduceLE, Int.reduceEq, Int.reduceDiv, ↓reduceIte, ↓ite_ww, ↓ite_wi, Br_n, Br_TW, Br_FW, Br_FP, Br_FB, nn_p, and_true, true_and, and_self, true_or, or_true, not_true_eq_false, not_false_eq_true, le_T, le_F, lt_T, lt_F, eq_T, eq_F, Int.add_zero, Int.zero_add, Int.one_mul, Int.mul_one, up_eq, up_ne, Int.add_assoc, Int.add_sub_cancel, Int.sub_zero, Int.sub_self, S_210_0, S_210_1, S_210_4, S_210_5, S_210_6, S_210_8, S_210_11, S_210_12, S_210_13, S_210_14, S_210_15, S_210_18, S_210_21, S_210_22, S_210_23, S_210_26, S_210_27, S_210_28, S_210_31, S_210_32, S_210_33, S_210_36, S_210_37, S_210_38, S_210_41, S_210_42, S_210_43, S_210_46, S_210_47, S_210_48, S_210_51, S_210_52, S_210_53, S_210_56, S_210_57, S_210_58, S_210_61, S_210_62, S_210_63, S_210_66, S_210_67, S_210_68, S_210_71, S_210_72, S_210_76, S_210_79, S_210_82, S_210_83, S_210_86, S_210_87, S_210_90, S_210_91, S_210_94, S_210_97, S_210_98, S_210_101, S_210_132, S_210_133, S_210_136, S_210_139, S_210_140, S_210_143, S_210_146, S_210_147, S_210_150, S_210_153, S_210_154, S_210_157, S_210_160, S_210_161, S_210_164, S_210_167, S_210_168, S_210_169, S_210_172, S_210_175, S_210_176, S_210_177, S_210_180, S_210_183, S_210_184, S_210_187, S_210_190, S_210_191, S_210_192, S_210_193, S_210_194, S_210_197, S_210_198, S_210_199, S_210_202, S_210_203, S_210_206, S_210_207, S_210_208, S_210_209, S_210_210, S_210_211, S_210_212, S_210_213, S_210_216, S_210_217, S_210_218, S_210_219, S_210_220, H_122, h16, h25]))
  exact g
theorem at_2 (h16 : s 122016 0 = 0) (h25 : s 122025 0 = 2) (g : ∀ Q', (∀ s', At X d Q s' → Q' none (hp X s')) → Wp (d + 4) 205 0 [.ref 122, .float 0, .float 0] [] (hp X s) Q') : At X d Q s := by
  have g := g (Kt (d + 4 + 1) 210 150 [.ref 122] [] Q) (fun s' h => by
    unfold At at h
    repeat' (first | (with_reducible refine Br_i ?_ ?_ <;> (intro hbr; first | exact False.elim hbr | skip)) | (with_reducible refine Wl_i ?_) | (simp (disch := first | omega | exact okF _ | exact okI _ | exact okR _ | assumption | exact okN) only [u_at, iI_zero, iI_31, iI_add, iI_sub, iI_mul, iI_neg, ↓iI_max, ↓iI_min, iI_div, emod_f, iI_lt, iI_le, iI_inj, iI_toInt, ↓ii01, ↓ii11, ↓bI_b, bI_0, bI_1, Kt_s, Kt_n, cat0, cat1, cat2, cat3, cat4, rfV, Nat.reduceAdd, Nat.reduceMul, Nat.reduceEqDiff, Int.reduceAdd, Int.reduceSub, Int.reduceMul, Int.reduceNeg, Int.reduceLT, Int.reduceLE, Int.reduceEq, Int.reduceDiv, ↓reduceIte, ↓ite_ww, ↓ite_wi, Br_n, Br_TW, Br_FW, Br_FP, Br_FB, nn_p, and_true, true_and, and_self, true_or, or_true, not_true_eq_false, not_false_eq_true, le_T, le_F, lt_T, lt_F, eq_T, eq_F, Int.add_zero, Int.zero_add, Int.one_mul, Int.mul_one, up_eq, up_ne, Int.add_assoc, Int.add_sub_cancel, Int.sub_zero, Int.sub_self, S_210_0, S_210_1, S_210_4, S_210_5, S_210_6, S_210_8, S_210_11, S_210_12, S_210_13, S_210_14, S_210_15, S_210_18, S_210_21, S_210_22, S_210_23, S_210_26, S_210_27, S_210_28, S_210_31, S_210_32, S_210_33, S_210_36, S_210_37, S_210_38, S_210_41, S_210_42, S_210_43, S_210_46, S_210_47, S_210_48, S_210_51, S_210_52, S_210_53, S_210_56, S_210_57, S_210_58, S_210_61, S_210_62, S_210_63, S_210_66, S_210_67, S_210_68, S_210_71, S_210_72, S_210_76, S_210_79, S_210_82, S_210_83, S_210_86, S_210_87, S_210_90, S_210_91, S_210_94, S_210_97, S_210_98, S_210_101, S_210_132, S_210_133, S_210_136, S_210_139, S_210_140, S_210_143, S_210_146, S_210_147, S_210_150, S_210_153, S_210_154, S_210_157, S_210_160, S_210_161, S_210_164, S_210_167, S_210_168, S_210_169, S_210_172, S_210_175, S_210_176, S_210_177, S_210_180, S_210_183, S_210_184, S_210_187, S_210_190, S_210_191, S_210_192, S_210_193, S_210_194, S_210_197, S_210_198, S_210_199, S_210_202, S_210_203, S_210_206, S_210_207, S_210_208, S_210_209, S_210_210, S_210_211, S_210_212, S_210_213, S_210_216, S_210_217, S_210_218, S_210_219, S_210_220]))
    exact h)
  unfold At
  rw [S_210_75]
  repeat' (first | (with_reducible refine Br_i ?_ ?_ <;> (intro hbr; first | exact False.elim hbr | skip)) | (with_reducible refine Wl_i ?_) | (simp (disch := first | omega | exact okF _ | exact okI _ | exact okR _ | assumption | exact okN) only [u_at, iI_zero, iI_31, iI_add, iI_sub, iI_mul, iI_neg, ↓iI_max, ↓iI_min, iI_div, emod_f, iI_lt, iI_le, iI_inj, iI_toInt, ↓ii01, ↓ii11, ↓bI_b, bI_0, bI_1, Kt_s, Kt_n, cat0, cat1, cat2, cat3, cat4, rfV, Nat.reduceAdd, Nat.reduceMul, Nat.reduceEqDiff, Int.reduceAdd, Int.reduceSub, Int.reduceMul, Int.reduceNeg, Int.reduceLT, Int.reduceLE, Int.reduceEq, Int.reduceDiv, ↓reduceIte, ↓ite_ww, ↓ite_wi, Br_n, Br_TW, Br_FW, Br_FP, Br_FB, nn_p, and_true, true_and, and_self, true_or, or_true, not_true_eq_false, not_false_eq_true, le_T, le_F, lt_T, lt_F, eq_T, eq_F, Int.add_zero, Int.zero_add, Int.one_mul, Int.mul_one, up_eq, up_ne, Int.add_assoc, Int.add_sub_cancel, Int.sub_zero, Int.sub_self, S_210_0, S_210_1, S_210_4, S_210_5, S_210_6, S_210_8, S_210_11, S_210_12, S_210_13, S_210_14, S_210_15, S_210_18, S_210_21, S_210_22, S_210_23, S_210_26, S_210_27, S_210_28, S_210_31, S_210_32, S_210_33, S_210_36, S_210_37, S_210_38, S_210_41, S_210_42, S_210_43, S_210_46, S_210_47, S_210_48, S_210_51, S_210_52, S_210_53, S_210_56, S_210_57, S_210_58, S_210_61, S_210_62, S_210_63, S_210_66, S_210_67, S_210_68, S_210_71, S_210_72, S_210_76, S_210_79, S_210_82, S_210_83, S_210_86, S_210_87, S_210_90, S_210_91, S_210_94, S_210_97, S_210_98, S_210_101, S_210_132, S_210_133, S_210_136, S_210_139, S_210_140, S_210_143, S_210_146, S_210_147, S_210_150, S_210_153, S_210_154, S_210_157, S_210_160, S_210_161, S_210_164, S_210_167, S_210_168, S_210_169, S_210_172, S_210_175, S_210_176, S_210_177, S_210_180, S_210_183, S_210_184, S_210_187, S_210_190, S_210_191, S_210_192, S_210_193, S_210_194, S_210_197, S_210_198, S_210_199, S_210_202, S_210_203, S_210_206, S_210_207, S_210_208, S_210_209, S_210_210, S_210_211, S_210_212, S_210_213, S_210_216, S_210_217, S_210_218, S_210_219, S_210_220, H_122, h16, h25]))
  exact g
theorem at_3 (h16 : s 122016 0 = 0) (h25 : s 122025 0 = 3) (g : ∀ Q', (∀ s', At X d Q s' → Q' none (hp X s')) → Wp (d + 4) 206 0 [.ref 122] [] (hp X s) Q') : At X d Q s := by
  have g := g (Kt (d + 4 + 1) 210 157 [.ref 122] [] Q) (fun s' h => by
    unfold At at h
    repeat' (first | (with_reducible refine Br_i ?_ ?_ <;> (intro hbr; first | exact False.elim hbr | skip)) | (with_reducible refine Wl_i ?_) | (simp (disch := first | omega | exact okF _ | exact okI _ | exact okR _ | assumption | exact okN) only [u_at, iI_zero, iI_31, iI_add, iI_sub, iI_mul, iI_neg, ↓iI_max, ↓iI_min, iI_div, emod_f, iI_lt, iI_le, iI_inj, iI_toInt, ↓ii01, ↓ii11, ↓bI_b, bI_0, bI_1, Kt_s, Kt_n, cat0, cat1, cat2, cat3, cat4, rfV, Nat.reduceAdd, Nat.reduceMul, Nat.reduceEqDiff, Int.reduceAdd, Int.reduceSub, Int.reduceMul, Int.reduceNeg, Int.reduceLT, Int.reduceLE, Int.reduceEq, Int.reduceDiv, ↓reduceIte, ↓ite_ww, ↓ite_wi, Br_n, Br_TW, Br_FW, Br_FP, Br_FB, nn_p, and_true, true_and, and_self, true_or, or_true, not_true_eq_false, not_false_eq_true, le_T, le_F, lt_T, lt_F, eq_T, eq_F, Int.add_zero, Int.zero_add, Int.one_mul, Int.mul_one, up_eq, up_ne, Int.add_assoc, Int.add_sub_cancel, Int.sub_zero, Int.sub_self, S_210_0, S_210_1, S_210_4, S_210_5, S_210_6, S_210_8, S_210_11, S_210_12, S_210_13, S_210_14, S_210_15, S_210_18, S_210_21, S_210_22, S_210_23, S_210_26, S_210_27, S_210_28, S_210_31, S_210_32, S_210_33, S_210_36, S_210_37, S_210_38, S_210_41, S_210_42, S_210_43, S_210_46, S_210_47, S_210_48, S_210_51, S_210_52, S_210_53, S_210_56, S_210_57, S_210_58, S_210_61, S_210_62, S_210_63, S_210_66, S_210_67, S_210_68, S_210_71, S_210_72, S_210_76, S_210_79, S_210_82, S_210_83, S_210_86, S_210_87, S_210_90, S_210_91, S_210_94, S_210_97, S_210_98, S_210_101, S_210_132, S_210_133, S_210_136, S_210_139, S_210_140, S_210_143, S_210_146, S_210_147, S_210_150, S_210_153, S_210_154, S_210_157, S_210_160, S_210_161, S_210_164, S_210_167, S_210_168, S_210_169, S_210_172, S_210_175, S_210_176, S_210_177, S_210_180, S_210_183, S_210_184, S_210_187, S_210_190, S_210_191, S_210_192, S_210_193, S_210_194, S_210_197, S_210_198, S_210_199, S_210_202, S_210_203, S_210_206, S_210_207, S_210_208, S_210_209, S_210_210, S_210_211, S_210_212, S_210_213, S_210_216, S_210_217, S_210_218, S_210_219, S_210_220]))
    exact h)
  unfold At
  rw [S_210_75]
  repeat' (first | (with_reducible refine Br_i ?_ ?_ <;> (intro hbr; first | exact False.elim hbr | skip)) | (with_reducible refine Wl_i ?_) | (simp (disch := first | omega | exact okF _ | exact okI _ | exact okR _ | assumption | exact okN) only [u_at, iI_zero, iI_31, iI_add, iI_sub, iI_mul, iI_neg, ↓iI_max, ↓iI_min, iI_div, emod_f, iI_lt, iI_le, iI_inj, iI_toInt, ↓ii01, ↓ii11, ↓bI_b, bI_0, bI_1, Kt_s, Kt_n, cat0, cat1, cat2, cat3, cat4, rfV, Nat.reduceAdd, Nat.reduceMul, Nat.reduceEqDiff, Int.reduceAdd, Int.reduceSub, Int.reduceMul, Int.reduceNeg, Int.reduceLT, Int.reduceLE, Int.reduceEq, Int.reduceDiv, ↓reduceIte, ↓ite_ww, ↓ite_wi, Br_n, Br_TW, Br_FW, Br_FP, Br_FB, nn_p, and_true, true_and, and_self, true_or, or_true, not_true_eq_false, not_false_eq_true, le_T, le_F, lt_T, lt_F, eq_T, eq_F, Int.add_zero, Int.zero_add, Int.one_mul, Int.mul_one, up_eq, up_ne, Int.add_assoc, Int.add_sub_cancel, Int.sub_zero, Int.sub_self, S_210_0, S_210_1, S_210_4, S_210_5, S_210_6, S_210_8, S_210_11, S_210_12, S_210_13, S_210_14, S_210_15, S_210_18, S_210_21, S_210_22, S_210_23, S_210_26, S_210_27, S_210_28, S_210_31, S_210_32, S_210_33, S_210_36, S_210_37, S_210_38, S_210_41, S_210_42, S_210_43, S_210_46, S_210_47, S_210_48, S_210_51, S_210_52, S_210_53, S_210_56, S_210_57, S_210_58, S_210_61, S_210_62, S_210_63, S_210_66, S_210_67, S_210_68, S_210_71, S_210_72, S_210_76, S_210_79, S_210_82, S_210_83, S_210_86, S_210_87, S_210_90, S_210_91, S_210_94, S_210_97, S_210_98, S_210_101, S_210_132, S_210_133, S_210_136, S_210_139, S_210_140, S_210_143, S_210_146, S_210_147, S_210_150, S_210_153, S_210_154, S_210_157, S_210_160, S_210_161, S_210_164, S_210_167, S_210_168, S_210_169, S_210_172, S_210_175, S_210_176, S_210_177, S_210_180, S_210_183, S_210_184, S_210_187, S_210_190, S_210_191, S_210_192, S_210_193, S_210_194, S_210_197, S_210_198, S_210_199, S_210_202, S_210_203, S_210_206, S_210_207, S_210_208, S_210_209, S_210_210, S_210_211, S_210_212, S_210_213, S_210_216, S_210_217, S_210_218, S_210_219, S_210_220, H_122, h16, h25]))
  exact g
/-- the waiting operators stand in frames up to f -/
def WOK (f : Int) (W : List (Int × Int)) : Prop := ∀ x ∈ W, (0 ≤ x.2 ∧ x.2 ≤ f) ∧ (-2147483648 ≤ x.1 ∧ x.1 < 2147483648)
theorem WOK_low {W : List (Int × Int)} {f g r : Int} (h : WOK f W) (hf : f < g) (hg : g < 1000) : Low r g W := by
  cases W with
  | nil => trivial
  | cons x W =>
    have := h x List.mem_cons_self
    exact ⟨⟨this.2, by omega⟩, fun e => by omega⟩
theorem WOK_up {W : List (Int × Int)} {f g : Int} (h : WOK f W) (hf : f ≤ g) : WOK g W := fun x hx => by have := h x hx; omega
theorem WOK_cons {W : List (Int × Int)} {f : Int} {x : Int × Int} (h : WOK f W) (hx : (0 ≤ x.2 ∧ x.2 ≤ f) ∧ (-2147483648 ≤ x.1 ∧ x.1 < 2147483648)) : WOK f (x :: W) := fun y hy => by
  rcases List.mem_cons.mp hy with e | e
  · rw [e]; exact hx
  · exact h y e
/-- a fault at the end -/
def kEr (X : hX) (d : Nat) (Q : Option Value → aH → Prop) (B : Int → Int) (n : Int) (s : sg) (r : prr) : Prop := ¬ r.1 = 0 → ∀ s', Fr ML s s' → s' 122016 0 = r.1 → s' 122017 0 = pla B n r.2.1 → At X d Q s'
def SimOne (X : hX) (d : Nat) (Q : Option Value → aH → Prop) (B : Int → Int) (n w T : Int) (e : Nat) : Prop := ∀ (k : Nat) (q : Int × Int) (F W : List (Int × Int)) (s : sg) (c : opl) (j : Int), MTK s B n j → j ≤ T → MR s (List.replicate k (7, 0) ++ q :: F) W (8 - e) c → s 122025 0 = 1 → s 122027 0 = w → (¬ q.1 = 7 ∧ 1 ≤ q.1 ∧ q.1 ≤ 7) → k + F.length + 1 + e ≤ 10 → (W.length : Int) ≤ 2 * (F.length + 1) → WOK (F.length + 1) W → (c.length : Int) + W.length + (k + F.length + 1) ≤ j + 2 →
  ((pOne (kd B n) (nu B n) w e j).1 = 0 → ∀ s', Fr ML s s' → MTK s' B n (pOne (kd B n) (nu B n) w e j).2.1 → MR s' (q :: F) W (8 - e - k) (c ++ (pOne (kd B n) (nu B n) w e j).2.2 ++ List.replicate k (402, 0)) → s' 122025 0 = 2 → At X d Q s') → kEr X d Q B n s (pOne (kd B n) (nu B n) w e j) → At X d Q s
/-- a loop's reading: the operators p wait, of the rank r at least -/
def SimL (X : hX) (d : Nat) (Q : Option Value → aH → Prop) (B : Int → Int) (n w T : Int) (e : Nat) (sub : Int → prr) (r : Int) (m : Nat) (ex : Int → Prop) (st1 st2 : Int) : Prop := ∀ (q : Int × Int) (F W : List (Int × Int)) (s : sg) (c : opl) (j : Int), MTK s B n j → j ≤ T → MR s (q :: F) W (8 - e) c → s 122025 0 = st1 → s 122027 0 = w → (¬ q.1 = 7 ∧ ¬ q.1 = 3 ∧ 1 ≤ q.1 ∧ q.1 ≤ 7) → F.length + 1 + e ≤ 10 → (W.length : Int) + m ≤ 2 * (F.length + 1) → WOK (F.length + 1) W → Low r (F.length + 1) W → (c.length : Int) + W.length + (F.length + 1) ≤ j + 2 →
  ((sub j).1 = 0 → ∀ (s' : sg) (p : List Int) (e' : opl), Fr ML s s' → MTK s' B n (sub j).2.1 → MR s' (q :: F) (p.map (fun o => (o, (((q :: F).length : Nat) : Int))) ++ W) (8 - e) e' → e' ++ p.map (fun o => (o, 0)) = c ++ (sub j).2.2 → (∀ o ∈ p, r ≤ rkk o ∧ (-2147483648 ≤ o ∧ o < 2147483648)) → p.length ≤ m → ex (kd B n (sub j).2.1) → s' 122025 0 = st2 → At X d Q s') → kEr X d Q B n s (sub j) → At X d Q s
theorem sim_prod (hnn : 0 ≤ n) (hT : kd B n T = 16 ∧ 0 ≤ T ∧ T ≤ 300) {e : Nat} (S : SimOne X d Q B n w T e) : SimL X d Q B n w T e (pProd (kd B n) (pOne (kd B n) (nu B n) w e)) 4 1 (fun k => ¬ isMul k) 1 2 := by
  intro q F W s c j T0 jT M h25 h27 hq hF hW hWK hL hphi kS kE
  have j0 := T0.2.2.2.2
  have g := pOne_g (K := kd B n) w (nu_p (B := B) hnn) e
  have hw : ∀ s', Fr ML s s' → s' 122027 0 = w := fun s' f' => by rw [f'.g 122027 rfl]; exact h27
  have el : (((q :: F).length : Nat) : Int) = F.length + 1 := by simp
  have loop : ∀ (f : Nat) (j1 : Int) (c1 e1 : opl) (p : List Int) (s1 : sg), 300 ≤ f + j1 → (j < j1 ∧ j1 ≤ T) → Fr ML s s1 → MTK s1 B n j1 → MR s1 (q :: F) (p.map (fun o => (o, (((q :: F).length : Nat) : Int))) ++ W) (8 - e) e1 → e1 ++ p.map (fun o => (o, 0)) = c ++ c1 → (∀ o ∈ p, 4 ≤ rkk o ∧ (-2147483648 ≤ o ∧ o < 2147483648)) → p.length ≤ 1 → (c1.length : Int) ≤ j1 - j → s1 122025 0 = 2 → pLp (kd B n) isMul (pOne (kd B n) (nu B n) w e) sgT f j1 c1 = pProd (kd B n) (pOne (kd B n) (nu B n) w e) j → At X d Q s1 := by
    intro f
    induction f with
    | zero =>
      intro j1 c1 e1 p s1 hf hj1 fr T1 M1 he hp1 hpl hcl h251 hr
      have ej : j1 = T := by omega
      have er : pProd (kd B n) (pOne (kd B n) (nu B n) w e) j = (0, j1, c1) := hr.symm
      rw [er] at kS
      exact kS rfl s1 p e1 fr T1 M1 he hp1 hpl (by show ¬ isMul (kd B n j1); rw [ej, hT.1]; unfold isMul; omega) h251
    | succ f ih =>
      intro j1 c1 e1 p s1 hf hj1 fr T1 M1 he hp1 hpl hcl h251 hr
      rw [pLp] at hr
      have lc : (e1.length : Int) + p.length = c.length + c1.length := by
        have q := congrArg List.length he
        simp at q
        omega
      by_cases cm : isMul (kd B n j1)
      · rw [if_pos cm] at hr
        have nT : ¬ j1 = T := fun x => by rw [x, hT.1] at cm; unfold isMul at cm; omega
        have hop : isOp (kd B n j1) := by unfold isOp; unfold isMul at cm; omega
        have so := sgT_op hop
        have rk := so.2.1 cm
        refine at_2 M1.1 h251 fun Q' hQ => ?_
        refine g_op T1 hop ⟨hq.2.2.1, hq.2.2.2⟩ M1 (by rw [rk]; exact hp1) (by rw [rk, el]; exact hL) ⟨by omega, by omega, by omega⟩ fun s2 f2 T2 M2 h252 => hQ s2 ?_
        rw [he] at M2
        obtain ⟨g1, g2, _⟩ := g (j1 + 1) (by omega)
        have gT := Gd_T g (show 0 ≤ j1 + 1 by omega) hT.1 (by omega)
        refine S 0 q F ((sgT (kd B n j1), (((q :: F).length : Nat) : Int)) :: W) s2 (c ++ c1) (j1 + 1) T2 (by omega) M2 h252 (hw s2 (fr.tr f2)) ⟨hq.1, hq.2.2⟩ (by omega) (by simp; omega) (WOK_cons hWK ⟨by rw [el]; omega, by omega⟩) (by simp; omega) (fun z s3 f3 T3 M3 h253 => ?_) (fun z s3 f3 h16 h17 => ?_)
        · rw [if_pos z] at hr
          obtain ⟨g3, g4, _⟩ := g2 z
          simp only [List.replicate, List.append_nil] at M3
          have e0 : (8 : Int) - e - ((0 : Nat) : Int) = 8 - e := by omega
          rw [e0] at M3
          exact ih (pOne (kd B n) (nu B n) w e (j1 + 1)).2.1 (c1 ++ (pOne (kd B n) (nu B n) w e (j1 + 1)).2.2 ++ [(sgT (kd B n j1), 0)]) _ [sgT (kd B n j1)] s3 (by omega) (by omega) ((fr.tr f2).tr f3) T3 M3 (by simp) (fun o ho => by rw [List.mem_singleton] at ho; subst ho; omega) (by simp) (by simp; omega) h253 hr
        · rw [if_neg z] at hr
          exact kE (by rw [← hr]; exact z) s3 ((fr.tr f2).tr f3) (by rw [← hr]; exact h16) (by rw [← hr]; exact h17)
      · rw [if_neg cm] at hr
        rw [← hr] at kS
        exact kS rfl s1 p e1 fr T1 M1 he hp1 hpl cm h251
  obtain ⟨g1, g2, _⟩ := g j j0
  have gT := Gd_T g j0 hT.1 jT
  refine S 0 q F W s c j T0 jT M h25 h27 ⟨hq.1, hq.2.2⟩ (by omega) (by omega) hWK (by omega) (fun z s1 f1 T1 M1 h251 => ?_) (fun z s1 f1 h16 h17 => ?_)
  · obtain ⟨g3, g4, _⟩ := g2 z
    simp only [List.replicate, List.append_nil] at M1
    have e0 : (8 : Int) - e - ((0 : Nat) : Int) = 8 - e := by omega
    rw [e0] at M1
    exact loop 300 _ _ _ [] s1 (by omega) (by omega) f1 T1 M1 (by simp) (fun o ho => by cases ho) (by simp) g4 h251 (if_pos z).symm
  · have er : pProd (kd B n) (pOne (kd B n) (nu B n) w e) j = ((pOne (kd B n) (nu B n) w e j).1, (pOne (kd B n) (nu B n) w e j).2.1, []) := if_neg z
    exact kE (by rw [er]; exact z) s1 f1 (by rw [er]; exact h16) (by rw [er]; exact h17)
theorem sim_sum (hnn : 0 ≤ n) (hT : kd B n T = 16 ∧ 0 ≤ T ∧ T ≤ 300) {e : Nat} (S : SimL X d Q B n w T e (pProd (kd B n) (pOne (kd B n) (nu B n) w e)) 4 1 (fun k => ¬ isMul k) 1 2) : SimL X d Q B n w T e (pSum (kd B n) (pOne (kd B n) (nu B n) w e)) 3 2 (fun k => ¬ isOp k) 1 2 := by
  intro q F W s c j T0 jT M h25 h27 hq hF hW hWK hL hphi kS kE
  have j0 := T0.2.2.2.2
  have g := pProd_g (K := kd B n) (pOne_g (K := kd B n) w (nu_p (B := B) hnn) e)
  have er0 : pSum (kd B n) (pOne (kd B n) (nu B n) w e) j = pLoop (kd B n) isAdd (pProd (kd B n) (pOne (kd B n) (nu B n) w e)) sgT j := rfl
  have hw : ∀ s', Fr ML s s' → s' 122027 0 = w := fun s' f' => by rw [f'.g 122027 rfl]; exact h27
  have el : (((q :: F).length : Nat) : Int) = F.length + 1 := by simp
  have hL4 : Low 4 (F.length + 1) W := by
    cases W with
    | nil => trivial
    | cons x W => exact ⟨hL.1, fun y => by have := hL.2 y; omega⟩
  rw [er0] at kS kE
  generalize pProd (kd B n) (pOne (kd B n) (nu B n) w e) = sub at *
  have loop : ∀ (f : Nat) (j1 : Int) (c1 e1 : opl) (p : List Int) (s1 : sg), 300 ≤ f + j1 → (j < j1 ∧ j1 ≤ T) → Fr ML s s1 → MTK s1 B n j1 → MR s1 (q :: F) (p.map (fun o => (o, (((q :: F).length : Nat) : Int))) ++ W) (8 - e) e1 → e1 ++ p.map (fun o => (o, 0)) = c ++ c1 → (∀ o ∈ p, 3 ≤ rkk o ∧ (-2147483648 ≤ o ∧ o < 2147483648)) → p.length ≤ 2 → (c1.length : Int) ≤ j1 - j → ¬ isMul (kd B n j1) → s1 122025 0 = 2 → pLp (kd B n) isAdd sub sgT f j1 c1 = pLoop (kd B n) isAdd sub sgT j → At X d Q s1 := by
    intro f
    induction f with
    | zero =>
      intro j1 c1 e1 p s1 hf hj1 fr T1 M1 he hp1 hpl hcl hnm h251 hr
      have ej : j1 = T := by omega
      have er : pLoop (kd B n) isAdd sub sgT j = (0, j1, c1) := hr.symm
      rw [er] at kS
      exact kS rfl s1 p e1 fr T1 M1 he hp1 hpl (by show ¬ isOp (kd B n j1); rw [ej, hT.1]; unfold isOp; omega) h251
    | succ f ih =>
      intro j1 c1 e1 p s1 hf hj1 fr T1 M1 he hp1 hpl hcl hnm h251 hr
      rw [pLp] at hr
      have lc : (e1.length : Int) + p.length = c.length + c1.length := by
        have q := congrArg List.length he
        simp at q
        omega
      by_cases cm : isAdd (kd B n j1)
      · rw [if_pos cm] at hr
        have nT : ¬ j1 = T := fun x => by rw [x, hT.1] at cm; unfold isAdd at cm; omega
        have hop : isOp (kd B n j1) := by unfold isOp; unfold isAdd at cm; omega
        have so := sgT_op hop
        have rk := so.2.2 cm
        refine at_2 M1.1 h251 fun Q' hQ => ?_
        refine g_op T1 hop ⟨hq.2.2.1, hq.2.2.2⟩ M1 (by rw [rk]; exact hp1) (by rw [rk, el]; exact hL) ⟨by omega, by omega, by omega⟩ fun s2 f2 T2 M2 h252 => hQ s2 ?_
        rw [he] at M2
        obtain ⟨g1, g2, _⟩ := g (j1 + 1) (by omega)
        have gT := Gd_T g (show 0 ≤ j1 + 1 by omega) hT.1 (by omega)
        refine S q F ((sgT (kd B n j1), (((q :: F).length : Nat) : Int)) :: W) s2 (c ++ c1) (j1 + 1) T2 (by omega) M2 h252 (hw s2 (fr.tr f2)) hq hF (by simp; omega) (WOK_cons hWK ⟨by rw [el]; omega, by omega⟩) ⟨⟨by omega, by show _ ≤ (((q :: F).length : Nat) : Int) ∧ (((q :: F).length : Nat) : Int) < _; rw [el]; omega⟩, fun _ => by rw [rk]; omega⟩ (by simp; omega) (fun z s3 p3 e3 f3 T3 M3 he3 hp3 hl3 hx3 h253 => ?_) (fun z s3 f3 h16 h17 => ?_)
        · rw [if_pos z] at hr
          obtain ⟨g3, g4, _⟩ := g2 z
          exact ih (sub (j1 + 1)).2.1 (c1 ++ (sub (j1 + 1)).2.2 ++ [(sgT (kd B n j1), 0)]) e3 (p3 ++ [sgT (kd B n j1)]) s3 (by omega) (by omega) ((fr.tr f2).tr f3) T3 (by
            have q : (p3 ++ [sgT (kd B n j1)]).map (fun o => (o, (((q :: F).length : Nat) : Int))) ++ W = p3.map (fun o => (o, (((q :: F).length : Nat) : Int))) ++ (sgT (kd B n j1), (((q :: F).length : Nat) : Int)) :: W := by simp
            rw [q]
            exact M3) (by
            rw [List.map_append, ← List.append_assoc, he3]
            simp) (fun o ho => by
            rcases List.mem_append.mp ho with y | y
            · have := hp3 o y
              omega
            · rw [List.mem_singleton] at y
              subst y
              omega) (by simp; omega) (by simp; omega) hx3 h253 hr
        · rw [if_neg z] at hr
          exact kE (by rw [← hr]; exact z) s3 ((fr.tr f2).tr f3) (by rw [← hr]; exact h16) (by rw [← hr]; exact h17)
      · rw [if_neg cm] at hr
        rw [← hr] at kS
        exact kS rfl s1 p e1 fr T1 M1 he hp1 hpl (by show ¬ isOp (kd B n j1); unfold isMul at hnm; unfold isAdd at cm; unfold isOp; omega) h251
  obtain ⟨g1, g2, _⟩ := g j j0
  have gT := Gd_T g j0 hT.1 jT
  refine S q F W s c j T0 jT M h25 h27 hq hF (by omega) hWK hL4 hphi (fun z s1 p1 e1 f1 T1 M1 he1 hp1 hl1 hx1 h251 => ?_) (fun z s1 f1 h16 h17 => ?_)
  · obtain ⟨g3, g4, _⟩ := g2 z
    exact loop 300 _ _ e1 p1 s1 (by omega) (by omega) f1 T1 M1 he1 (fun o ho => by have := hp1 o ho; omega) (by omega) g4 hx1 h251 (if_pos z).symm
  · have er : pLoop (kd B n) isAdd sub sgT j = ((sub j).1, (sub j).2.1, []) := if_neg z
    exact kE (by rw [er]; exact z) s1 f1 (by rw [er]; exact h16) (by rw [er]; exact h17)
noncomputable def oneR (K V : Int → Int) (w j : Int) : Nat → prr
  | 0 => (3, j, [])
  | e + 1 => if K j = 28 then pIn K (pSum K (pOne K V w e)) (j + 1) else pNg (pOne K V w e) (j + 1)
theorem pOne_r {K V : Int → Int} {w j : Int} : ∀ e, pOne K V w e j = oneF K V w j (oneR K V w j e)
  | 0 => pOne_0
  | e + 1 => pOne_s
theorem sim_pre (hnn : 0 ≤ n) (hw4 : 0 ≤ w ∧ w ≤ 4) {e k : Nat} {q : Int × Int} {F W : List (Int × Int)} {c : opl} {j : Int} (T0 : MTK s B n j) (M : MR s (List.replicate k (7, 0) ++ q :: F) W (8 - e) c) (h25 : s 122025 0 = 1) (h27 : s 122027 0 = w) (hq : ¬ q.1 = 7 ∧ 1 ≤ q.1 ∧ q.1 ≤ 7) (hF : k + F.length + 1 + e ≤ 10) (hj : j ≤ 300) (hphi : (c.length : Int) + W.length + (k + F.length + 1) ≤ j + 2)
    (kS : (pOne (kd B n) (nu B n) w e j).1 = 0 → ∀ s', Fr ML s s' → MTK s' B n (pOne (kd B n) (nu B n) w e j).2.1 → MR s' (q :: F) W (8 - e - k) (c ++ (pOne (kd B n) (nu B n) w e j).2.2 ++ List.replicate k (402, 0)) → s' 122025 0 = 2 → At X d Q s') (kE : kEr X d Q B n s (pOne (kd B n) (nu B n) w e j))
    (hrest : (kd B n j = 28 ∨ kd B n j = 25) → pOne (kd B n) (nu B n) w e j = oneR (kd B n) (nu B n) w j e → At X d Q s) : At X d Q s := by
  have j0 := T0.2.2.2.2
  have kr := (kd_r (B := B) (n := n) (j := j) hnn j0).1
  have ers : ∀ f, pOne (kd B n) (nu B n) w e j = (f, j, []) → ¬ f = 0 → ∀ s', Fr ML s s' → s' 122016 0 = f → s' 122017 0 = pla B n j → At X d Q s' := fun f er hf s' f' h16 h17 => kE (by rw [er]; exact hf) s' f' (by rw [er]; exact h16) (by rw [er]; exact h17)
  have h16 := M.1
  have gone : ∀ qq : Int × Int, pOne (kd B n) (nu B n) w e j = (0, j + 1, [qq]) → ((kd B n j = 15 ∧ ¬ 10000 ≤ nu B n j ∧ qq = (400, nu B n j)) ∨ ((5 ≤ kd B n j ∧ kd B n j ≤ 10) ∧ ¬ (9 ≤ kd B n j ∧ ¬ w = 2) ∧ qq = (401, kd B n j - 5))) → At X d Q s := by
    intro qq er hc
    rw [er] at kS
    exact at_1 h16 h25 fun Q' hQ => b_one T0 hq M ⟨by omega, by omega⟩ (by omega) ⟨h27, hw4⟩ hc fun s' f' T' M' h' => hQ s' (kS rfl s' f' T' M' h')
  have gerr : ∀ f, pOne (kd B n) (nu B n) w e j = (f, j, []) → ((kd B n j = 15 ∧ 10000 ≤ nu B n j ∧ f = 2) ∨ ((5 ≤ kd B n j ∧ kd B n j ≤ 10) ∧ (9 ≤ kd B n j ∧ ¬ w = 2) ∧ f = 5) ∨ (¬ kd B n j = 15 ∧ ¬ (5 ≤ kd B n j ∧ kd B n j ≤ 10) ∧ (¬ kd B n j = 28 ∧ ¬ kd B n j = 25) ∧ f = 1)) → At X d Q s := by
    intro f er hc
    exact at_1 h16 h25 fun Q' hQ => b_err T0 h16 ⟨h27, hw4⟩ hc fun s' f' h16' h17' => hQ s' (ers f er (by omega) s' f' h16' h17')
  have nx := pOne_r (K := kd B n) (V := nu B n) (w := w) (j := j) e
  by_cases c1 : kd B n j = 15
  · by_cases c2 : 10000 ≤ nu B n j
    · exact gerr 2 (by rw [nx]; unfold oneF; rw [if_pos c1, if_pos c2]) (Or.inl ⟨c1, c2, rfl⟩)
    · exact gone _ (by rw [nx]; unfold oneF; rw [if_pos c1, if_neg c2]) (Or.inl ⟨c1, c2, rfl⟩)
  · by_cases c2 : 5 ≤ kd B n j ∧ kd B n j ≤ 10
    · by_cases c3 : 9 ≤ kd B n j ∧ ¬ w = 2
      · exact gerr 5 (by rw [nx]; unfold oneF; rw [if_neg c1, if_pos c2, if_pos c3]) (Or.inr (Or.inl ⟨c2, c3, rfl⟩))
      · exact gone _ (by rw [nx]; unfold oneF; rw [if_neg c1, if_pos c2, if_neg c3]) (Or.inr ⟨c2, c3, rfl⟩)
    · by_cases c3 : ¬ kd B n j = 28 ∧ ¬ kd B n j = 25
      · exact gerr 1 (by rw [nx]; unfold oneF; rw [if_neg c1, if_neg c2, if_pos c3]) (Or.inr (Or.inr ⟨c1, c2, c3, rfl⟩))
      · exact hrest (by omega) (by rw [nx]; unfold oneF; rw [if_neg c1, if_neg c2, if_neg c3])
theorem sim_one (hnn : 0 ≤ n) (hT : kd B n T = 16 ∧ 0 ≤ T ∧ T ≤ 300) (hw4 : 0 ≤ w ∧ w ≤ 4) : ∀ e : Nat, e ≤ 8 → SimOne X d Q B n w T e
  | 0, he => by
    intro k q F W s c j T0 jT M h25 h27 hq hF hW hWK hphi kS kE
    refine sim_pre hnn hw4 T0 M h25 h27 hq hF (by omega) hphi kS kE fun c3 nx2 => ?_
    have nx2 : pOne (kd B n) (nu B n) w 0 j = (3, j, []) := nx2
    have h16 := M.1
    have j0 := T0.2.2.2.2
    have ers : ∀ s', Fr ML s s' → s' 122016 0 = 3 → s' 122017 0 = pla B n j → At X d Q s' := fun s' f' h16 h17 => kE (by rw [nx2]; show ¬ (3 : Int) = 0; omega) s' f' (by rw [nx2]; exact h16) (by rw [nx2]; exact h17)
    have lf : (List.replicate k ((7 : Int), (0 : Int)) ++ q :: F).length = k + F.length + 1 := by simp; omega
    refine at_1 h16 h25 fun Q' hQ => ?_
    have e8 : (8 : Int) - ((0 : Nat) : Int) = 8 := rfl
    rw [e8] at M
    by_cases c4 : kd B n j = 28
    · exact b_open (x := 6) T0 M (by omega) (by omega) (Or.inl ⟨c4, rfl⟩) (fun h => absurd h (by omega)) (fun _ s' f' h16' h17' => hQ s' (ers s' f' h16' h17'))
    · exact b_open (x := 7) T0 M (by omega) (by omega) (Or.inr ⟨by omega, rfl⟩) (fun h => absurd h (by omega)) (fun _ s' f' h16' h17' => hQ s' (ers s' f' h16' h17'))

  | e + 1, he => by
    intro k q F W s c j T0 jT M h25 h27 hq hF hW hWK hphi kS kE
    refine sim_pre hnn hw4 T0 M h25 h27 hq hF (by omega) hphi kS kE fun c3 nx2 => ?_
    have nx2 : pOne (kd B n) (nu B n) w (e + 1) j = (if kd B n j = 28 then pIn (kd B n) (pSum (kd B n) (pOne (kd B n) (nu B n) w e)) (j + 1) else pNg (pOne (kd B n) (nu B n) w e) (j + 1)) := nx2
    have h16 := M.1
    have j0 := T0.2.2.2.2
    have lf : (List.replicate k ((7 : Int), (0 : Int)) ++ q :: F).length = k + F.length + 1 := by simp; omega
    have jT2 : j < T := by
      by_cases x : j = T
      · rw [x, hT.1] at c3; omega
      · omega
    have S1 := sim_one hnn hT hw4 e (by omega)
    have ee : (8 : Int) - ((e + 1 : Nat) : Int) + 1 = 8 - e := by omega
    refine at_1 h16 h25 fun Q' hQ => ?_
    by_cases c4 : kd B n j = 28
    · have nx2 : pOne (kd B n) (nu B n) w (e + 1) j = pIn (kd B n) (pSum (kd B n) (pOne (kd B n) (nu B n) w e)) (j + 1) := by rw [nx2]; exact if_pos c4
      rw [nx2] at kS kE
      have gS1 := pSum_g (K := kd B n) (pOne_g (K := kd B n) w (nu_p (B := B) hnn) e)
      obtain ⟨g1, g2, _⟩ := gS1 (j + 1) (by omega)
      have gT := Gd_T gS1 (show 0 ≤ j + 1 by omega) hT.1 (by omega)
      have SS := sim_sum hnn hT (sim_prod hnn hT S1)
      generalize hsm : pSum (kd B n) (pOne (kd B n) (nu B n) w e) = sm at *
      refine b_open (x := 6) T0 M (by omega) (by omega) (Or.inl ⟨c4, rfl⟩) (fun _ s2 f2 h252 T2 M2 => hQ s2 ?_) (fun h => by omega)
      rw [ee] at M2
      refine SS (6, 0) (List.replicate k (7, 0) ++ q :: F) W s2 c (j + 1) T2 (by omega) M2 (by rw [h252]; exact h25) (by rw [f2.g 122027 rfl]; exact h27) (by show ¬ (6 : Int) = 7 ∧ ¬ (6 : Int) = 3 ∧ 1 ≤ (6 : Int) ∧ (6 : Int) ≤ 7; omega) (by omega) (by omega) (WOK_up hWK (by omega)) (WOK_low hWK (by omega) (by omega)) (by omega) (fun z s3 p3 e3 f3 T3 M3 he3 hp3 hl3 hx3 h253 => ?_) (fun z s3 f3 h16 h17 => ?_)
      · obtain ⟨g3, g4, _⟩ := g2 z
        have lc : (e3.length : Int) + p3.length = c.length + (sm (j + 1)).2.2.length := by
          have q := congrArg List.length he3
          simp at q
          omega
        refine at_2 M3.1 h253 fun Q' hQ => ?_
        by_cases c5 : kd B n (sm (j + 1)).2.1 = 29
        · have er : pIn (kd B n) sm (j + 1) = (0, (sm (j + 1)).2.1 + 1, (sm (j + 1)).2.2) := by unfold pIn; rw [if_pos z, if_pos c5]
          rw [er] at kS
          refine g_paren T3 c5 hq M3 hp3 (WOK_low hWK (by simp; omega) (by simp; omega)) ⟨by omega, by omega, by omega⟩ (by omega) fun s4 f4 T4 M4 h4 => hQ s4 ?_
          refine kS rfl s4 ((f2.tr f3).tr f4) T4 ?_ h4
          have eo : (8 : Int) - ((e + 1 : Nat) : Int) - k = 8 - e - 1 - k := by omega
          rw [eo, ← he3]
          exact M4
        · have er : pIn (kd B n) sm (j + 1) = (1, (sm (j + 1)).2.1, []) := by unfold pIn; rw [if_pos z, if_neg c5]
          refine g_err T3 hx3 M3 (by omega) (Or.inl ⟨rfl, c5⟩) fun s4 f4 h16 h17 => hQ s4 ?_
          exact kE (by rw [er]; show ¬ (1 : Int) = 0; omega) s4 ((f2.tr f3).tr f4) (by rw [er]; exact h16) (by rw [er]; exact h17)
      · have er : pIn (kd B n) sm (j + 1) = ((sm (j + 1)).1, (sm (j + 1)).2.1, []) := by unfold pIn; rw [if_neg z]
        exact kE (by rw [er]; exact z) s3 (f2.tr f3) (by rw [er]; exact h16) (by rw [er]; exact h17)
    · have nx2 : pOne (kd B n) (nu B n) w (e + 1) j = pNg (pOne (kd B n) (nu B n) w e) (j + 1) := by rw [nx2]; exact if_neg c4
      rw [nx2] at kS kE
      have gS1 := pOne_g (K := kd B n) w (nu_p (B := B) hnn) e
      refine b_open (x := 7) T0 M (by omega) (by omega) (Or.inr ⟨by omega, rfl⟩) (fun _ s2 f2 h252 T2 M2 => hQ s2 ?_) (fun h => by omega)
      rw [ee] at M2
      refine S1 (k + 1) q F W s2 c (j + 1) T2 (by omega) M2 (by rw [h252]; exact h25) (by rw [f2.g 122027 rfl]; exact h27) hq (by omega) hW hWK (by omega) (fun z s3 f3 T3 M3 h253 => ?_) (fun z s3 f3 h16 h17 => ?_)
      · have er : pNg (pOne (kd B n) (nu B n) w e) (j + 1) = (0, (pOne (kd B n) (nu B n) w e (j + 1)).2.1, (pOne (kd B n) (nu B n) w e (j + 1)).2.2 ++ [(402, 0)]) := if_pos z
        rw [er] at kS
        refine kS rfl s3 (f2.tr f3) T3 ?_ h253
        have eo : (8 : Int) - ((e + 1 : Nat) : Int) - k = 8 - e - ((k + 1 : Nat) : Int) := by omega
        have ec : c ++ ((pOne (kd B n) (nu B n) w e (j + 1)).2.2 ++ [(402, 0)]) ++ List.replicate k ((402 : Int), (0 : Int)) = c ++ (pOne (kd B n) (nu B n) w e (j + 1)).2.2 ++ List.replicate (k + 1) (402, 0) := by simp [List.replicate_succ]
        show MR s3 (q :: F) W (8 - ((e + 1 : Nat) : Int) - k) (c ++ ((pOne (kd B n) (nu B n) w e (j + 1)).2.2 ++ [(402, 0)]) ++ List.replicate k ((402 : Int), (0 : Int)))
        rw [eo, ec]
        exact M3
      · have er : pNg (pOne (kd B n) (nu B n) w e) (j + 1) = ((pOne (kd B n) (nu B n) w e (j + 1)).1, (pOne (kd B n) (nu B n) w e (j + 1)).2.1, []) := if_neg z
        exact kE (by rw [er]; exact z) s3 (f2.tr f3) (by rw [er]; exact h16) (by rw [er]; exact h17)
end SI
