/-! THE CLASS: wet, hours, price, bars, worth of an item -/
theorem nmF_W {f A : Int → Int} {t w n ta wa i : Int} (h : 0 ≤ i ∧ i ≤ 5) : nmF (up (up f 4 ta) 5 wa) A t w n i = nmV A t w n ta wa i := by
  have e : i = 0 ∨ i = 1 ∨ i = 2 ∨ i = 3 ∨ i = 4 ∨ i = 5 := by omega
  unfold nmF nmV
  rcases e with e | e | e | e | e | e <;> subst e <;> rfl
theorem val_FW {f A : Int → Int} {t w n ta wa : Int} {c : opl} {b : Bool} (h : tys true c [] [b]) : hd (evs (nmF (up (up f 4 ta) 5 wa) A t w n) c []) = val A c t w n ta wa := by
  unfold val
  rw [evs_cg (w := true) (nm := fun i => if i = 0 then t else if i = 1 then w else if i = 2 then A (10 + 4 * t) else if i = 3 then n else if i = 4 then ta else wa) (nm2 := nmF (up (up f 4 ta) 5 wa) A t w n) ?_ [] h]
  intro i i0 i1 i2
  exact nmF_W ⟨i0, i1⟩
theorem nmFW_ok {f A : Int → Int} {t w n ta wa : Int} (ht : WT A t) (h : (0 ≤ t ∧ t < 10) ∧ (-1000000 ≤ w ∧ w ≤ 1000000) ∧ (0 ≤ n ∧ n ≤ 3) ∧ (0 ≤ ta ∧ ta ≤ 99) ∧ 0 ≤ wa ∧ wa ≤ 1) (b : Bool) : nmOK (nmF (up (up f 4 ta) 5 wa) A t w n) b := by
  intro i i0 i1 i2
  rw [nmF_W ⟨i0, i1⟩]
  exact nmV_r ht h i
section CV
variable {d : Nat} {X : hX} {s : sg} {Q : Option Value → aH → Prop} {b t w n j : Int} {A : Int → Int} {l : lawT} {k : Nat}
theorem c_itemValue {wb tf : Bool} {c : Int × opl} (hk : isLw k) (hk8 : s 84900 0 = k) (hF : cF s k j c) (hj : 0 ≤ j ∧ j < 10) (hty : tys wb c.2 [] [tf]) (hn : nmOK (nmF (s 85) A t w n) wb) (eT : s 50 (t * 4) = A (10 + 4 * t)) (ht : 0 ≤ t ∧ t < 10) (kk : ∀ s', Fr [85, 86] s s' → Q (some (.int (iI (hd (evs (nmF (s 85) A t w n) c.2 []))))) (hp X s')) : Wp (d + 2) 61 0 [.ref 84, .int (iI j), .int (iI t), .int (iI w), .int (iI n), .float 0, .float 0, .float 0, .float 0] [] (hp X s) Q := by
  have f0 : Fr [85, 86] s (u s 85 (nmF (s 85) A t w n)) := (by repeat (first | exact Fr.rf _ | refine Fr.u ?_ rfl))
  obtain ⟨F1, F2, F3, F4, F5⟩ := hF
  have kn : ¬ k + 3 = 85 ∧ ¬ k + 4 = 85 ∧ ¬ k + 1 = 85 := by unfold isLw at hk; omega
  have cL := c_cell_L hk
  have fin := c_says_l (d := d) (X := X) (Q := Q) (s0 := u s 85 (nmF (s 85) A t w n)) (wb := wb) (tf := tf) (L := c.2.length) (j := j) (v2 := .int (iI t)) (v3 := .int (iI w)) (v4 := .int (iI n)) (ce := s (k + 4) j) hk (r := hd (evs (nmF (s 85) A t w n) c.2 [])) (by rw [u_ne (by decide)]; exact hk8) hj (by rw [u_eq]; exact hn) (by omega) (fun s' f1 => kk s' (f0.tr (f1.up rfl))) c.2 _ (s (k + 3) j) 0 [] [] (.float 0) rfl (Fr.rf _) (by rw [u_ne kn.2.2]; exact F5) hty trivial rfl (by omega) (by omega) (by rw [u_eq])
  have nf : up (up (up (up (s 85) 0 t) 1 w) 2 (A (10 + 4 * t))) 3 n = nmF (s 85) A t w n := rfl
  have e84 : u s 85 (nmF (s 85) A t w n) 84900 0 = k := by rw [u_ne (by decide)]; exact hk8
  repeat' (first | (with_reducible refine Br_i ?_ ?_ <;> (intro hbr; first | exact False.elim hbr | skip)) | (with_reducible refine Wl_i ?_) | (simp (disch := first | omega | exact okF _ | exact okI _ | exact okR _ | assumption | exact okN) only [u_at, iI_zero, iI_31, iI_add, iI_sub, iI_mul, iI_neg, ↓iI_max, ↓iI_min, iI_div, emod_f, iI_lt, iI_le, iI_inj, iI_toInt, ↓ii01, ↓ii11, ↓bI_b, bI_0, bI_1, Kt_s, Kt_n, cat0, cat1, cat2, cat3, cat4, rfV, Nat.reduceAdd, Nat.reduceMul, Nat.reduceEqDiff, Int.reduceAdd, Int.reduceSub, Int.reduceMul, Int.reduceNeg, Int.reduceLT, Int.reduceLE, Int.reduceEq, Int.reduceDiv, ↓reduceIte, ↓ite_ww, ↓ite_wi, Br_n, Br_TW, Br_FW, Br_FP, Br_FB, nn_p, and_true, true_and, and_self, true_or, or_true, not_true_eq_false, not_false_eq_true, le_T, le_F, lt_T, lt_F, eq_T, eq_F, Int.add_zero, Int.zero_add, Int.one_mul, Int.mul_one, up_eq, up_ne, Int.add_assoc, Int.add_sub_cancel, Int.sub_zero, Int.sub_self, S_61_0, S_61_1, S_61_4, S_61_5, S_61_6, S_61_7, S_61_8, S_61_11, S_61_12, S_61_13, S_61_14, S_61_15, S_61_18, S_61_19, S_61_20, S_61_23, S_61_26, S_61_27, S_61_28, S_61_31, S_61_32, S_61_33, S_61_36, S_61_37, S_61_39, S_61_40, S_61_41, S_61_43, S_61_44, S_61_47, S_61_50, S_61_51, S_61_54, S_61_56, S_61_57, S_61_60, S_61_63, S_61_64, S_61_67, S_61_71, S_61_73, S_61_76, S_61_77, S_61_80, S_61_83, S_61_85, S_61_88, S_61_90, S_61_92, S_61_94, S_61_97, S_61_99, S_61_100, S_61_103, S_61_104, S_61_107, S_61_108, S_61_111, S_61_113, S_61_114, S_61_116, S_61_119, S_61_120, S_61_123, S_61_126, S_61_128, S_61_130, S_61_133, S_61_135, S_61_137, S_61_140, S_61_142, S_61_145, S_61_146, S_61_149, S_61_151, S_61_152, S_61_153, S_61_155, S_61_157, S_61_160, S_61_161, S_61_162, S_61_165, S_61_167, S_61_168, S_61_169, S_61_170, S_61_171, S_61_174, S_61_175, S_61_178, S_61_180, S_61_181, S_61_182, S_61_183, S_61_184, S_61_185, S_61_188, S_61_190, S_61_191, S_61_194, S_61_197, S_61_198, S_61_201, S_61_203, S_61_204, S_61_205, S_61_207, S_61_208, S_61_209, S_61_212, S_61_214, S_61_215, S_61_216, S_61_217, S_61_218, S_61_221, S_61_223, S_61_224, S_61_227, S_61_230, S_61_231, S_61_234, S_61_237, S_61_239, S_61_242, S_61_243, S_61_246, S_61_247, S_61_248, S_61_251, S_61_252, H_84, H_85, H_48, H_49, c_at_49, u_u, eT, nf, H_Lw hk, hk8, e84, rq_n, cL, kn]))
  exact fin
theorem fidx_n {w : Int} (h : look l w = none) : fidx l w 0 = -1 := by
  rcases fidx_r (l := l) (w := w) (i := 0) (by omega) with ⟨_, e⟩ | ⟨c, e, _⟩
  · exact e
  · rw [h] at e; cases e
theorem fidx_s {w : Int} {c : opl} (hl : lawOK l) (h : look l w = some c) : 0 ≤ fidx l w 0 ∧ fidx l w 0 < 10 := by
  have hlen := hl.1
  rcases fidx_r (l := l) (w := w) (i := 0) (by omega) with ⟨e, _⟩ | ⟨c, e, a, b⟩
  · rw [h] at e; cases e
  · omega
theorem c_wetOf (hC : curC s l) (hl : lawOK l) (eT : s 50 (t * 4) = A (10 + 4 * t)) (ht : WT A t) (h : (0 ≤ t ∧ t < 10) ∧ 0 ≤ w ∧ w ≤ 40) (kk : ∀ s', Fr [85, 86] s s' → Q (some (.int (iI (vWet A l t w)))) (hp X s')) : Wp (d + 3) 56 0 [.ref 84, .int (iI t), .int (iI w), .float 0] [] (hp X s) Q := by
  obtain ⟨k, hk, hk8, hlC⟩ := hC
  unfold vWet at kk
  cases e : look l 3 with
  | none =>
    rw [e] at kk
    repeat' (first | (with_reducible refine Br_i ?_ ?_ <;> (intro hbr; first | exact False.elim hbr | skip)) | (with_reducible refine Wl_i ?_) | (simp (disch := first | omega | exact okF _ | exact okI _ | exact okR _ | assumption | exact okN) only [u_at, iI_zero, iI_31, iI_add, iI_sub, iI_mul, iI_neg, ↓iI_max, ↓iI_min, iI_div, emod_f, iI_lt, iI_le, iI_inj, iI_toInt, ↓ii01, ↓ii11, ↓bI_b, bI_0, bI_1, Kt_s, Kt_n, cat0, cat1, cat2, cat3, cat4, rfV, Nat.reduceAdd, Nat.reduceMul, Nat.reduceEqDiff, Int.reduceAdd, Int.reduceSub, Int.reduceMul, Int.reduceNeg, Int.reduceLT, Int.reduceLE, Int.reduceEq, Int.reduceDiv, ↓reduceIte, ↓ite_ww, ↓ite_wi, Br_n, Br_TW, Br_FW, Br_FP, Br_FB, nn_p, and_true, true_and, and_self, true_or, or_true, not_true_eq_false, not_false_eq_true, le_T, le_F, lt_T, lt_F, eq_T, eq_F, Int.add_zero, Int.zero_add, Int.one_mul, Int.mul_one, up_eq, up_ne, Int.add_assoc, Int.add_sub_cancel, Int.sub_zero, Int.sub_self, S_56_0, S_56_1, S_56_4, S_56_5, S_56_8, S_56_9, S_56_10, S_56_11, S_56_14, S_56_15, S_56_18, S_56_19, S_56_21, S_56_22, S_56_23, S_56_24, S_56_25, S_56_26, S_56_29, S_56_32, S_56_35, H_84, hk8, rq_n, H_Lw hk, c_find hk hlC hl, fidx_n e]))
    exact kk s (Fr.rf s)
  | some c =>
    rw [e] at kk
    have fr := fidx_s hl e
    have ty := clo_n hl (look_in e) (by decide) (by decide)
    repeat' (first | (with_reducible refine Br_i ?_ ?_ <;> (intro hbr; first | exact False.elim hbr | skip)) | (with_reducible refine Wl_i ?_) | (simp (disch := first | omega | exact okF _ | exact okI _ | exact okR _ | assumption | exact okN) only [u_at, iI_zero, iI_31, iI_add, iI_sub, iI_mul, iI_neg, ↓iI_max, ↓iI_min, iI_div, emod_f, iI_lt, iI_le, iI_inj, iI_toInt, ↓ii01, ↓ii11, ↓bI_b, bI_0, bI_1, Kt_s, Kt_n, cat0, cat1, cat2, cat3, cat4, rfV, Nat.reduceAdd, Nat.reduceMul, Nat.reduceEqDiff, Int.reduceAdd, Int.reduceSub, Int.reduceMul, Int.reduceNeg, Int.reduceLT, Int.reduceLE, Int.reduceEq, Int.reduceDiv, ↓reduceIte, ↓ite_ww, ↓ite_wi, Br_n, Br_TW, Br_FW, Br_FP, Br_FB, nn_p, and_true, true_and, and_self, true_or, or_true, not_true_eq_false, not_false_eq_true, le_T, le_F, lt_T, lt_F, eq_T, eq_F, Int.add_zero, Int.zero_add, Int.one_mul, Int.mul_one, up_eq, up_ne, Int.add_assoc, Int.add_sub_cancel, Int.sub_zero, Int.sub_self, S_56_0, S_56_1, S_56_4, S_56_5, S_56_8, S_56_9, S_56_10, S_56_11, S_56_14, S_56_15, S_56_18, S_56_19, S_56_21, S_56_22, S_56_23, S_56_24, S_56_25, S_56_26, S_56_29, S_56_32, S_56_35, H_84, hk8, rq_n, H_Lw hk, c_find hk hlC hl]))
    refine c_itemValue (A := A) (wb := false) hk hk8 (lC_look hlC e) fr ty (nmF_ok (w := w) (n := 1) ht (by omega)) eT (by omega) ?_
    intro s' f1
    rw [val_F ty]
    have v : -1000000 ≤ val A c t w 1 0 0 ∧ val A c t w 1 0 0 ≤ 1000000 := val_b ht (by omega) ty
    have q := kk s' f1
    repeat' (first | (with_reducible refine Br_i ?_ ?_ <;> (intro hbr; first | exact False.elim hbr | skip)) | (with_reducible refine Wl_i ?_) | (simp (disch := first | omega | exact okF _ | exact okI _ | exact okR _ | assumption | exact okN) only [u_at, iI_zero, iI_31, iI_add, iI_sub, iI_mul, iI_neg, ↓iI_max, ↓iI_min, iI_div, emod_f, iI_lt, iI_le, iI_inj, iI_toInt, ↓ii01, ↓ii11, ↓bI_b, bI_0, bI_1, Kt_s, Kt_n, cat0, cat1, cat2, cat3, cat4, rfV, Nat.reduceAdd, Nat.reduceMul, Nat.reduceEqDiff, Int.reduceAdd, Int.reduceSub, Int.reduceMul, Int.reduceNeg, Int.reduceLT, Int.reduceLE, Int.reduceEq, Int.reduceDiv, ↓reduceIte, ↓ite_ww, ↓ite_wi, Br_n, Br_TW, Br_FW, Br_FP, Br_FB, nn_p, and_true, true_and, and_self, true_or, or_true, not_true_eq_false, not_false_eq_true, le_T, le_F, lt_T, lt_F, eq_T, eq_F, Int.add_zero, Int.zero_add, Int.one_mul, Int.mul_one, up_eq, up_ne, Int.add_assoc, Int.add_sub_cancel, Int.sub_zero, Int.sub_self, S_56_0, S_56_1, S_56_4, S_56_5, S_56_8, S_56_9, S_56_10, S_56_11, S_56_14, S_56_15, S_56_18, S_56_19, S_56_21, S_56_22, S_56_23, S_56_24, S_56_25, S_56_26, S_56_29, S_56_32, S_56_35]))
    exact q
theorem c_hoursOf (hC : curC s l) (hl : lawOK l) (eT : s 50 (t * 4) = A (10 + 4 * t)) (ht : WT A t) (h : (0 ≤ t ∧ t < 10) ∧ (0 ≤ w ∧ w ≤ 40) ∧ 0 ≤ n ∧ n ≤ 3) (kk : ∀ s', Fr [85, 86] s s' → Q (some (.int (iI (vHours A l t w n)))) (hp X s')) : Wp (d + 3) 57 0 [.ref 84, .int (iI t), .int (iI w), .int (iI n), .float 0] [] (hp X s) Q := by
  obtain ⟨k, hk, hk8, hlC⟩ := hC
  unfold vHours at kk
  cases e : look l 1 with
  | none =>
    rw [e] at kk
    repeat' (first | (with_reducible refine Br_i ?_ ?_ <;> (intro hbr; first | exact False.elim hbr | skip)) | (with_reducible refine Wl_i ?_) | (simp (disch := first | omega | exact okF _ | exact okI _ | exact okR _ | assumption | exact okN) only [u_at, iI_zero, iI_31, iI_add, iI_sub, iI_mul, iI_neg, ↓iI_max, ↓iI_min, iI_div, emod_f, iI_lt, iI_le, iI_inj, iI_toInt, ↓ii01, ↓ii11, ↓bI_b, bI_0, bI_1, Kt_s, Kt_n, cat0, cat1, cat2, cat3, cat4, rfV, Nat.reduceAdd, Nat.reduceMul, Nat.reduceEqDiff, Int.reduceAdd, Int.reduceSub, Int.reduceMul, Int.reduceNeg, Int.reduceLT, Int.reduceLE, Int.reduceEq, Int.reduceDiv, ↓reduceIte, ↓ite_ww, ↓ite_wi, Br_n, Br_TW, Br_FW, Br_FP, Br_FB, nn_p, and_true, true_and, and_self, true_or, or_true, not_true_eq_false, not_false_eq_true, le_T, le_F, lt_T, lt_F, eq_T, eq_F, Int.add_zero, Int.zero_add, Int.one_mul, Int.mul_one, up_eq, up_ne, Int.add_assoc, Int.add_sub_cancel, Int.sub_zero, Int.sub_self, S_57_0, S_57_1, S_57_4, S_57_5, S_57_8, S_57_10, S_57_12, S_57_13, S_57_16, S_57_17, S_57_18, S_57_19, S_57_20, S_57_21, S_57_24, S_57_25, S_57_28, S_57_29, S_57_31, S_57_32, S_57_33, S_57_34, S_57_37, S_57_40, S_57_43, H_84, hk8, rq_n, H_Lw hk, c_find hk hlC hl, fidx_n e]))
    exact kk s (Fr.rf s)
  | some c =>
    rw [e] at kk
    have fr := fidx_s hl e
    have ty := clo_n hl (look_in e) (by decide) (by decide)
    repeat' (first | (with_reducible refine Br_i ?_ ?_ <;> (intro hbr; first | exact False.elim hbr | skip)) | (with_reducible refine Wl_i ?_) | (simp (disch := first | omega | exact okF _ | exact okI _ | exact okR _ | assumption | exact okN) only [u_at, iI_zero, iI_31, iI_add, iI_sub, iI_mul, iI_neg, ↓iI_max, ↓iI_min, iI_div, emod_f, iI_lt, iI_le, iI_inj, iI_toInt, ↓ii01, ↓ii11, ↓bI_b, bI_0, bI_1, Kt_s, Kt_n, cat0, cat1, cat2, cat3, cat4, rfV, Nat.reduceAdd, Nat.reduceMul, Nat.reduceEqDiff, Int.reduceAdd, Int.reduceSub, Int.reduceMul, Int.reduceNeg, Int.reduceLT, Int.reduceLE, Int.reduceEq, Int.reduceDiv, ↓reduceIte, ↓ite_ww, ↓ite_wi, Br_n, Br_TW, Br_FW, Br_FP, Br_FB, nn_p, and_true, true_and, and_self, true_or, or_true, not_true_eq_false, not_false_eq_true, le_T, le_F, lt_T, lt_F, eq_T, eq_F, Int.add_zero, Int.zero_add, Int.one_mul, Int.mul_one, up_eq, up_ne, Int.add_assoc, Int.add_sub_cancel, Int.sub_zero, Int.sub_self, S_57_0, S_57_1, S_57_4, S_57_5, S_57_8, S_57_10, S_57_12, S_57_13, S_57_16, S_57_17, S_57_18, S_57_19, S_57_20, S_57_21, S_57_24, S_57_25, S_57_28, S_57_29, S_57_31, S_57_32, S_57_33, S_57_34, S_57_37, S_57_40, S_57_43, H_84, hk8, rq_n, H_Lw hk, c_find hk hlC hl]))
    refine c_itemValue (A := A) (wb := false) hk hk8 (lC_look hlC e) fr ty (nmF_ok (w := w) (n := n) ht (by omega)) eT (by omega) ?_
    intro s' f1
    rw [val_F ty]
    have v : -1000000 ≤ val A c t w n 0 0 ∧ val A c t w n 0 0 ≤ 1000000 := val_b ht (by omega) ty
    have q := kk s' f1
    repeat' (first | (with_reducible refine Br_i ?_ ?_ <;> (intro hbr; first | exact False.elim hbr | skip)) | (with_reducible refine Wl_i ?_) | (simp (disch := first | omega | exact okF _ | exact okI _ | exact okR _ | assumption | exact okN) only [u_at, iI_zero, iI_31, iI_add, iI_sub, iI_mul, iI_neg, ↓iI_max, ↓iI_min, iI_div, emod_f, iI_lt, iI_le, iI_inj, iI_toInt, ↓ii01, ↓ii11, ↓bI_b, bI_0, bI_1, Kt_s, Kt_n, cat0, cat1, cat2, cat3, cat4, rfV, Nat.reduceAdd, Nat.reduceMul, Nat.reduceEqDiff, Int.reduceAdd, Int.reduceSub, Int.reduceMul, Int.reduceNeg, Int.reduceLT, Int.reduceLE, Int.reduceEq, Int.reduceDiv, ↓reduceIte, ↓ite_ww, ↓ite_wi, Br_n, Br_TW, Br_FW, Br_FP, Br_FB, nn_p, and_true, true_and, and_self, true_or, or_true, not_true_eq_false, not_false_eq_true, le_T, le_F, lt_T, lt_F, eq_T, eq_F, Int.add_zero, Int.zero_add, Int.one_mul, Int.mul_one, up_eq, up_ne, Int.add_assoc, Int.add_sub_cancel, Int.sub_zero, Int.sub_self, S_57_0, S_57_1, S_57_4, S_57_5, S_57_8, S_57_10, S_57_12, S_57_13, S_57_16, S_57_17, S_57_18, S_57_19, S_57_20, S_57_21, S_57_24, S_57_25, S_57_28, S_57_29, S_57_31, S_57_32, S_57_33, S_57_34, S_57_37, S_57_40, S_57_43]))
    exact q
theorem c_priceOf (hC : curC s l) (hl : lawOK l) (eT : s 50 (t * 4) = A (10 + 4 * t)) (ht : WT A t) (h : (0 ≤ t ∧ t < 10) ∧ (0 ≤ w ∧ w ≤ 9999) ∧ 0 ≤ n ∧ n ≤ 3) (kk : ∀ s', Fr [85, 86] s s' → Q (some (.int (iI (vPrice A l t w n)))) (hp X s')) : Wp (d + 3) 58 0 [.ref 84, .int (iI t), .int (iI w), .int (iI n), .float 0] [] (hp X s) Q := by
  obtain ⟨k, hk, hk8, hlC⟩ := hC
  unfold vPrice at kk
  cases e : look l 0 with
  | none =>
    rw [e] at kk
    repeat' (first | (with_reducible refine Br_i ?_ ?_ <;> (intro hbr; first | exact False.elim hbr | skip)) | (with_reducible refine Wl_i ?_) | (simp (disch := first | omega | exact okF _ | exact okI _ | exact okR _ | assumption | exact okN) only [u_at, iI_zero, iI_31, iI_add, iI_sub, iI_mul, iI_neg, ↓iI_max, ↓iI_min, iI_div, emod_f, iI_lt, iI_le, iI_inj, iI_toInt, ↓ii01, ↓ii11, ↓bI_b, bI_0, bI_1, Kt_s, Kt_n, cat0, cat1, cat2, cat3, cat4, rfV, Nat.reduceAdd, Nat.reduceMul, Nat.reduceEqDiff, Int.reduceAdd, Int.reduceSub, Int.reduceMul, Int.reduceNeg, Int.reduceLT, Int.reduceLE, Int.reduceEq, Int.reduceDiv, ↓reduceIte, ↓ite_ww, ↓ite_wi, Br_n, Br_TW, Br_FW, Br_FP, Br_FB, nn_p, and_true, true_and, and_self, true_or, or_true, not_true_eq_false, not_false_eq_true, le_T, le_F, lt_T, lt_F, eq_T, eq_F, Int.add_zero, Int.zero_add, Int.one_mul, Int.mul_one, up_eq, up_ne, Int.add_assoc, Int.add_sub_cancel, Int.sub_zero, Int.sub_self, S_58_0, S_58_1, S_58_4, S_58_5, S_58_8, S_58_10, S_58_12, S_58_13, S_58_16, S_58_17, S_58_20, S_58_21, S_58_24, S_58_25, S_58_27, S_58_28, S_58_29, S_58_30, S_58_33, S_58_36, S_58_39, H_84, hk8, rq_n, H_Lw hk, c_find hk hlC hl, fidx_n e]))
    exact kk s (Fr.rf s)
  | some c =>
    rw [e] at kk
    have fr := fidx_s hl e
    have ty := clo_n hl (look_in e) (by decide) (by decide)
    repeat' (first | (with_reducible refine Br_i ?_ ?_ <;> (intro hbr; first | exact False.elim hbr | skip)) | (with_reducible refine Wl_i ?_) | (simp (disch := first | omega | exact okF _ | exact okI _ | exact okR _ | assumption | exact okN) only [u_at, iI_zero, iI_31, iI_add, iI_sub, iI_mul, iI_neg, ↓iI_max, ↓iI_min, iI_div, emod_f, iI_lt, iI_le, iI_inj, iI_toInt, ↓ii01, ↓ii11, ↓bI_b, bI_0, bI_1, Kt_s, Kt_n, cat0, cat1, cat2, cat3, cat4, rfV, Nat.reduceAdd, Nat.reduceMul, Nat.reduceEqDiff, Int.reduceAdd, Int.reduceSub, Int.reduceMul, Int.reduceNeg, Int.reduceLT, Int.reduceLE, Int.reduceEq, Int.reduceDiv, ↓reduceIte, ↓ite_ww, ↓ite_wi, Br_n, Br_TW, Br_FW, Br_FP, Br_FB, nn_p, and_true, true_and, and_self, true_or, or_true, not_true_eq_false, not_false_eq_true, le_T, le_F, lt_T, lt_F, eq_T, eq_F, Int.add_zero, Int.zero_add, Int.one_mul, Int.mul_one, up_eq, up_ne, Int.add_assoc, Int.add_sub_cancel, Int.sub_zero, Int.sub_self, S_58_0, S_58_1, S_58_4, S_58_5, S_58_8, S_58_10, S_58_12, S_58_13, S_58_16, S_58_17, S_58_20, S_58_21, S_58_24, S_58_25, S_58_27, S_58_28, S_58_29, S_58_30, S_58_33, S_58_36, S_58_39, H_84, hk8, rq_n, H_Lw hk, c_find hk hlC hl]))
    refine c_itemValue (A := A) (wb := false) hk hk8 (lC_look hlC e) fr ty (nmF_ok (w := w) (n := n) ht (by omega)) eT (by omega) ?_
    intro s' f1
    rw [val_F ty]
    have v : -1000000 ≤ val A c t w n 0 0 ∧ val A c t w n 0 0 ≤ 1000000 := val_b ht (by omega) ty
    have q := kk s' f1
    repeat' (first | (with_reducible refine Br_i ?_ ?_ <;> (intro hbr; first | exact False.elim hbr | skip)) | (with_reducible refine Wl_i ?_) | (simp (disch := first | omega | exact okF _ | exact okI _ | exact okR _ | assumption | exact okN) only [u_at, iI_zero, iI_31, iI_add, iI_sub, iI_mul, iI_neg, ↓iI_max, ↓iI_min, iI_div, emod_f, iI_lt, iI_le, iI_inj, iI_toInt, ↓ii01, ↓ii11, ↓bI_b, bI_0, bI_1, Kt_s, Kt_n, cat0, cat1, cat2, cat3, cat4, rfV, Nat.reduceAdd, Nat.reduceMul, Nat.reduceEqDiff, Int.reduceAdd, Int.reduceSub, Int.reduceMul, Int.reduceNeg, Int.reduceLT, Int.reduceLE, Int.reduceEq, Int.reduceDiv, ↓reduceIte, ↓ite_ww, ↓ite_wi, Br_n, Br_TW, Br_FW, Br_FP, Br_FB, nn_p, and_true, true_and, and_self, true_or, or_true, not_true_eq_false, not_false_eq_true, le_T, le_F, lt_T, lt_F, eq_T, eq_F, Int.add_zero, Int.zero_add, Int.one_mul, Int.mul_one, up_eq, up_ne, Int.add_assoc, Int.add_sub_cancel, Int.sub_zero, Int.sub_self, S_58_0, S_58_1, S_58_4, S_58_5, S_58_8, S_58_10, S_58_12, S_58_13, S_58_16, S_58_17, S_58_20, S_58_21, S_58_24, S_58_25, S_58_27, S_58_28, S_58_29, S_58_30, S_58_33, S_58_36, S_58_39]))
    exact q
theorem c_barred_l {s0 : sg} {r : Prop} (hk : isLw k) (hk8 : s0 84900 0 = k) (eT : s0 50 (t * 4) = A (10 + 4 * t)) (ht : WT A t) (h : (0 ≤ t ∧ t < 10) ∧ (0 ≤ w ∧ w ≤ 9999) ∧ 0 ≤ n ∧ n ≤ 3) (L0 : lawT) (hL0 : lawOK L0) (kk : ∀ s', Fr [85, 86] s0 s' → Q (some (.int (iI (bZ r)))) (hp X s')) : ∀ (l : lawT) (i : Int) (s : sg), Fr [85, 86] s0 s → lC s0 k i l → (∀ c ∈ l, c ∈ L0) → (vBars A l t w n ↔ r) → (0 ≤ i ∧ i + l.length ≤ 10) → Wp (d + 3) 59 3 [.ref 84, .int (iI t), .int (iI w), .int (iI n), .int (iI i)] [] (hp X s) Q := by
  have kn : nin (1000 * k + 5) [85, 86] = true ∧ nin (k + 2) [85, 86] = true := by
    unfold isLw at hk
    rcases hk with e | e | e | e | e | e | e <;> subst e <;> exact ⟨rfl, rfl⟩
  intro l
  induction l with
  | nil =>
    intro i s hf h1 hc hr hi
    have e8 : s 84900 0 = k := by rw [hf.g 84900 rfl]; exact hk8
    have e5 : s (1000 * k + 5) 0 = i := by rw [hf _ kn.1]; exact h1
    simp only [List.length_nil] at hi
    have q := kk s hf
    rw [bZ_F (by rw [← hr]; rintro ⟨c, m, _⟩; cases m)] at q
    repeat' (first | (with_reducible refine Br_i ?_ ?_ <;> (intro hbr; first | exact False.elim hbr | skip)) | (with_reducible refine Wl_i ?_) | (simp (disch := first | omega | exact okF _ | exact okI _ | exact okR _ | assumption | exact okN) only [u_at, iI_zero, iI_31, iI_add, iI_sub, iI_mul, iI_neg, ↓iI_max, ↓iI_min, iI_div, emod_f, iI_lt, iI_le, iI_inj, iI_toInt, ↓ii01, ↓ii11, ↓bI_b, bI_0, bI_1, Kt_s, Kt_n, cat0, cat1, cat2, cat3, cat4, rfV, Nat.reduceAdd, Nat.reduceMul, Nat.reduceEqDiff, Int.reduceAdd, Int.reduceSub, Int.reduceMul, Int.reduceNeg, Int.reduceLT, Int.reduceLE, Int.reduceEq, Int.reduceDiv, ↓reduceIte, ↓ite_ww, ↓ite_wi, Br_n, Br_TW, Br_FW, Br_FP, Br_FB, nn_p, and_true, true_and, and_self, true_or, or_true, not_true_eq_false, not_false_eq_true, le_T, le_F, lt_T, lt_F, eq_T, eq_F, Int.add_zero, Int.zero_add, Int.one_mul, Int.mul_one, up_eq, up_ne, Int.add_assoc, Int.add_sub_cancel, Int.sub_zero, Int.sub_self, S_59_0, S_59_1, S_59_3, S_59_5, S_59_6, S_59_9, S_59_12, S_59_15, S_59_16, S_59_19, S_59_22, S_59_24, S_59_27, S_59_28, S_59_31, S_59_32, S_59_34, S_59_35, S_59_36, S_59_37, S_59_40, S_59_43, S_59_44, S_59_45, S_59_48, S_59_51, S_59_52, H_84, e8, rq_n, H_Lw hk, e5]))
    exact q
  | cons c l ih =>
    intro i s hf h1 hc hr hi
    have e8 : s 84900 0 = k := by rw [hf.g 84900 rfl]; exact hk8
    have e5 : s (1000 * k + 5) 0 = i + (c :: l).length := by rw [hf _ kn.1]; exact lC_len h1
    have e2 : s (k + 2) i = c.1 := by rw [hf _ kn.2]; exact h1.1.1
    have eT1 : s 50 (t * 4) = A (10 + 4 * t) := by rw [hf.g 50 rfl]; exact eT
    simp only [List.length_cons] at e5 hi
    have c0 := hc c List.mem_cons_self
    have b1 := (hL0.2.1 c c0).1
    have cL := c_cell_L hk
    have ih2 := fun s hf hr => ih (i + 1) s hf h1.2 (fun q hq => hc q (List.mem_cons_of_mem _ hq)) hr (by omega)
    rw [S_59_3]
    by_cases e : c.1 = 4
    · have ty : tys false c.2 [] [true] := clo_b hL0 (c := c.2) (by rw [← e]; exact c0)
      repeat' (first | (with_reducible refine Br_i ?_ ?_ <;> (intro hbr; first | exact False.elim hbr | skip)) | (with_reducible refine Wl_i ?_) | (simp (disch := first | omega | exact okF _ | exact okI _ | exact okR _ | assumption | exact okN) only [u_at, iI_zero, iI_31, iI_add, iI_sub, iI_mul, iI_neg, ↓iI_max, ↓iI_min, iI_div, emod_f, iI_lt, iI_le, iI_inj, iI_toInt, ↓ii01, ↓ii11, ↓bI_b, bI_0, bI_1, Kt_s, Kt_n, cat0, cat1, cat2, cat3, cat4, rfV, Nat.reduceAdd, Nat.reduceMul, Nat.reduceEqDiff, Int.reduceAdd, Int.reduceSub, Int.reduceMul, Int.reduceNeg, Int.reduceLT, Int.reduceLE, Int.reduceEq, Int.reduceDiv, ↓reduceIte, ↓ite_ww, ↓ite_wi, Br_n, Br_TW, Br_FW, Br_FP, Br_FB, nn_p, and_true, true_and, and_self, true_or, or_true, not_true_eq_false, not_false_eq_true, le_T, le_F, lt_T, lt_F, eq_T, eq_F, Int.add_zero, Int.zero_add, Int.one_mul, Int.mul_one, up_eq, up_ne, Int.add_assoc, Int.add_sub_cancel, Int.sub_zero, Int.sub_self, S_59_0, S_59_1, S_59_5, S_59_6, S_59_9, S_59_12, S_59_15, S_59_16, S_59_19, S_59_22, S_59_24, S_59_27, S_59_28, S_59_31, S_59_32, S_59_34, S_59_35, S_59_36, S_59_37, S_59_40, S_59_43, S_59_44, S_59_45, S_59_48, S_59_51, S_59_52, H_84, e8, rq_n, H_Lw hk, cL, e5, e2, e]))
      refine c_itemValue (A := A) (wb := false) (tf := true) (c := c) hk e8 (lC_fr hf rfl hk h1).1 (by omega) ty (nmF_ok (w := w) (n := n) ht (by omega)) eT1 (by omega) ?_
      intro s' f1
      rw [val_F ty]
      have v : val A c.2 t w n 0 0 = 0 ∨ val A c.2 t w n 0 0 = 1 := val_b ht (by omega) ty
      by_cases z : val A c.2 t w n 0 0 = 0
      · have n2 := ih2 s' (hf.tr f1) (by
          rw [← hr]
          refine ⟨fun ⟨c', m, y⟩ => ⟨c', List.mem_cons_of_mem _ m, y⟩, fun ⟨c', m, y⟩ => ?_⟩
          rcases List.mem_cons.mp m with m | m
          · rw [← m] at z
            exact absurd z y
          · exact ⟨c', m, y⟩)
        repeat' (first | (with_reducible refine Br_i ?_ ?_ <;> (intro hbr; first | exact False.elim hbr | skip)) | (with_reducible refine Wl_i ?_) | (simp (disch := first | omega | exact okF _ | exact okI _ | exact okR _ | assumption | exact okN) only [u_at, iI_zero, iI_31, iI_add, iI_sub, iI_mul, iI_neg, ↓iI_max, ↓iI_min, iI_div, emod_f, iI_lt, iI_le, iI_inj, iI_toInt, ↓ii01, ↓ii11, ↓bI_b, bI_0, bI_1, Kt_s, Kt_n, cat0, cat1, cat2, cat3, cat4, rfV, Nat.reduceAdd, Nat.reduceMul, Nat.reduceEqDiff, Int.reduceAdd, Int.reduceSub, Int.reduceMul, Int.reduceNeg, Int.reduceLT, Int.reduceLE, Int.reduceEq, Int.reduceDiv, ↓reduceIte, ↓ite_ww, ↓ite_wi, Br_n, Br_TW, Br_FW, Br_FP, Br_FB, nn_p, and_true, true_and, and_self, true_or, or_true, not_true_eq_false, not_false_eq_true, le_T, le_F, lt_T, lt_F, eq_T, eq_F, Int.add_zero, Int.zero_add, Int.one_mul, Int.mul_one, up_eq, up_ne, Int.add_assoc, Int.add_sub_cancel, Int.sub_zero, Int.sub_self, S_59_0, S_59_1, S_59_5, S_59_6, S_59_9, S_59_12, S_59_15, S_59_16, S_59_19, S_59_22, S_59_24, S_59_27, S_59_28, S_59_31, S_59_32, S_59_34, S_59_35, S_59_36, S_59_37, S_59_40, S_59_43, S_59_44, S_59_45, S_59_48, S_59_51, S_59_52, z]))
        exact n2
      · have q := kk s' (hf.tr f1)
        rw [bZ_T (by rw [← hr]; exact ⟨c.2, by rw [show (4, c.2) = c by rw [← e]]; exact List.mem_cons_self, z⟩)] at q
        repeat' (first | (with_reducible refine Br_i ?_ ?_ <;> (intro hbr; first | exact False.elim hbr | skip)) | (with_reducible refine Wl_i ?_) | (simp (disch := first | omega | exact okF _ | exact okI _ | exact okR _ | assumption | exact okN) only [u_at, iI_zero, iI_31, iI_add, iI_sub, iI_mul, iI_neg, ↓iI_max, ↓iI_min, iI_div, emod_f, iI_lt, iI_le, iI_inj, iI_toInt, ↓ii01, ↓ii11, ↓bI_b, bI_0, bI_1, Kt_s, Kt_n, cat0, cat1, cat2, cat3, cat4, rfV, Nat.reduceAdd, Nat.reduceMul, Nat.reduceEqDiff, Int.reduceAdd, Int.reduceSub, Int.reduceMul, Int.reduceNeg, Int.reduceLT, Int.reduceLE, Int.reduceEq, Int.reduceDiv, ↓reduceIte, ↓ite_ww, ↓ite_wi, Br_n, Br_TW, Br_FW, Br_FP, Br_FB, nn_p, and_true, true_and, and_self, true_or, or_true, not_true_eq_false, not_false_eq_true, le_T, le_F, lt_T, lt_F, eq_T, eq_F, Int.add_zero, Int.zero_add, Int.one_mul, Int.mul_one, up_eq, up_ne, Int.add_assoc, Int.add_sub_cancel, Int.sub_zero, Int.sub_self, S_59_0, S_59_1, S_59_5, S_59_6, S_59_9, S_59_12, S_59_15, S_59_16, S_59_19, S_59_22, S_59_24, S_59_27, S_59_28, S_59_31, S_59_32, S_59_34, S_59_35, S_59_36, S_59_37, S_59_40, S_59_43, S_59_44, S_59_45, S_59_48, S_59_51, S_59_52, z]))
        exact q
    · have n2 := ih2 s hf (by
        rw [← hr]
        refine ⟨fun ⟨c', m, y⟩ => ⟨c', List.mem_cons_of_mem _ m, y⟩, fun ⟨c', m, y⟩ => ?_⟩
        rcases List.mem_cons.mp m with m | m
        · rw [← m] at e
          exact absurd rfl e
        · exact ⟨c', m, y⟩)
      repeat' (first | (with_reducible refine Br_i ?_ ?_ <;> (intro hbr; first | exact False.elim hbr | skip)) | (with_reducible refine Wl_i ?_) | (simp (disch := first | omega | exact okF _ | exact okI _ | exact okR _ | assumption | exact okN) only [u_at, iI_zero, iI_31, iI_add, iI_sub, iI_mul, iI_neg, ↓iI_max, ↓iI_min, iI_div, emod_f, iI_lt, iI_le, iI_inj, iI_toInt, ↓ii01, ↓ii11, ↓bI_b, bI_0, bI_1, Kt_s, Kt_n, cat0, cat1, cat2, cat3, cat4, rfV, Nat.reduceAdd, Nat.reduceMul, Nat.reduceEqDiff, Int.reduceAdd, Int.reduceSub, Int.reduceMul, Int.reduceNeg, Int.reduceLT, Int.reduceLE, Int.reduceEq, Int.reduceDiv, ↓reduceIte, ↓ite_ww, ↓ite_wi, Br_n, Br_TW, Br_FW, Br_FP, Br_FB, nn_p, and_true, true_and, and_self, true_or, or_true, not_true_eq_false, not_false_eq_true, le_T, le_F, lt_T, lt_F, eq_T, eq_F, Int.add_zero, Int.zero_add, Int.one_mul, Int.mul_one, up_eq, up_ne, Int.add_assoc, Int.add_sub_cancel, Int.sub_zero, Int.sub_self, S_59_0, S_59_1, S_59_5, S_59_6, S_59_9, S_59_12, S_59_15, S_59_16, S_59_19, S_59_22, S_59_24, S_59_27, S_59_28, S_59_31, S_59_32, S_59_34, S_59_35, S_59_36, S_59_37, S_59_40, S_59_43, S_59_44, S_59_45, S_59_48, S_59_51, S_59_52, H_84, e8, rq_n, H_Lw hk, cL, e5, e2, e]))
      exact n2
theorem c_isBarred (hC : curC s l) (hl : lawOK l) (eT : s 50 (t * 4) = A (10 + 4 * t)) (ht : WT A t) (h : (0 ≤ t ∧ t < 10) ∧ (0 ≤ w ∧ w ≤ 9999) ∧ 0 ≤ n ∧ n ≤ 3) (kk : ∀ s', Fr [85, 86] s s' → Q (some (.int (iI (bZ (vBars A l t w n))))) (hp X s')) : Wp (d + 3) 59 0 [.ref 84, .int (iI t), .int (iI w), .int (iI n), .float 0] [] (hp X s) Q := by
  obtain ⟨k, hk, hk8, hlC⟩ := hC
  have hlen := hl.1
  repeat' (first | (with_reducible refine Br_i ?_ ?_ <;> (intro hbr; first | exact False.elim hbr | skip)) | (with_reducible refine Wl_i ?_) | (simp (disch := first | omega | exact okF _ | exact okI _ | exact okR _ | assumption | exact okN) only [u_at, iI_zero, iI_31, iI_add, iI_sub, iI_mul, iI_neg, ↓iI_max, ↓iI_min, iI_div, emod_f, iI_lt, iI_le, iI_inj, iI_toInt, ↓ii01, ↓ii11, ↓bI_b, bI_0, bI_1, Kt_s, Kt_n, cat0, cat1, cat2, cat3, cat4, rfV, Nat.reduceAdd, Nat.reduceMul, Nat.reduceEqDiff, Int.reduceAdd, Int.reduceSub, Int.reduceMul, Int.reduceNeg, Int.reduceLT, Int.reduceLE, Int.reduceEq, Int.reduceDiv, ↓reduceIte, ↓ite_ww, ↓ite_wi, Br_n, Br_TW, Br_FW, Br_FP, Br_FB, nn_p, and_true, true_and, and_self, true_or, or_true, not_true_eq_false, not_false_eq_true, le_T, le_F, lt_T, lt_F, eq_T, eq_F, Int.add_zero, Int.zero_add, Int.one_mul, Int.mul_one, up_eq, up_ne, Int.add_assoc, Int.add_sub_cancel, Int.sub_zero, Int.sub_self, S_59_0, S_59_1, S_59_5, S_59_6, S_59_9, S_59_12, S_59_15, S_59_16, S_59_19, S_59_22, S_59_24, S_59_27, S_59_28, S_59_31, S_59_32, S_59_34, S_59_35, S_59_36, S_59_37, S_59_40, S_59_43, S_59_44, S_59_45, S_59_48, S_59_51, S_59_52]))
  exact c_barred_l hk hk8 eT ht h l hl kk l 0 s (Fr.rf s) hlC (fun c hc => hc) Iff.rfl (by omega)
theorem c_worthTo (hC : curC s l) (hl : lawOK l) (eT : s 50 (t * 4) = A (10 + 4 * t)) (ht : WT A t) (hb : WB A b) (eB : cB 0 s A b) (h : (0 ≤ t ∧ t < 10) ∧ (0 ≤ w ∧ w ≤ 40) ∧ (0 ≤ n ∧ n ≤ 3) ∧ 0 ≤ b ∧ b < 10) (kk : ∀ s', Fr [85, 86] s s' → Q (some (.int (iI (vWorth A l b t w n)))) (hp X s')) : Wp (d + 3) 60 0 [.ref 84, .int (iI b), .int (iI t), .int (iI w), .int (iI n), .float 0, .float 0, .float 0] [] (hp X s) Q := by
  obtain ⟨k, hk, hk8, hlC⟩ := hC
  have hb2 := hb.2.2.1
  have hb1 := hb.2.1
  have e2 : s 54 (b * 4 + 2) = A (100 + (6 * b + 2)) := eB.2.2.1
  have e1 : s 54 (b * 4 + 1) = A (100 + (6 * b + 1)) := eB.2.1
  have vw := vWant_r (A := A) (b := b) (t := t)
  unfold vWorth at kk
  cases e : look l 2 with
  | none =>
    rw [e] at kk
    have q := kk s (Fr.rf s)
    simp only at q
    by_cases x : A (100 + (6 * b + 1)) = t
    · have z : vWant A b t = 1 := by unfold vWant; rw [bZ_T x]
      rw [z] at q
      repeat' (first | (with_reducible refine Br_i ?_ ?_ <;> (intro hbr; first | exact False.elim hbr | skip)) | (with_reducible refine Wl_i ?_) | (simp (disch := first | omega | exact okF _ | exact okI _ | exact okR _ | assumption | exact okN) only [u_at, iI_zero, iI_31, iI_add, iI_sub, iI_mul, iI_neg, ↓iI_max, ↓iI_min, iI_div, emod_f, iI_lt, iI_le, iI_inj, iI_toInt, ↓ii01, ↓ii11, ↓bI_b, bI_0, bI_1, Kt_s, Kt_n, cat0, cat1, cat2, cat3, cat4, rfV, Nat.reduceAdd, Nat.reduceMul, Nat.reduceEqDiff, Int.reduceAdd, Int.reduceSub, Int.reduceMul, Int.reduceNeg, Int.reduceLT, Int.reduceLE, Int.reduceEq, Int.reduceDiv, ↓reduceIte, ↓ite_ww, ↓ite_wi, Br_n, Br_TW, Br_FW, Br_FP, Br_FB, nn_p, and_true, true_and, and_self, true_or, or_true, not_true_eq_false, not_false_eq_true, le_T, le_F, lt_T, lt_F, eq_T, eq_F, Int.add_zero, Int.zero_add, Int.one_mul, Int.mul_one, up_eq, up_ne, Int.add_assoc, Int.add_sub_cancel, Int.sub_zero, Int.sub_self, S_60_0, S_60_1, S_60_4, S_60_7, S_60_8, S_60_9, S_60_12, S_60_14, S_60_15, S_60_18, S_60_21, S_60_22, S_60_23, S_60_26, S_60_27, S_60_30, S_60_31, S_60_34, S_60_35, S_60_37, S_60_38, S_60_41, S_60_42, S_60_45, S_60_47, S_60_49, S_60_50, S_60_53, S_60_55, S_60_57, S_60_58, S_60_59, S_60_60, S_60_63, S_60_64, S_60_66, S_60_67, S_60_68, S_60_71, S_60_72, S_60_74, S_60_75, S_60_78, S_60_81, S_60_82, S_60_84, S_60_85, S_60_86, S_60_88, S_60_91, S_60_94, S_60_97, H_84, H_48, H_49, H_53, c_at_53, e1, e2, x, hk8, rq_n, H_Lw hk, c_find hk hlC hl, fidx_n e]))
      simpa only [Int.mul_one] using q
    · have z : vWant A b t = 0 := by unfold vWant; rw [bZ_F x]
      rw [z] at q
      repeat' (first | (with_reducible refine Br_i ?_ ?_ <;> (intro hbr; first | exact False.elim hbr | skip)) | (with_reducible refine Wl_i ?_) | (simp (disch := first | omega | exact okF _ | exact okI _ | exact okR _ | assumption | exact okN) only [u_at, iI_zero, iI_31, iI_add, iI_sub, iI_mul, iI_neg, ↓iI_max, ↓iI_min, iI_div, emod_f, iI_lt, iI_le, iI_inj, iI_toInt, ↓ii01, ↓ii11, ↓bI_b, bI_0, bI_1, Kt_s, Kt_n, cat0, cat1, cat2, cat3, cat4, rfV, Nat.reduceAdd, Nat.reduceMul, Nat.reduceEqDiff, Int.reduceAdd, Int.reduceSub, Int.reduceMul, Int.reduceNeg, Int.reduceLT, Int.reduceLE, Int.reduceEq, Int.reduceDiv, ↓reduceIte, ↓ite_ww, ↓ite_wi, Br_n, Br_TW, Br_FW, Br_FP, Br_FB, nn_p, and_true, true_and, and_self, true_or, or_true, not_true_eq_false, not_false_eq_true, le_T, le_F, lt_T, lt_F, eq_T, eq_F, Int.add_zero, Int.zero_add, Int.one_mul, Int.mul_one, up_eq, up_ne, Int.add_assoc, Int.add_sub_cancel, Int.sub_zero, Int.sub_self, S_60_0, S_60_1, S_60_4, S_60_7, S_60_8, S_60_9, S_60_12, S_60_14, S_60_15, S_60_18, S_60_21, S_60_22, S_60_23, S_60_26, S_60_27, S_60_30, S_60_31, S_60_34, S_60_35, S_60_37, S_60_38, S_60_41, S_60_42, S_60_45, S_60_47, S_60_49, S_60_50, S_60_53, S_60_55, S_60_57, S_60_58, S_60_59, S_60_60, S_60_63, S_60_64, S_60_66, S_60_67, S_60_68, S_60_71, S_60_72, S_60_74, S_60_75, S_60_78, S_60_81, S_60_82, S_60_84, S_60_85, S_60_86, S_60_88, S_60_91, S_60_94, S_60_97, H_84, H_48, H_49, H_53, c_at_53, e1, e2, x, hk8, rq_n, H_Lw hk, c_find hk hlC hl, fidx_n e]))
      exact q
  | some c =>
    rw [e] at kk
    have fr := fidx_s hl e
    have ty := clo_w hl (look_in e)
    have fin : ∀ wa, wa = vWant A b t → Wp (d + 2) 61 0 [.ref 84, .int (iI (fidx l 2 0)), .int (iI t), .int (iI w), .int (iI n), .float 0, .float 0, .float 0, .float 0] [] (hp X (u s 85 (up (up (s 85) 4 (A (100 + (6 * b + 2)))) 5 wa))) (Kt (d + 3) 60 91 [.ref 84, .int (iI b), .int (iI t), .int (iI w), .int (iI n), .int (iI (A (100 + (6 * b + 2)))), .int (iI wa), .int (iI (fidx l 2 0))] [.int (iI 9999), .int (iI (-9999))] Q) := by
      intro wa ea
      have f0 : Fr [85, 86] s (u s 85 (up (up (s 85) 4 (A (100 + (6 * b + 2)))) 5 wa)) := (by repeat (first | exact Fr.rf _ | refine Fr.u ?_ rfl))
      refine c_itemValue (A := A) (wb := true) (tf := false) (c := (2, c)) hk (by rw [u_ne (by decide)]; exact hk8) (lC_look (lC_fr f0 rfl hk hlC) e) fr ty ?_ (by rw [u_ne (by decide)]; exact eT) (by omega) ?_
      · rw [u_eq]
        exact nmFW_ok ht (by omega) _
      · intro s' f1
        rw [u_eq]
        simp only
        rw [val_FW ty, ea]
        have v : -1000000 ≤ val A c t w n (A (100 + (6 * b + 2))) (vWant A b t) ∧ val A c t w n (A (100 + (6 * b + 2))) (vWant A b t) ≤ 1000000 := val_b ht (by omega) ty
        have q := kk s' (f0.tr f1)
        simp only at q
        repeat' (first | (with_reducible refine Br_i ?_ ?_ <;> (intro hbr; first | exact False.elim hbr | skip)) | (with_reducible refine Wl_i ?_) | (simp (disch := first | omega | exact okF _ | exact okI _ | exact okR _ | assumption | exact okN) only [u_at, iI_zero, iI_31, iI_add, iI_sub, iI_mul, iI_neg, ↓iI_max, ↓iI_min, iI_div, emod_f, iI_lt, iI_le, iI_inj, iI_toInt, ↓ii01, ↓ii11, ↓bI_b, bI_0, bI_1, Kt_s, Kt_n, cat0, cat1, cat2, cat3, cat4, rfV, Nat.reduceAdd, Nat.reduceMul, Nat.reduceEqDiff, Int.reduceAdd, Int.reduceSub, Int.reduceMul, Int.reduceNeg, Int.reduceLT, Int.reduceLE, Int.reduceEq, Int.reduceDiv, ↓reduceIte, ↓ite_ww, ↓ite_wi, Br_n, Br_TW, Br_FW, Br_FP, Br_FB, nn_p, and_true, true_and, and_self, true_or, or_true, not_true_eq_false, not_false_eq_true, le_T, le_F, lt_T, lt_F, eq_T, eq_F, Int.add_zero, Int.zero_add, Int.one_mul, Int.mul_one, up_eq, up_ne, Int.add_assoc, Int.add_sub_cancel, Int.sub_zero, Int.sub_self, S_60_0, S_60_1, S_60_4, S_60_7, S_60_8, S_60_9, S_60_12, S_60_14, S_60_15, S_60_18, S_60_21, S_60_22, S_60_23, S_60_26, S_60_27, S_60_30, S_60_31, S_60_34, S_60_35, S_60_37, S_60_38, S_60_41, S_60_42, S_60_45, S_60_47, S_60_49, S_60_50, S_60_53, S_60_55, S_60_57, S_60_58, S_60_59, S_60_60, S_60_63, S_60_64, S_60_66, S_60_67, S_60_68, S_60_71, S_60_72, S_60_74, S_60_75, S_60_78, S_60_81, S_60_82, S_60_84, S_60_85, S_60_86, S_60_88, S_60_91, S_60_94, S_60_97]))
        exact q
    by_cases x : A (100 + (6 * b + 1)) = t
    · have fin := fin 1 (by unfold vWant; rw [bZ_T x])
      repeat' (first | (with_reducible refine Br_i ?_ ?_ <;> (intro hbr; first | exact False.elim hbr | skip)) | (with_reducible refine Wl_i ?_) | (simp (disch := first | omega | exact okF _ | exact okI _ | exact okR _ | assumption | exact okN) only [u_at, iI_zero, iI_31, iI_add, iI_sub, iI_mul, iI_neg, ↓iI_max, ↓iI_min, iI_div, emod_f, iI_lt, iI_le, iI_inj, iI_toInt, ↓ii01, ↓ii11, ↓bI_b, bI_0, bI_1, Kt_s, Kt_n, cat0, cat1, cat2, cat3, cat4, rfV, Nat.reduceAdd, Nat.reduceMul, Nat.reduceEqDiff, Int.reduceAdd, Int.reduceSub, Int.reduceMul, Int.reduceNeg, Int.reduceLT, Int.reduceLE, Int.reduceEq, Int.reduceDiv, ↓reduceIte, ↓ite_ww, ↓ite_wi, Br_n, Br_TW, Br_FW, Br_FP, Br_FB, nn_p, and_true, true_and, and_self, true_or, or_true, not_true_eq_false, not_false_eq_true, le_T, le_F, lt_T, lt_F, eq_T, eq_F, Int.add_zero, Int.zero_add, Int.one_mul, Int.mul_one, up_eq, up_ne, Int.add_assoc, Int.add_sub_cancel, Int.sub_zero, Int.sub_self, S_60_0, S_60_1, S_60_4, S_60_7, S_60_8, S_60_9, S_60_12, S_60_14, S_60_15, S_60_18, S_60_21, S_60_22, S_60_23, S_60_26, S_60_27, S_60_30, S_60_31, S_60_34, S_60_35, S_60_37, S_60_38, S_60_41, S_60_42, S_60_45, S_60_47, S_60_49, S_60_50, S_60_53, S_60_55, S_60_57, S_60_58, S_60_59, S_60_60, S_60_63, S_60_64, S_60_66, S_60_67, S_60_68, S_60_71, S_60_72, S_60_74, S_60_75, S_60_78, S_60_81, S_60_82, S_60_84, S_60_85, S_60_86, S_60_88, S_60_91, S_60_94, S_60_97, H_84, H_85, H_48, H_49, H_53, c_at_53, e1, e2, x, hk8, rq_n, H_Lw hk, c_find hk hlC hl, u_u]))
      exact fin
    · have fin := fin 0 (by unfold vWant; rw [bZ_F x])
      repeat' (first | (with_reducible refine Br_i ?_ ?_ <;> (intro hbr; first | exact False.elim hbr | skip)) | (with_reducible refine Wl_i ?_) | (simp (disch := first | omega | exact okF _ | exact okI _ | exact okR _ | assumption | exact okN) only [u_at, iI_zero, iI_31, iI_add, iI_sub, iI_mul, iI_neg, ↓iI_max, ↓iI_min, iI_div, emod_f, iI_lt, iI_le, iI_inj, iI_toInt, ↓ii01, ↓ii11, ↓bI_b, bI_0, bI_1, Kt_s, Kt_n, cat0, cat1, cat2, cat3, cat4, rfV, Nat.reduceAdd, Nat.reduceMul, Nat.reduceEqDiff, Int.reduceAdd, Int.reduceSub, Int.reduceMul, Int.reduceNeg, Int.reduceLT, Int.reduceLE, Int.reduceEq, Int.reduceDiv, ↓reduceIte, ↓ite_ww, ↓ite_wi, Br_n, Br_TW, Br_FW, Br_FP, Br_FB, nn_p, and_true, true_and, and_self, true_or, or_true, not_true_eq_false, not_false_eq_true, le_T, le_F, lt_T, lt_F, eq_T, eq_F, Int.add_zero, Int.zero_add, Int.one_mul, Int.mul_one, up_eq, up_ne, Int.add_assoc, Int.add_sub_cancel, Int.sub_zero, Int.sub_self, S_60_0, S_60_1, S_60_4, S_60_7, S_60_8, S_60_9, S_60_12, S_60_14, S_60_15, S_60_18, S_60_21, S_60_22, S_60_23, S_60_26, S_60_27, S_60_30, S_60_31, S_60_34, S_60_35, S_60_37, S_60_38, S_60_41, S_60_42, S_60_45, S_60_47, S_60_49, S_60_50, S_60_53, S_60_55, S_60_57, S_60_58, S_60_59, S_60_60, S_60_63, S_60_64, S_60_66, S_60_67, S_60_68, S_60_71, S_60_72, S_60_74, S_60_75, S_60_78, S_60_81, S_60_82, S_60_84, S_60_85, S_60_86, S_60_88, S_60_91, S_60_94, S_60_97, H_84, H_85, H_48, H_49, H_53, c_at_53, e1, e2, x, hk8, rq_n, H_Lw hk, c_find hk hlC hl, u_u]))
      exact fin
end CV
