/-! THE CLASS: a year run, all offers weighed -/
section CR2
variable {d : Nat} {X : hX} {s : sg} {Q : Option Value → aH → Prop} {b n o v k : Int} {A : Int → Int} {l : lawT}
theorem c_run_60 (hI : IC0 0 s A) (W : WF0 A) (hw : ∀ o, 0 ≤ o → o < n → WO A o) (hm : ∀ o, 0 ≤ o → o < n → CO A l o s) (hn : 0 ≤ n ∧ n ≤ 22) (kk : ∀ s', Fr [61, 62, 63, 64, 65] s s' → RC 60 s' (year A l n) → Q (some (.int (iI (ysum A l n (A 2))))) (hp X s')) : Wp (d + 4) 37 0 [.ref 87, .ref 60, .int (iI n), .float 0, .float 0, .float 0, .float 0] [] (hp X s) Q := by
  have w2 := W.1.2.2.1
  have w1 := W.1.2.1
  have n2 : s 53004 0 = A 2 := hI.1.2.2.1
  have n1 : s 51004 0 = A 1 := hI.1.2.1
  have loop2 : ∀ j s3, j ≤ A 2 → (0 ≤ j ∧ Fr [61, 62, 63, 64, 65] s s3 ∧ RC 60 s3 (yrun A l n j)) → ∀ v5 v6, okO v5 = true → okO v6 = true → Wp (d + 4) 37 51 [.ref 87, .ref 60, .int (iI n), .int (iI (ysum A l n j)), .int (iI j), v5, v6] [] (hp X s3) Q := by
    refine lp ?_ ?_
    · intro j s3 hj ⟨j0, hf, r1, r2, r3⟩ kk v5 v6 o5 o6
      have e53 : s3 53004 0 = A 2 := by rw [hf.g 53004 rfl]; exact n2
      have cb := (IC0_fr hf rfl hI).2.2.2.1 j j0 hj
      have cb0 : s3 54 (j * 4) = A (100 + 6 * j) := cb.1
      have wb := (W.2.2.2.1 j j0 hj).1
      have yk : yOK A (A (100 + 6 * j), (yrun A l n j).1, (yrun A l n j).2.1, (yrun A l n j).2.2.1, 0) := ⟨by show 0 ≤ A (100 + 6 * j) ∧ A (100 + 6 * j) ≤ 999; omega, yrun_ok W hn.1 hw j0 (by omega)⟩
      have sok := srv_ok (l := l) (b := j) hn.1 hw n.toNat _ yk
      have sok1 : 0 ≤ (ysv A l n j (yrun A l n j)).1 ∧ (ysv A l n j (yrun A l n j)).1 ≤ 999 := sok.1
      have hs : ysum A l n (j + 1) = ysum A l n j + (A (100 + 6 * j) - (ysv A l n j (yrun A l n j)).1) := sm_s j0
      have r3j := r3 j j0 (by omega)
      have gz : (yrun A l n j).2.2.2.2 j = 0 := by
        refine i_ind (P := fun z => z ≤ j → (yrun A l n z).2.2.2.2 j = 0) j0 (fun _ => by rw [yrun_0]; rfl) ?_ (Int.le_refl j)
        intro z z0 z1 ih z2
        rw [yrun_s z0]
        show up (yrun A l n z).2.2.2.2 z _ j = 0
        rw [up_ne (by omega)]
        exact ih (by omega)
      have lz : (yrun A l n j).2.2.2.1 j = 0 := by
        refine i_ind (P := fun z => z ≤ j → (yrun A l n z).2.2.2.1 j = 0) j0 (fun _ => by rw [yrun_0]; rfl) ?_ (Int.le_refl j)
        intro z z0 z1 ih z2
        rw [yrun_s z0]
        show up (yrun A l n z).2.2.2.1 z _ j = 0
        rw [up_ne (by omega)]
        exact ih (by omega)
      rw [S_37_51]
      repeat' (first | (with_reducible refine Br_i ?_ ?_ <;> (intro hbr; first | exact False.elim hbr | skip)) | (with_reducible refine Wl_i ?_) | (simp (disch := first | omega | exact okF _ | exact okI _ | exact okR _ | assumption | exact okN) only [u_at, iI_zero, iI_31, iI_add, iI_sub, iI_mul, iI_neg, ↓iI_max, ↓iI_min, iI_div, emod_f, iI_lt, iI_le, iI_inj, iI_toInt, ↓ii01, ↓ii11, ↓bI_b, bI_0, bI_1, Kt_s, Kt_n, cat0, cat1, cat2, cat3, cat4, rfV, Nat.reduceAdd, Nat.reduceMul, Nat.reduceEqDiff, Int.reduceAdd, Int.reduceSub, Int.reduceMul, Int.reduceNeg, Int.reduceLT, Int.reduceLE, Int.reduceEq, Int.reduceDiv, ↓reduceIte, ↓ite_ww, ↓ite_wi, Br_n, Br_TW, Br_FW, Br_FP, Br_FB, nn_p, and_true, true_and, and_self, true_or, or_true, not_true_eq_false, not_false_eq_true, le_T, le_F, lt_T, lt_F, eq_T, eq_F, Int.add_zero, Int.zero_add, Int.one_mul, Int.mul_one, up_eq, up_ne, Int.add_assoc, Int.add_sub_cancel, Int.sub_zero, Int.sub_self, S_37_0, S_37_1, S_37_4, S_37_5, S_37_6, S_37_7, S_37_8, S_37_11, S_37_14, S_37_17, S_37_20, S_37_21, S_37_24, S_37_25, S_37_26, S_37_29, S_37_32, S_37_33, S_37_34, S_37_37, S_37_40, S_37_43, S_37_46, S_37_47, S_37_48, S_37_49, S_37_53, S_37_54, S_37_57, S_37_60, S_37_63, S_37_66, S_37_67, S_37_70, S_37_73, S_37_75, S_37_76, S_37_79, S_37_81, S_37_82, S_37_84, S_37_86, S_37_87, S_37_88, S_37_91, S_37_93, S_37_94, S_37_97, S_37_99, S_37_101, S_37_104, S_37_105, S_37_107, S_37_109, S_37_110, S_37_111, S_37_112, S_37_115, S_37_118, S_37_119, S_38_0, S_38_1, S_38_3, S_38_4, S_38_8, S_38_9, S_38_12, S_38_14, S_38_17, S_38_18, S_38_19, S_38_20, S_38_22, S_38_25, S_38_27, S_38_29, S_38_30, S_38_33, S_38_35, S_38_36, S_38_37, S_38_40, S_38_42, S_38_45, S_38_47, S_38_48, S_38_49, S_38_52, S_38_54, S_38_57, S_38_60, S_38_62, S_38_64, S_38_66, S_38_69, S_38_71, S_38_74, S_38_76, S_38_77, S_38_80, S_38_82, S_38_83, S_38_86, S_38_88, S_38_91, S_38_92, S_38_95, S_38_97, S_38_100, S_38_101, S_38_103, S_38_105, S_38_107, S_38_108, S_38_110, S_38_112, S_38_115, S_38_117, S_38_119, S_38_120, S_38_122, S_38_123, S_38_126, S_38_128, S_38_131, S_38_133, S_38_135, S_38_138, S_38_140, S_38_143, S_38_145, S_38_147, S_38_149, S_38_150, S_38_153, S_38_155, S_38_158, S_38_159, S_38_161, S_38_162, S_38_163, S_38_165, S_38_168, S_38_169, S_38_172, S_38_175, S_38_178, S_38_180, H_87, H_48, H_53, H_60, c_at_53, e53, cb0]))
      refine c_serve_l_60 (s := s3) (r := ysv A l n j (yrun A l n j)) W hw (fun o o0 o1 => CO_fr hf w2.2 rfl (hm o o0 o1)) hn ⟨j0, hj⟩ ?_ n.toNat s3 (A (100 + 6 * j), (yrun A l n j).1, (yrun A l n j).2.1, (yrun A l n j).2.2.1, 0) (Fr.rf s3) yk r1 r2 ?_ (fun _ _ _ => rfl) rfl 0 (by omega) _ _ _ _ _ (okF _) (okF _) (okF _) (okF _) (okF _)
      · intro s4 f4 c1 c2 c3 c4
        have e4 := f4.g 64 rfl
        have z4 : s4 64 j = 0 := by rw [e4]; exact r3j.1.trans lz
        have kk := kk (u s4 64 (up (s4 64) j (ysv A l n j (yrun A l n j)).1)) ⟨by omega, (hf.to f4 rfl).u rfl, ?_⟩ (.int (iI (A (100 + 6 * j)))) (.int (iI (ysv A l n j (yrun A l n j)).1)) rfl rfl
        · rw [hs] at kk
          repeat' (first | (with_reducible refine Br_i ?_ ?_ <;> (intro hbr; first | exact False.elim hbr | skip)) | (with_reducible refine Wl_i ?_) | (simp (disch := first | omega | exact okF _ | exact okI _ | exact okR _ | assumption | exact okN) only [u_at, iI_zero, iI_31, iI_add, iI_sub, iI_mul, iI_neg, ↓iI_max, ↓iI_min, iI_div, emod_f, iI_lt, iI_le, iI_inj, iI_toInt, ↓ii01, ↓ii11, ↓bI_b, bI_0, bI_1, Kt_s, Kt_n, cat0, cat1, cat2, cat3, cat4, rfV, Nat.reduceAdd, Nat.reduceMul, Nat.reduceEqDiff, Int.reduceAdd, Int.reduceSub, Int.reduceMul, Int.reduceNeg, Int.reduceLT, Int.reduceLE, Int.reduceEq, Int.reduceDiv, ↓reduceIte, ↓ite_ww, ↓ite_wi, Br_n, Br_TW, Br_FW, Br_FP, Br_FB, nn_p, and_true, true_and, and_self, true_or, or_true, not_true_eq_false, not_false_eq_true, le_T, le_F, lt_T, lt_F, eq_T, eq_F, Int.add_zero, Int.zero_add, Int.one_mul, Int.mul_one, up_eq, up_ne, Int.add_assoc, Int.add_sub_cancel, Int.sub_zero, Int.sub_self, S_37_0, S_37_1, S_37_4, S_37_5, S_37_6, S_37_7, S_37_8, S_37_11, S_37_14, S_37_17, S_37_20, S_37_21, S_37_24, S_37_25, S_37_26, S_37_29, S_37_32, S_37_33, S_37_34, S_37_37, S_37_40, S_37_43, S_37_46, S_37_47, S_37_48, S_37_49, S_37_53, S_37_54, S_37_57, S_37_60, S_37_63, S_37_66, S_37_67, S_37_70, S_37_73, S_37_75, S_37_76, S_37_79, S_37_81, S_37_82, S_37_84, S_37_86, S_37_87, S_37_88, S_37_91, S_37_93, S_37_94, S_37_97, S_37_99, S_37_101, S_37_104, S_37_105, S_37_107, S_37_109, S_37_110, S_37_111, S_37_112, S_37_115, S_37_118, S_37_119, H_60, c_raise_64, z4]))
          exact kk
        · rw [yrun_s j0]
          refine ⟨c1, c2, ?_⟩
          intro z z0 z1
          show up (s4 64) j _ z = up (yrun A l n j).2.2.2.1 j (ysv A l n j (yrun A l n j)).1 z ∧ s4 65 z = up (yrun A l n j).2.2.2.2 j (ysv A l n j (yrun A l n j)).2.2.2.2 z
          by_cases e : z = j
          · rw [e, up_eq rfl, up_eq rfl, up_eq rfl]
            exact ⟨rfl, c3⟩
          · rw [up_ne e, up_ne e, up_ne e, c4 z z0 e, e4]
            exact r3 z z0 z1
      · exact r3j.2.trans gz
    · intro s3 ⟨j0, hf, r⟩ v5 v6 o5 o6
      have e53 : s3 53004 0 = A 2 := by rw [hf.g 53004 rfl]; exact n2
      repeat' (first | (with_reducible refine Br_i ?_ ?_ <;> (intro hbr; first | exact False.elim hbr | skip)) | (with_reducible refine Wl_i ?_) | (simp (disch := first | omega | exact okF _ | exact okI _ | exact okR _ | assumption | exact okN) only [u_at, iI_zero, iI_31, iI_add, iI_sub, iI_mul, iI_neg, ↓iI_max, ↓iI_min, iI_div, emod_f, iI_lt, iI_le, iI_inj, iI_toInt, ↓ii01, ↓ii11, ↓bI_b, bI_0, bI_1, Kt_s, Kt_n, cat0, cat1, cat2, cat3, cat4, rfV, Nat.reduceAdd, Nat.reduceMul, Nat.reduceEqDiff, Int.reduceAdd, Int.reduceSub, Int.reduceMul, Int.reduceNeg, Int.reduceLT, Int.reduceLE, Int.reduceEq, Int.reduceDiv, ↓reduceIte, ↓ite_ww, ↓ite_wi, Br_n, Br_TW, Br_FW, Br_FP, Br_FB, nn_p, and_true, true_and, and_self, true_or, or_true, not_true_eq_false, not_false_eq_true, le_T, le_F, lt_T, lt_F, eq_T, eq_F, Int.add_zero, Int.zero_add, Int.one_mul, Int.mul_one, up_eq, up_ne, Int.add_assoc, Int.add_sub_cancel, Int.sub_zero, Int.sub_self, S_37_0, S_37_1, S_37_4, S_37_5, S_37_6, S_37_7, S_37_8, S_37_11, S_37_14, S_37_17, S_37_20, S_37_21, S_37_24, S_37_25, S_37_26, S_37_29, S_37_32, S_37_33, S_37_34, S_37_37, S_37_40, S_37_43, S_37_46, S_37_47, S_37_48, S_37_49, S_37_51, S_37_53, S_37_54, S_37_57, S_37_60, S_37_63, S_37_66, S_37_67, S_37_70, S_37_73, S_37_75, S_37_76, S_37_79, S_37_81, S_37_82, S_37_84, S_37_86, S_37_87, S_37_88, S_37_91, S_37_93, S_37_94, S_37_97, S_37_99, S_37_101, S_37_104, S_37_105, S_37_107, S_37_109, S_37_110, S_37_111, S_37_112, S_37_115, S_37_118, S_37_119, H_87, H_48, H_53, e53]))
      exact kk s3 hf r
  have loop1 : ∀ i s2, i ≤ A 1 → (0 ≤ i ∧ Fr [61, 62, 63, 64, 65] s s2 ∧ (∀ m, 0 ≤ m → m < 6 → s2 63 m = (if m < i then A (60 + 5 * m) else 0) ∧ s2 62 m = 0) ∧ (∀ o, 0 ≤ o → o < 22 → s2 61 o = 0) ∧ ∀ b, 0 ≤ b → b < 10 → s2 64 b = 0 ∧ s2 65 b = 0) → Wp (d + 4) 37 6 [.ref 87, .ref 60, .int (iI n), .int (iI i), .float 0, .float 0, .float 0] [] (hp X s2) Q := by
    refine lp ?_ ?_
    · intro i s2 hi ⟨i0, hf, h1, h2, h3⟩ kk
      have e51 : s2 51004 0 = A 1 := by rw [hf.g 51004 rfl]; exact n1
      have ck := (IC0_fr hf rfl hI).2.2.1 i i0 hi
      have ck0 : s2 52 (i * 4) = A (60 + 5 * i) := ck.1
      have z3 : s2 63 i = 0 := by rw [(h1 i i0 (by omega)).1, if_neg (by omega)]
      rw [S_37_6]
      repeat' (first | (with_reducible refine Br_i ?_ ?_ <;> (intro hbr; first | exact False.elim hbr | skip)) | (with_reducible refine Wl_i ?_) | (simp (disch := first | omega | exact okF _ | exact okI _ | exact okR _ | assumption | exact okN) only [u_at, iI_zero, iI_31, iI_add, iI_sub, iI_mul, iI_neg, ↓iI_max, ↓iI_min, iI_div, emod_f, iI_lt, iI_le, iI_inj, iI_toInt, ↓ii01, ↓ii11, ↓bI_b, bI_0, bI_1, Kt_s, Kt_n, cat0, cat1, cat2, cat3, cat4, rfV, Nat.reduceAdd, Nat.reduceMul, Nat.reduceEqDiff, Int.reduceAdd, Int.reduceSub, Int.reduceMul, Int.reduceNeg, Int.reduceLT, Int.reduceLE, Int.reduceEq, Int.reduceDiv, ↓reduceIte, ↓ite_ww, ↓ite_wi, Br_n, Br_TW, Br_FW, Br_FP, Br_FB, nn_p, and_true, true_and, and_self, true_or, or_true, not_true_eq_false, not_false_eq_true, le_T, le_F, lt_T, lt_F, eq_T, eq_F, Int.add_zero, Int.zero_add, Int.one_mul, Int.mul_one, up_eq, up_ne, Int.add_assoc, Int.add_sub_cancel, Int.sub_zero, Int.sub_self, S_37_0, S_37_1, S_37_4, S_37_5, S_37_7, S_37_8, S_37_11, S_37_14, S_37_17, S_37_20, S_37_21, S_37_24, S_37_25, S_37_26, S_37_29, S_37_32, S_37_33, S_37_34, S_37_37, S_37_40, S_37_43, S_37_46, S_37_47, S_37_48, S_37_49, S_37_51, S_37_53, S_37_54, S_37_57, S_37_60, S_37_63, S_37_66, S_37_67, S_37_70, S_37_73, S_37_75, S_37_76, S_37_79, S_37_81, S_37_82, S_37_84, S_37_86, S_37_87, S_37_88, S_37_91, S_37_93, S_37_94, S_37_97, S_37_99, S_37_101, S_37_104, S_37_105, S_37_107, S_37_109, S_37_110, S_37_111, S_37_112, S_37_115, S_37_118, S_37_119, H_87, H_48, H_51, H_60, c_raise_63, c_at_51, e51, ck0, z3]))
      refine kk _ ⟨by omega, hf.u rfl, ?_, h2, h3⟩
      intro m m0 m1
      show up (s2 63) _ _ m = _ ∧ _
      rw [up_at]
      refine ⟨?_, (h1 m m0 m1).2⟩
      by_cases e : m = i
      · rw [if_pos e, if_pos (by omega), e]
      · rw [if_neg e, (h1 m m0 m1).1]
        by_cases c : m < i
        · rw [if_pos c, if_pos (by omega)]
        · rw [if_neg c, if_neg (by omega)]
    · intro s2 ⟨i0, hf, h1, h2, h3⟩
      have e51 : s2 51004 0 = A 1 := by rw [hf.g 51004 rfl]; exact n1
      have l2 := loop2 0 s2 w2.1 ⟨by omega, hf, ?_⟩ (.float 0) (.float 0) rfl rfl
      · rw [show ysum A l n 0 = 0 from sm_0 _] at l2
        repeat' (first | (with_reducible refine Br_i ?_ ?_ <;> (intro hbr; first | exact False.elim hbr | skip)) | (with_reducible refine Wl_i ?_) | (simp (disch := first | omega | exact okF _ | exact okI _ | exact okR _ | assumption | exact okN) only [u_at, iI_zero, iI_31, iI_add, iI_sub, iI_mul, iI_neg, ↓iI_max, ↓iI_min, iI_div, emod_f, iI_lt, iI_le, iI_inj, iI_toInt, ↓ii01, ↓ii11, ↓bI_b, bI_0, bI_1, Kt_s, Kt_n, cat0, cat1, cat2, cat3, cat4, rfV, Nat.reduceAdd, Nat.reduceMul, Nat.reduceEqDiff, Int.reduceAdd, Int.reduceSub, Int.reduceMul, Int.reduceNeg, Int.reduceLT, Int.reduceLE, Int.reduceEq, Int.reduceDiv, ↓reduceIte, ↓ite_ww, ↓ite_wi, Br_n, Br_TW, Br_FW, Br_FP, Br_FB, nn_p, and_true, true_and, and_self, true_or, or_true, not_true_eq_false, not_false_eq_true, le_T, le_F, lt_T, lt_F, eq_T, eq_F, Int.add_zero, Int.zero_add, Int.one_mul, Int.mul_one, up_eq, up_ne, Int.add_assoc, Int.add_sub_cancel, Int.sub_zero, Int.sub_self, S_37_0, S_37_1, S_37_4, S_37_5, S_37_6, S_37_7, S_37_8, S_37_11, S_37_14, S_37_17, S_37_20, S_37_21, S_37_24, S_37_25, S_37_26, S_37_29, S_37_32, S_37_33, S_37_34, S_37_37, S_37_40, S_37_43, S_37_46, S_37_47, S_37_48, S_37_49, S_37_53, S_37_54, S_37_57, S_37_60, S_37_63, S_37_66, S_37_67, S_37_70, S_37_73, S_37_75, S_37_76, S_37_79, S_37_81, S_37_82, S_37_84, S_37_86, S_37_87, S_37_88, S_37_91, S_37_93, S_37_94, S_37_97, S_37_99, S_37_101, S_37_104, S_37_105, S_37_107, S_37_109, S_37_110, S_37_111, S_37_112, S_37_115, S_37_118, S_37_119, H_87, H_48, H_51, e51]))
        exact l2
      · rw [yrun_0]
        refine ⟨fun m m0 m1 => ?_, h2, h3⟩
        show s2 63 m = (if 0 ≤ m ∧ m < A 1 then A (60 + 5 * m) else 0) ∧ s2 62 m = 0
        refine ⟨?_, (h1 m m0 m1).2⟩
        rw [(h1 m m0 m1).1]
        by_cases c : m < A 1
        · rw [if_pos c, if_pos ⟨m0, c⟩]
        · rw [if_neg c, if_neg (fun q => c q.2)]
  repeat' (first | (with_reducible refine Br_i ?_ ?_ <;> (intro hbr; first | exact False.elim hbr | skip)) | (with_reducible refine Wl_i ?_) | (simp (disch := first | omega | exact okF _ | exact okI _ | exact okR _ | assumption | exact okN) only [u_at, iI_zero, iI_31, iI_add, iI_sub, iI_mul, iI_neg, ↓iI_max, ↓iI_min, iI_div, emod_f, iI_lt, iI_le, iI_inj, iI_toInt, ↓ii01, ↓ii11, ↓bI_b, bI_0, bI_1, Kt_s, Kt_n, cat0, cat1, cat2, cat3, cat4, rfV, Nat.reduceAdd, Nat.reduceMul, Nat.reduceEqDiff, Int.reduceAdd, Int.reduceSub, Int.reduceMul, Int.reduceNeg, Int.reduceLT, Int.reduceLE, Int.reduceEq, Int.reduceDiv, ↓reduceIte, ↓ite_ww, ↓ite_wi, Br_n, Br_TW, Br_FW, Br_FP, Br_FB, nn_p, and_true, true_and, and_self, true_or, or_true, not_true_eq_false, not_false_eq_true, le_T, le_F, lt_T, lt_F, eq_T, eq_F, Int.add_zero, Int.zero_add, Int.one_mul, Int.mul_one, up_eq, up_ne, Int.add_assoc, Int.add_sub_cancel, Int.sub_zero, Int.sub_self, S_37_0, S_37_1, S_37_4, S_37_5, S_37_7, S_37_8, S_37_11, S_37_14, S_37_17, S_37_20, S_37_21, S_37_24, S_37_25, S_37_26, S_37_29, S_37_32, S_37_33, S_37_34, S_37_37, S_37_40, S_37_43, S_37_46, S_37_47, S_37_48, S_37_49, S_37_51, S_37_53, S_37_54, S_37_57, S_37_60, S_37_63, S_37_66, S_37_67, S_37_70, S_37_73, S_37_75, S_37_76, S_37_79, S_37_81, S_37_82, S_37_84, S_37_86, S_37_87, S_37_88, S_37_91, S_37_93, S_37_94, S_37_97, S_37_99, S_37_101, S_37_104, S_37_105, S_37_107, S_37_109, S_37_110, S_37_111, S_37_112, S_37_115, S_37_118, S_37_119, H_60, c_clear_60]))
  refine loop1 0 _ w1.1 ⟨by omega, ?_, ?_, ?_, ?_⟩
  · exact (by repeat (first | exact Fr.rf _ | refine Fr.u ?_ rfl))
  · intro m m0 m1
    show fillF (s 63) 0 6 m = _ ∧ fillF (s 62) 0 6 m = _
    rw [fillF_i ⟨m0, m1⟩, fillF_i ⟨m0, m1⟩, if_neg (by omega)]
    exact ⟨rfl, rfl⟩
  · intro o o0 o1
    show fillF (s 61) 0 22 o = _
    rw [fillF_i ⟨o0, o1⟩]
  · intro b b0 b1
    show fillF (s 64) 0 10 b = _ ∧ fillF (s 65) 0 10 b = _
    rw [fillF_i ⟨b0, b1⟩, fillF_i ⟨b0, b1⟩]
    exact ⟨rfl, rfl⟩
theorem c_run_106 (hI : IC0 0 s A) (W : WF0 A) (hw : ∀ o, 0 ≤ o → o < n → WO A o) (hm : ∀ o, 0 ≤ o → o < n → CO A l o s) (hn : 0 ≤ n ∧ n ≤ 22) (kk : ∀ s', Fr [107, 108, 109, 110, 111] s s' → RC 106 s' (year A l n) → Q (some (.int (iI (ysum A l n (A 2))))) (hp X s')) : Wp (d + 4) 37 0 [.ref 87, .ref 106, .int (iI n), .float 0, .float 0, .float 0, .float 0] [] (hp X s) Q := by
  have w2 := W.1.2.2.1
  have w1 := W.1.2.1
  have n2 : s 53004 0 = A 2 := hI.1.2.2.1
  have n1 : s 51004 0 = A 1 := hI.1.2.1
  have loop2 : ∀ j s3, j ≤ A 2 → (0 ≤ j ∧ Fr [107, 108, 109, 110, 111] s s3 ∧ RC 106 s3 (yrun A l n j)) → ∀ v5 v6, okO v5 = true → okO v6 = true → Wp (d + 4) 37 51 [.ref 87, .ref 106, .int (iI n), .int (iI (ysum A l n j)), .int (iI j), v5, v6] [] (hp X s3) Q := by
    refine lp ?_ ?_
    · intro j s3 hj ⟨j0, hf, r1, r2, r3⟩ kk v5 v6 o5 o6
      have e53 : s3 53004 0 = A 2 := by rw [hf.g 53004 rfl]; exact n2
      have cb := (IC0_fr hf rfl hI).2.2.2.1 j j0 hj
      have cb0 : s3 54 (j * 4) = A (100 + 6 * j) := cb.1
      have wb := (W.2.2.2.1 j j0 hj).1
      have yk : yOK A (A (100 + 6 * j), (yrun A l n j).1, (yrun A l n j).2.1, (yrun A l n j).2.2.1, 0) := ⟨by show 0 ≤ A (100 + 6 * j) ∧ A (100 + 6 * j) ≤ 999; omega, yrun_ok W hn.1 hw j0 (by omega)⟩
      have sok := srv_ok (l := l) (b := j) hn.1 hw n.toNat _ yk
      have sok1 : 0 ≤ (ysv A l n j (yrun A l n j)).1 ∧ (ysv A l n j (yrun A l n j)).1 ≤ 999 := sok.1
      have hs : ysum A l n (j + 1) = ysum A l n j + (A (100 + 6 * j) - (ysv A l n j (yrun A l n j)).1) := sm_s j0
      have r3j := r3 j j0 (by omega)
      have gz : (yrun A l n j).2.2.2.2 j = 0 := by
        refine i_ind (P := fun z => z ≤ j → (yrun A l n z).2.2.2.2 j = 0) j0 (fun _ => by rw [yrun_0]; rfl) ?_ (Int.le_refl j)
        intro z z0 z1 ih z2
        rw [yrun_s z0]
        show up (yrun A l n z).2.2.2.2 z _ j = 0
        rw [up_ne (by omega)]
        exact ih (by omega)
      have lz : (yrun A l n j).2.2.2.1 j = 0 := by
        refine i_ind (P := fun z => z ≤ j → (yrun A l n z).2.2.2.1 j = 0) j0 (fun _ => by rw [yrun_0]; rfl) ?_ (Int.le_refl j)
        intro z z0 z1 ih z2
        rw [yrun_s z0]
        show up (yrun A l n z).2.2.2.1 z _ j = 0
        rw [up_ne (by omega)]
        exact ih (by omega)
      rw [S_37_51]
      repeat' (first | (with_reducible refine Br_i ?_ ?_ <;> (intro hbr; first | exact False.elim hbr | skip)) | (with_reducible refine Wl_i ?_) | (simp (disch := first | omega | exact okF _ | exact okI _ | exact okR _ | assumption | exact okN) only [u_at, iI_zero, iI_31, iI_add, iI_sub, iI_mul, iI_neg, ↓iI_max, ↓iI_min, iI_div, emod_f, iI_lt, iI_le, iI_inj, iI_toInt, ↓ii01, ↓ii11, ↓bI_b, bI_0, bI_1, Kt_s, Kt_n, cat0, cat1, cat2, cat3, cat4, rfV, Nat.reduceAdd, Nat.reduceMul, Nat.reduceEqDiff, Int.reduceAdd, Int.reduceSub, Int.reduceMul, Int.reduceNeg, Int.reduceLT, Int.reduceLE, Int.reduceEq, Int.reduceDiv, ↓reduceIte, ↓ite_ww, ↓ite_wi, Br_n, Br_TW, Br_FW, Br_FP, Br_FB, nn_p, and_true, true_and, and_self, true_or, or_true, not_true_eq_false, not_false_eq_true, le_T, le_F, lt_T, lt_F, eq_T, eq_F, Int.add_zero, Int.zero_add, Int.one_mul, Int.mul_one, up_eq, up_ne, Int.add_assoc, Int.add_sub_cancel, Int.sub_zero, Int.sub_self, S_37_0, S_37_1, S_37_4, S_37_5, S_37_6, S_37_7, S_37_8, S_37_11, S_37_14, S_37_17, S_37_20, S_37_21, S_37_24, S_37_25, S_37_26, S_37_29, S_37_32, S_37_33, S_37_34, S_37_37, S_37_40, S_37_43, S_37_46, S_37_47, S_37_48, S_37_49, S_37_53, S_37_54, S_37_57, S_37_60, S_37_63, S_37_66, S_37_67, S_37_70, S_37_73, S_37_75, S_37_76, S_37_79, S_37_81, S_37_82, S_37_84, S_37_86, S_37_87, S_37_88, S_37_91, S_37_93, S_37_94, S_37_97, S_37_99, S_37_101, S_37_104, S_37_105, S_37_107, S_37_109, S_37_110, S_37_111, S_37_112, S_37_115, S_37_118, S_37_119, S_38_0, S_38_1, S_38_3, S_38_4, S_38_8, S_38_9, S_38_12, S_38_14, S_38_17, S_38_18, S_38_19, S_38_20, S_38_22, S_38_25, S_38_27, S_38_29, S_38_30, S_38_33, S_38_35, S_38_36, S_38_37, S_38_40, S_38_42, S_38_45, S_38_47, S_38_48, S_38_49, S_38_52, S_38_54, S_38_57, S_38_60, S_38_62, S_38_64, S_38_66, S_38_69, S_38_71, S_38_74, S_38_76, S_38_77, S_38_80, S_38_82, S_38_83, S_38_86, S_38_88, S_38_91, S_38_92, S_38_95, S_38_97, S_38_100, S_38_101, S_38_103, S_38_105, S_38_107, S_38_108, S_38_110, S_38_112, S_38_115, S_38_117, S_38_119, S_38_120, S_38_122, S_38_123, S_38_126, S_38_128, S_38_131, S_38_133, S_38_135, S_38_138, S_38_140, S_38_143, S_38_145, S_38_147, S_38_149, S_38_150, S_38_153, S_38_155, S_38_158, S_38_159, S_38_161, S_38_162, S_38_163, S_38_165, S_38_168, S_38_169, S_38_172, S_38_175, S_38_178, S_38_180, H_87, H_48, H_53, H_106, c_at_53, e53, cb0]))
      refine c_serve_l_106 (s := s3) (r := ysv A l n j (yrun A l n j)) W hw (fun o o0 o1 => CO_fr hf w2.2 rfl (hm o o0 o1)) hn ⟨j0, hj⟩ ?_ n.toNat s3 (A (100 + 6 * j), (yrun A l n j).1, (yrun A l n j).2.1, (yrun A l n j).2.2.1, 0) (Fr.rf s3) yk r1 r2 ?_ (fun _ _ _ => rfl) rfl 0 (by omega) _ _ _ _ _ (okF _) (okF _) (okF _) (okF _) (okF _)
      · intro s4 f4 c1 c2 c3 c4
        have e4 := f4.g 110 rfl
        have z4 : s4 110 j = 0 := by rw [e4]; exact r3j.1.trans lz
        have kk := kk (u s4 110 (up (s4 110) j (ysv A l n j (yrun A l n j)).1)) ⟨by omega, (hf.to f4 rfl).u rfl, ?_⟩ (.int (iI (A (100 + 6 * j)))) (.int (iI (ysv A l n j (yrun A l n j)).1)) rfl rfl
        · rw [hs] at kk
          repeat' (first | (with_reducible refine Br_i ?_ ?_ <;> (intro hbr; first | exact False.elim hbr | skip)) | (with_reducible refine Wl_i ?_) | (simp (disch := first | omega | exact okF _ | exact okI _ | exact okR _ | assumption | exact okN) only [u_at, iI_zero, iI_31, iI_add, iI_sub, iI_mul, iI_neg, ↓iI_max, ↓iI_min, iI_div, emod_f, iI_lt, iI_le, iI_inj, iI_toInt, ↓ii01, ↓ii11, ↓bI_b, bI_0, bI_1, Kt_s, Kt_n, cat0, cat1, cat2, cat3, cat4, rfV, Nat.reduceAdd, Nat.reduceMul, Nat.reduceEqDiff, Int.reduceAdd, Int.reduceSub, Int.reduceMul, Int.reduceNeg, Int.reduceLT, Int.reduceLE, Int.reduceEq, Int.reduceDiv, ↓reduceIte, ↓ite_ww, ↓ite_wi, Br_n, Br_TW, Br_FW, Br_FP, Br_FB, nn_p, and_true, true_and, and_self, true_or, or_true, not_true_eq_false, not_false_eq_true, le_T, le_F, lt_T, lt_F, eq_T, eq_F, Int.add_zero, Int.zero_add, Int.one_mul, Int.mul_one, up_eq, up_ne, Int.add_assoc, Int.add_sub_cancel, Int.sub_zero, Int.sub_self, S_37_0, S_37_1, S_37_4, S_37_5, S_37_6, S_37_7, S_37_8, S_37_11, S_37_14, S_37_17, S_37_20, S_37_21, S_37_24, S_37_25, S_37_26, S_37_29, S_37_32, S_37_33, S_37_34, S_37_37, S_37_40, S_37_43, S_37_46, S_37_47, S_37_48, S_37_49, S_37_53, S_37_54, S_37_57, S_37_60, S_37_63, S_37_66, S_37_67, S_37_70, S_37_73, S_37_75, S_37_76, S_37_79, S_37_81, S_37_82, S_37_84, S_37_86, S_37_87, S_37_88, S_37_91, S_37_93, S_37_94, S_37_97, S_37_99, S_37_101, S_37_104, S_37_105, S_37_107, S_37_109, S_37_110, S_37_111, S_37_112, S_37_115, S_37_118, S_37_119, H_106, c_raise_110, z4]))
          exact kk
        · rw [yrun_s j0]
          refine ⟨c1, c2, ?_⟩
          intro z z0 z1
          show up (s4 110) j _ z = up (yrun A l n j).2.2.2.1 j (ysv A l n j (yrun A l n j)).1 z ∧ s4 111 z = up (yrun A l n j).2.2.2.2 j (ysv A l n j (yrun A l n j)).2.2.2.2 z
          by_cases e : z = j
          · rw [e, up_eq rfl, up_eq rfl, up_eq rfl]
            exact ⟨rfl, c3⟩
          · rw [up_ne e, up_ne e, up_ne e, c4 z z0 e, e4]
            exact r3 z z0 z1
      · exact r3j.2.trans gz
    · intro s3 ⟨j0, hf, r⟩ v5 v6 o5 o6
      have e53 : s3 53004 0 = A 2 := by rw [hf.g 53004 rfl]; exact n2
      repeat' (first | (with_reducible refine Br_i ?_ ?_ <;> (intro hbr; first | exact False.elim hbr | skip)) | (with_reducible refine Wl_i ?_) | (simp (disch := first | omega | exact okF _ | exact okI _ | exact okR _ | assumption | exact okN) only [u_at, iI_zero, iI_31, iI_add, iI_sub, iI_mul, iI_neg, ↓iI_max, ↓iI_min, iI_div, emod_f, iI_lt, iI_le, iI_inj, iI_toInt, ↓ii01, ↓ii11, ↓bI_b, bI_0, bI_1, Kt_s, Kt_n, cat0, cat1, cat2, cat3, cat4, rfV, Nat.reduceAdd, Nat.reduceMul, Nat.reduceEqDiff, Int.reduceAdd, Int.reduceSub, Int.reduceMul, Int.reduceNeg, Int.reduceLT, Int.reduceLE, Int.reduceEq, Int.reduceDiv, ↓reduceIte, ↓ite_ww, ↓ite_wi, Br_n, Br_TW, Br_FW, Br_FP, Br_FB, nn_p, and_true, true_and, and_self, true_or, or_true, not_true_eq_false, not_false_eq_true, le_T, le_F, lt_T, lt_F, eq_T, eq_F, Int.add_zero, Int.zero_add, Int.one_mul, Int.mul_one, up_eq, up_ne, Int.add_assoc, Int.add_sub_cancel, Int.sub_zero, Int.sub_self, S_37_0, S_37_1, S_37_4, S_37_5, S_37_6, S_37_7, S_37_8, S_37_11, S_37_14, S_37_17, S_37_20, S_37_21, S_37_24, S_37_25, S_37_26, S_37_29, S_37_32, S_37_33, S_37_34, S_37_37, S_37_40, S_37_43, S_37_46, S_37_47, S_37_48, S_37_49, S_37_51, S_37_53, S_37_54, S_37_57, S_37_60, S_37_63, S_37_66, S_37_67, S_37_70, S_37_73, S_37_75, S_37_76, S_37_79, S_37_81, S_37_82, S_37_84, S_37_86, S_37_87, S_37_88, S_37_91, S_37_93, S_37_94, S_37_97, S_37_99, S_37_101, S_37_104, S_37_105, S_37_107, S_37_109, S_37_110, S_37_111, S_37_112, S_37_115, S_37_118, S_37_119, H_87, H_48, H_53, e53]))
      exact kk s3 hf r
  have loop1 : ∀ i s2, i ≤ A 1 → (0 ≤ i ∧ Fr [107, 108, 109, 110, 111] s s2 ∧ (∀ m, 0 ≤ m → m < 6 → s2 109 m = (if m < i then A (60 + 5 * m) else 0) ∧ s2 108 m = 0) ∧ (∀ o, 0 ≤ o → o < 22 → s2 107 o = 0) ∧ ∀ b, 0 ≤ b → b < 10 → s2 110 b = 0 ∧ s2 111 b = 0) → Wp (d + 4) 37 6 [.ref 87, .ref 106, .int (iI n), .int (iI i), .float 0, .float 0, .float 0] [] (hp X s2) Q := by
    refine lp ?_ ?_
    · intro i s2 hi ⟨i0, hf, h1, h2, h3⟩ kk
      have e51 : s2 51004 0 = A 1 := by rw [hf.g 51004 rfl]; exact n1
      have ck := (IC0_fr hf rfl hI).2.2.1 i i0 hi
      have ck0 : s2 52 (i * 4) = A (60 + 5 * i) := ck.1
      have z3 : s2 109 i = 0 := by rw [(h1 i i0 (by omega)).1, if_neg (by omega)]
      rw [S_37_6]
      repeat' (first | (with_reducible refine Br_i ?_ ?_ <;> (intro hbr; first | exact False.elim hbr | skip)) | (with_reducible refine Wl_i ?_) | (simp (disch := first | omega | exact okF _ | exact okI _ | exact okR _ | assumption | exact okN) only [u_at, iI_zero, iI_31, iI_add, iI_sub, iI_mul, iI_neg, ↓iI_max, ↓iI_min, iI_div, emod_f, iI_lt, iI_le, iI_inj, iI_toInt, ↓ii01, ↓ii11, ↓bI_b, bI_0, bI_1, Kt_s, Kt_n, cat0, cat1, cat2, cat3, cat4, rfV, Nat.reduceAdd, Nat.reduceMul, Nat.reduceEqDiff, Int.reduceAdd, Int.reduceSub, Int.reduceMul, Int.reduceNeg, Int.reduceLT, Int.reduceLE, Int.reduceEq, Int.reduceDiv, ↓reduceIte, ↓ite_ww, ↓ite_wi, Br_n, Br_TW, Br_FW, Br_FP, Br_FB, nn_p, and_true, true_and, and_self, true_or, or_true, not_true_eq_false, not_false_eq_true, le_T, le_F, lt_T, lt_F, eq_T, eq_F, Int.add_zero, Int.zero_add, Int.one_mul, Int.mul_one, up_eq, up_ne, Int.add_assoc, Int.add_sub_cancel, Int.sub_zero, Int.sub_self, S_37_0, S_37_1, S_37_4, S_37_5, S_37_7, S_37_8, S_37_11, S_37_14, S_37_17, S_37_20, S_37_21, S_37_24, S_37_25, S_37_26, S_37_29, S_37_32, S_37_33, S_37_34, S_37_37, S_37_40, S_37_43, S_37_46, S_37_47, S_37_48, S_37_49, S_37_51, S_37_53, S_37_54, S_37_57, S_37_60, S_37_63, S_37_66, S_37_67, S_37_70, S_37_73, S_37_75, S_37_76, S_37_79, S_37_81, S_37_82, S_37_84, S_37_86, S_37_87, S_37_88, S_37_91, S_37_93, S_37_94, S_37_97, S_37_99, S_37_101, S_37_104, S_37_105, S_37_107, S_37_109, S_37_110, S_37_111, S_37_112, S_37_115, S_37_118, S_37_119, H_87, H_48, H_51, H_106, c_raise_109, c_at_51, e51, ck0, z3]))
      refine kk _ ⟨by omega, hf.u rfl, ?_, h2, h3⟩
      intro m m0 m1
      show up (s2 109) _ _ m = _ ∧ _
      rw [up_at]
      refine ⟨?_, (h1 m m0 m1).2⟩
      by_cases e : m = i
      · rw [if_pos e, if_pos (by omega), e]
      · rw [if_neg e, (h1 m m0 m1).1]
        by_cases c : m < i
        · rw [if_pos c, if_pos (by omega)]
        · rw [if_neg c, if_neg (by omega)]
    · intro s2 ⟨i0, hf, h1, h2, h3⟩
      have e51 : s2 51004 0 = A 1 := by rw [hf.g 51004 rfl]; exact n1
      have l2 := loop2 0 s2 w2.1 ⟨by omega, hf, ?_⟩ (.float 0) (.float 0) rfl rfl
      · rw [show ysum A l n 0 = 0 from sm_0 _] at l2
        repeat' (first | (with_reducible refine Br_i ?_ ?_ <;> (intro hbr; first | exact False.elim hbr | skip)) | (with_reducible refine Wl_i ?_) | (simp (disch := first | omega | exact okF _ | exact okI _ | exact okR _ | assumption | exact okN) only [u_at, iI_zero, iI_31, iI_add, iI_sub, iI_mul, iI_neg, ↓iI_max, ↓iI_min, iI_div, emod_f, iI_lt, iI_le, iI_inj, iI_toInt, ↓ii01, ↓ii11, ↓bI_b, bI_0, bI_1, Kt_s, Kt_n, cat0, cat1, cat2, cat3, cat4, rfV, Nat.reduceAdd, Nat.reduceMul, Nat.reduceEqDiff, Int.reduceAdd, Int.reduceSub, Int.reduceMul, Int.reduceNeg, Int.reduceLT, Int.reduceLE, Int.reduceEq, Int.reduceDiv, ↓reduceIte, ↓ite_ww, ↓ite_wi, Br_n, Br_TW, Br_FW, Br_FP, Br_FB, nn_p, and_true, true_and, and_self, true_or, or_true, not_true_eq_false, not_false_eq_true, le_T, le_F, lt_T, lt_F, eq_T, eq_F, Int.add_zero, Int.zero_add, Int.one_mul, Int.mul_one, up_eq, up_ne, Int.add_assoc, Int.add_sub_cancel, Int.sub_zero, Int.sub_self, S_37_0, S_37_1, S_37_4, S_37_5, S_37_6, S_37_7, S_37_8, S_37_11, S_37_14, S_37_17, S_37_20, S_37_21, S_37_24, S_37_25, S_37_26, S_37_29, S_37_32, S_37_33, S_37_34, S_37_37, S_37_40, S_37_43, S_37_46, S_37_47, S_37_48, S_37_49, S_37_53, S_37_54, S_37_57, S_37_60, S_37_63, S_37_66, S_37_67, S_37_70, S_37_73, S_37_75, S_37_76, S_37_79, S_37_81, S_37_82, S_37_84, S_37_86, S_37_87, S_37_88, S_37_91, S_37_93, S_37_94, S_37_97, S_37_99, S_37_101, S_37_104, S_37_105, S_37_107, S_37_109, S_37_110, S_37_111, S_37_112, S_37_115, S_37_118, S_37_119, H_87, H_48, H_51, e51]))
        exact l2
      · rw [yrun_0]
        refine ⟨fun m m0 m1 => ?_, h2, h3⟩
        show s2 109 m = (if 0 ≤ m ∧ m < A 1 then A (60 + 5 * m) else 0) ∧ s2 108 m = 0
        refine ⟨?_, (h1 m m0 m1).2⟩
        rw [(h1 m m0 m1).1]
        by_cases c : m < A 1
        · rw [if_pos c, if_pos ⟨m0, c⟩]
        · rw [if_neg c, if_neg (fun q => c q.2)]
  repeat' (first | (with_reducible refine Br_i ?_ ?_ <;> (intro hbr; first | exact False.elim hbr | skip)) | (with_reducible refine Wl_i ?_) | (simp (disch := first | omega | exact okF _ | exact okI _ | exact okR _ | assumption | exact okN) only [u_at, iI_zero, iI_31, iI_add, iI_sub, iI_mul, iI_neg, ↓iI_max, ↓iI_min, iI_div, emod_f, iI_lt, iI_le, iI_inj, iI_toInt, ↓ii01, ↓ii11, ↓bI_b, bI_0, bI_1, Kt_s, Kt_n, cat0, cat1, cat2, cat3, cat4, rfV, Nat.reduceAdd, Nat.reduceMul, Nat.reduceEqDiff, Int.reduceAdd, Int.reduceSub, Int.reduceMul, Int.reduceNeg, Int.reduceLT, Int.reduceLE, Int.reduceEq, Int.reduceDiv, ↓reduceIte, ↓ite_ww, ↓ite_wi, Br_n, Br_TW, Br_FW, Br_FP, Br_FB, nn_p, and_true, true_and, and_self, true_or, or_true, not_true_eq_false, not_false_eq_true, le_T, le_F, lt_T, lt_F, eq_T, eq_F, Int.add_zero, Int.zero_add, Int.one_mul, Int.mul_one, up_eq, up_ne, Int.add_assoc, Int.add_sub_cancel, Int.sub_zero, Int.sub_self, S_37_0, S_37_1, S_37_4, S_37_5, S_37_7, S_37_8, S_37_11, S_37_14, S_37_17, S_37_20, S_37_21, S_37_24, S_37_25, S_37_26, S_37_29, S_37_32, S_37_33, S_37_34, S_37_37, S_37_40, S_37_43, S_37_46, S_37_47, S_37_48, S_37_49, S_37_51, S_37_53, S_37_54, S_37_57, S_37_60, S_37_63, S_37_66, S_37_67, S_37_70, S_37_73, S_37_75, S_37_76, S_37_79, S_37_81, S_37_82, S_37_84, S_37_86, S_37_87, S_37_88, S_37_91, S_37_93, S_37_94, S_37_97, S_37_99, S_37_101, S_37_104, S_37_105, S_37_107, S_37_109, S_37_110, S_37_111, S_37_112, S_37_115, S_37_118, S_37_119, H_106, c_clear_106]))
  refine loop1 0 _ w1.1 ⟨by omega, ?_, ?_, ?_, ?_⟩
  · exact (by repeat (first | exact Fr.rf _ | refine Fr.u ?_ rfl))
  · intro m m0 m1
    show fillF (s 109) 0 6 m = _ ∧ fillF (s 108) 0 6 m = _
    rw [fillF_i ⟨m0, m1⟩, fillF_i ⟨m0, m1⟩, if_neg (by omega)]
    exact ⟨rfl, rfl⟩
  · intro o o0 o1
    show fillF (s 107) 0 22 o = _
    rw [fillF_i ⟨o0, o1⟩]
  · intro b b0 b1
    show fillF (s 110) 0 10 b = _ ∧ fillF (s 111) 0 10 b = _
    rw [fillF_i ⟨b0, b1⟩, fillF_i ⟨b0, b1⟩]
    exact ⟨rfl, rfl⟩
theorem c_run_112 (hI : IC0 0 s A) (W : WF0 A) (hw : ∀ o, 0 ≤ o → o < n → WO A o) (hm : ∀ o, 0 ≤ o → o < n → CO A l o s) (hn : 0 ≤ n ∧ n ≤ 22) (kk : ∀ s', Fr [113, 114, 115, 116, 117] s s' → RC 112 s' (year A l n) → Q (some (.int (iI (ysum A l n (A 2))))) (hp X s')) : Wp (d + 4) 37 0 [.ref 87, .ref 112, .int (iI n), .float 0, .float 0, .float 0, .float 0] [] (hp X s) Q := by
  have w2 := W.1.2.2.1
  have w1 := W.1.2.1
  have n2 : s 53004 0 = A 2 := hI.1.2.2.1
  have n1 : s 51004 0 = A 1 := hI.1.2.1
  have loop2 : ∀ j s3, j ≤ A 2 → (0 ≤ j ∧ Fr [113, 114, 115, 116, 117] s s3 ∧ RC 112 s3 (yrun A l n j)) → ∀ v5 v6, okO v5 = true → okO v6 = true → Wp (d + 4) 37 51 [.ref 87, .ref 112, .int (iI n), .int (iI (ysum A l n j)), .int (iI j), v5, v6] [] (hp X s3) Q := by
    refine lp ?_ ?_
    · intro j s3 hj ⟨j0, hf, r1, r2, r3⟩ kk v5 v6 o5 o6
      have e53 : s3 53004 0 = A 2 := by rw [hf.g 53004 rfl]; exact n2
      have cb := (IC0_fr hf rfl hI).2.2.2.1 j j0 hj
      have cb0 : s3 54 (j * 4) = A (100 + 6 * j) := cb.1
      have wb := (W.2.2.2.1 j j0 hj).1
      have yk : yOK A (A (100 + 6 * j), (yrun A l n j).1, (yrun A l n j).2.1, (yrun A l n j).2.2.1, 0) := ⟨by show 0 ≤ A (100 + 6 * j) ∧ A (100 + 6 * j) ≤ 999; omega, yrun_ok W hn.1 hw j0 (by omega)⟩
      have sok := srv_ok (l := l) (b := j) hn.1 hw n.toNat _ yk
      have sok1 : 0 ≤ (ysv A l n j (yrun A l n j)).1 ∧ (ysv A l n j (yrun A l n j)).1 ≤ 999 := sok.1
      have hs : ysum A l n (j + 1) = ysum A l n j + (A (100 + 6 * j) - (ysv A l n j (yrun A l n j)).1) := sm_s j0
      have r3j := r3 j j0 (by omega)
      have gz : (yrun A l n j).2.2.2.2 j = 0 := by
        refine i_ind (P := fun z => z ≤ j → (yrun A l n z).2.2.2.2 j = 0) j0 (fun _ => by rw [yrun_0]; rfl) ?_ (Int.le_refl j)
        intro z z0 z1 ih z2
        rw [yrun_s z0]
        show up (yrun A l n z).2.2.2.2 z _ j = 0
        rw [up_ne (by omega)]
        exact ih (by omega)
      have lz : (yrun A l n j).2.2.2.1 j = 0 := by
        refine i_ind (P := fun z => z ≤ j → (yrun A l n z).2.2.2.1 j = 0) j0 (fun _ => by rw [yrun_0]; rfl) ?_ (Int.le_refl j)
        intro z z0 z1 ih z2
        rw [yrun_s z0]
        show up (yrun A l n z).2.2.2.1 z _ j = 0
        rw [up_ne (by omega)]
        exact ih (by omega)
      rw [S_37_51]
      repeat' (first | (with_reducible refine Br_i ?_ ?_ <;> (intro hbr; first | exact False.elim hbr | skip)) | (with_reducible refine Wl_i ?_) | (simp (disch := first | omega | exact okF _ | exact okI _ | exact okR _ | assumption | exact okN) only [u_at, iI_zero, iI_31, iI_add, iI_sub, iI_mul, iI_neg, ↓iI_max, ↓iI_min, iI_div, emod_f, iI_lt, iI_le, iI_inj, iI_toInt, ↓ii01, ↓ii11, ↓bI_b, bI_0, bI_1, Kt_s, Kt_n, cat0, cat1, cat2, cat3, cat4, rfV, Nat.reduceAdd, Nat.reduceMul, Nat.reduceEqDiff, Int.reduceAdd, Int.reduceSub, Int.reduceMul, Int.reduceNeg, Int.reduceLT, Int.reduceLE, Int.reduceEq, Int.reduceDiv, ↓reduceIte, ↓ite_ww, ↓ite_wi, Br_n, Br_TW, Br_FW, Br_FP, Br_FB, nn_p, and_true, true_and, and_self, true_or, or_true, not_true_eq_false, not_false_eq_true, le_T, le_F, lt_T, lt_F, eq_T, eq_F, Int.add_zero, Int.zero_add, Int.one_mul, Int.mul_one, up_eq, up_ne, Int.add_assoc, Int.add_sub_cancel, Int.sub_zero, Int.sub_self, S_37_0, S_37_1, S_37_4, S_37_5, S_37_6, S_37_7, S_37_8, S_37_11, S_37_14, S_37_17, S_37_20, S_37_21, S_37_24, S_37_25, S_37_26, S_37_29, S_37_32, S_37_33, S_37_34, S_37_37, S_37_40, S_37_43, S_37_46, S_37_47, S_37_48, S_37_49, S_37_53, S_37_54, S_37_57, S_37_60, S_37_63, S_37_66, S_37_67, S_37_70, S_37_73, S_37_75, S_37_76, S_37_79, S_37_81, S_37_82, S_37_84, S_37_86, S_37_87, S_37_88, S_37_91, S_37_93, S_37_94, S_37_97, S_37_99, S_37_101, S_37_104, S_37_105, S_37_107, S_37_109, S_37_110, S_37_111, S_37_112, S_37_115, S_37_118, S_37_119, S_38_0, S_38_1, S_38_3, S_38_4, S_38_8, S_38_9, S_38_12, S_38_14, S_38_17, S_38_18, S_38_19, S_38_20, S_38_22, S_38_25, S_38_27, S_38_29, S_38_30, S_38_33, S_38_35, S_38_36, S_38_37, S_38_40, S_38_42, S_38_45, S_38_47, S_38_48, S_38_49, S_38_52, S_38_54, S_38_57, S_38_60, S_38_62, S_38_64, S_38_66, S_38_69, S_38_71, S_38_74, S_38_76, S_38_77, S_38_80, S_38_82, S_38_83, S_38_86, S_38_88, S_38_91, S_38_92, S_38_95, S_38_97, S_38_100, S_38_101, S_38_103, S_38_105, S_38_107, S_38_108, S_38_110, S_38_112, S_38_115, S_38_117, S_38_119, S_38_120, S_38_122, S_38_123, S_38_126, S_38_128, S_38_131, S_38_133, S_38_135, S_38_138, S_38_140, S_38_143, S_38_145, S_38_147, S_38_149, S_38_150, S_38_153, S_38_155, S_38_158, S_38_159, S_38_161, S_38_162, S_38_163, S_38_165, S_38_168, S_38_169, S_38_172, S_38_175, S_38_178, S_38_180, H_87, H_48, H_53, H_112, c_at_53, e53, cb0]))
      refine c_serve_l_112 (s := s3) (r := ysv A l n j (yrun A l n j)) W hw (fun o o0 o1 => CO_fr hf w2.2 rfl (hm o o0 o1)) hn ⟨j0, hj⟩ ?_ n.toNat s3 (A (100 + 6 * j), (yrun A l n j).1, (yrun A l n j).2.1, (yrun A l n j).2.2.1, 0) (Fr.rf s3) yk r1 r2 ?_ (fun _ _ _ => rfl) rfl 0 (by omega) _ _ _ _ _ (okF _) (okF _) (okF _) (okF _) (okF _)
      · intro s4 f4 c1 c2 c3 c4
        have e4 := f4.g 116 rfl
        have z4 : s4 116 j = 0 := by rw [e4]; exact r3j.1.trans lz
        have kk := kk (u s4 116 (up (s4 116) j (ysv A l n j (yrun A l n j)).1)) ⟨by omega, (hf.to f4 rfl).u rfl, ?_⟩ (.int (iI (A (100 + 6 * j)))) (.int (iI (ysv A l n j (yrun A l n j)).1)) rfl rfl
        · rw [hs] at kk
          repeat' (first | (with_reducible refine Br_i ?_ ?_ <;> (intro hbr; first | exact False.elim hbr | skip)) | (with_reducible refine Wl_i ?_) | (simp (disch := first | omega | exact okF _ | exact okI _ | exact okR _ | assumption | exact okN) only [u_at, iI_zero, iI_31, iI_add, iI_sub, iI_mul, iI_neg, ↓iI_max, ↓iI_min, iI_div, emod_f, iI_lt, iI_le, iI_inj, iI_toInt, ↓ii01, ↓ii11, ↓bI_b, bI_0, bI_1, Kt_s, Kt_n, cat0, cat1, cat2, cat3, cat4, rfV, Nat.reduceAdd, Nat.reduceMul, Nat.reduceEqDiff, Int.reduceAdd, Int.reduceSub, Int.reduceMul, Int.reduceNeg, Int.reduceLT, Int.reduceLE, Int.reduceEq, Int.reduceDiv, ↓reduceIte, ↓ite_ww, ↓ite_wi, Br_n, Br_TW, Br_FW, Br_FP, Br_FB, nn_p, and_true, true_and, and_self, true_or, or_true, not_true_eq_false, not_false_eq_true, le_T, le_F, lt_T, lt_F, eq_T, eq_F, Int.add_zero, Int.zero_add, Int.one_mul, Int.mul_one, up_eq, up_ne, Int.add_assoc, Int.add_sub_cancel, Int.sub_zero, Int.sub_self, S_37_0, S_37_1, S_37_4, S_37_5, S_37_6, S_37_7, S_37_8, S_37_11, S_37_14, S_37_17, S_37_20, S_37_21, S_37_24, S_37_25, S_37_26, S_37_29, S_37_32, S_37_33, S_37_34, S_37_37, S_37_40, S_37_43, S_37_46, S_37_47, S_37_48, S_37_49, S_37_53, S_37_54, S_37_57, S_37_60, S_37_63, S_37_66, S_37_67, S_37_70, S_37_73, S_37_75, S_37_76, S_37_79, S_37_81, S_37_82, S_37_84, S_37_86, S_37_87, S_37_88, S_37_91, S_37_93, S_37_94, S_37_97, S_37_99, S_37_101, S_37_104, S_37_105, S_37_107, S_37_109, S_37_110, S_37_111, S_37_112, S_37_115, S_37_118, S_37_119, H_112, c_raise_116, z4]))
          exact kk
        · rw [yrun_s j0]
          refine ⟨c1, c2, ?_⟩
          intro z z0 z1
          show up (s4 116) j _ z = up (yrun A l n j).2.2.2.1 j (ysv A l n j (yrun A l n j)).1 z ∧ s4 117 z = up (yrun A l n j).2.2.2.2 j (ysv A l n j (yrun A l n j)).2.2.2.2 z
          by_cases e : z = j
          · rw [e, up_eq rfl, up_eq rfl, up_eq rfl]
            exact ⟨rfl, c3⟩
          · rw [up_ne e, up_ne e, up_ne e, c4 z z0 e, e4]
            exact r3 z z0 z1
      · exact r3j.2.trans gz
    · intro s3 ⟨j0, hf, r⟩ v5 v6 o5 o6
      have e53 : s3 53004 0 = A 2 := by rw [hf.g 53004 rfl]; exact n2
      repeat' (first | (with_reducible refine Br_i ?_ ?_ <;> (intro hbr; first | exact False.elim hbr | skip)) | (with_reducible refine Wl_i ?_) | (simp (disch := first | omega | exact okF _ | exact okI _ | exact okR _ | assumption | exact okN) only [u_at, iI_zero, iI_31, iI_add, iI_sub, iI_mul, iI_neg, ↓iI_max, ↓iI_min, iI_div, emod_f, iI_lt, iI_le, iI_inj, iI_toInt, ↓ii01, ↓ii11, ↓bI_b, bI_0, bI_1, Kt_s, Kt_n, cat0, cat1, cat2, cat3, cat4, rfV, Nat.reduceAdd, Nat.reduceMul, Nat.reduceEqDiff, Int.reduceAdd, Int.reduceSub, Int.reduceMul, Int.reduceNeg, Int.reduceLT, Int.reduceLE, Int.reduceEq, Int.reduceDiv, ↓reduceIte, ↓ite_ww, ↓ite_wi, Br_n, Br_TW, Br_FW, Br_FP, Br_FB, nn_p, and_true, true_and, and_self, true_or, or_true, not_true_eq_false, not_false_eq_true, le_T, le_F, lt_T, lt_F, eq_T, eq_F, Int.add_zero, Int.zero_add, Int.one_mul, Int.mul_one, up_eq, up_ne, Int.add_assoc, Int.add_sub_cancel, Int.sub_zero, Int.sub_self, S_37_0, S_37_1, S_37_4, S_37_5, S_37_6, S_37_7, S_37_8, S_37_11, S_37_14, S_37_17, S_37_20, S_37_21, S_37_24, S_37_25, S_37_26, S_37_29, S_37_32, S_37_33, S_37_34, S_37_37, S_37_40, S_37_43, S_37_46, S_37_47, S_37_48, S_37_49, S_37_51, S_37_53, S_37_54, S_37_57, S_37_60, S_37_63, S_37_66, S_37_67, S_37_70, S_37_73, S_37_75, S_37_76, S_37_79, S_37_81, S_37_82, S_37_84, S_37_86, S_37_87, S_37_88, S_37_91, S_37_93, S_37_94, S_37_97, S_37_99, S_37_101, S_37_104, S_37_105, S_37_107, S_37_109, S_37_110, S_37_111, S_37_112, S_37_115, S_37_118, S_37_119, H_87, H_48, H_53, e53]))
      exact kk s3 hf r
  have loop1 : ∀ i s2, i ≤ A 1 → (0 ≤ i ∧ Fr [113, 114, 115, 116, 117] s s2 ∧ (∀ m, 0 ≤ m → m < 6 → s2 115 m = (if m < i then A (60 + 5 * m) else 0) ∧ s2 114 m = 0) ∧ (∀ o, 0 ≤ o → o < 22 → s2 113 o = 0) ∧ ∀ b, 0 ≤ b → b < 10 → s2 116 b = 0 ∧ s2 117 b = 0) → Wp (d + 4) 37 6 [.ref 87, .ref 112, .int (iI n), .int (iI i), .float 0, .float 0, .float 0] [] (hp X s2) Q := by
    refine lp ?_ ?_
    · intro i s2 hi ⟨i0, hf, h1, h2, h3⟩ kk
      have e51 : s2 51004 0 = A 1 := by rw [hf.g 51004 rfl]; exact n1
      have ck := (IC0_fr hf rfl hI).2.2.1 i i0 hi
      have ck0 : s2 52 (i * 4) = A (60 + 5 * i) := ck.1
      have z3 : s2 115 i = 0 := by rw [(h1 i i0 (by omega)).1, if_neg (by omega)]
      rw [S_37_6]
      repeat' (first | (with_reducible refine Br_i ?_ ?_ <;> (intro hbr; first | exact False.elim hbr | skip)) | (with_reducible refine Wl_i ?_) | (simp (disch := first | omega | exact okF _ | exact okI _ | exact okR _ | assumption | exact okN) only [u_at, iI_zero, iI_31, iI_add, iI_sub, iI_mul, iI_neg, ↓iI_max, ↓iI_min, iI_div, emod_f, iI_lt, iI_le, iI_inj, iI_toInt, ↓ii01, ↓ii11, ↓bI_b, bI_0, bI_1, Kt_s, Kt_n, cat0, cat1, cat2, cat3, cat4, rfV, Nat.reduceAdd, Nat.reduceMul, Nat.reduceEqDiff, Int.reduceAdd, Int.reduceSub, Int.reduceMul, Int.reduceNeg, Int.reduceLT, Int.reduceLE, Int.reduceEq, Int.reduceDiv, ↓reduceIte, ↓ite_ww, ↓ite_wi, Br_n, Br_TW, Br_FW, Br_FP, Br_FB, nn_p, and_true, true_and, and_self, true_or, or_true, not_true_eq_false, not_false_eq_true, le_T, le_F, lt_T, lt_F, eq_T, eq_F, Int.add_zero, Int.zero_add, Int.one_mul, Int.mul_one, up_eq, up_ne, Int.add_assoc, Int.add_sub_cancel, Int.sub_zero, Int.sub_self, S_37_0, S_37_1, S_37_4, S_37_5, S_37_7, S_37_8, S_37_11, S_37_14, S_37_17, S_37_20, S_37_21, S_37_24, S_37_25, S_37_26, S_37_29, S_37_32, S_37_33, S_37_34, S_37_37, S_37_40, S_37_43, S_37_46, S_37_47, S_37_48, S_37_49, S_37_51, S_37_53, S_37_54, S_37_57, S_37_60, S_37_63, S_37_66, S_37_67, S_37_70, S_37_73, S_37_75, S_37_76, S_37_79, S_37_81, S_37_82, S_37_84, S_37_86, S_37_87, S_37_88, S_37_91, S_37_93, S_37_94, S_37_97, S_37_99, S_37_101, S_37_104, S_37_105, S_37_107, S_37_109, S_37_110, S_37_111, S_37_112, S_37_115, S_37_118, S_37_119, H_87, H_48, H_51, H_112, c_raise_115, c_at_51, e51, ck0, z3]))
      refine kk _ ⟨by omega, hf.u rfl, ?_, h2, h3⟩
      intro m m0 m1
      show up (s2 115) _ _ m = _ ∧ _
      rw [up_at]
      refine ⟨?_, (h1 m m0 m1).2⟩
      by_cases e : m = i
      · rw [if_pos e, if_pos (by omega), e]
      · rw [if_neg e, (h1 m m0 m1).1]
        by_cases c : m < i
        · rw [if_pos c, if_pos (by omega)]
        · rw [if_neg c, if_neg (by omega)]
    · intro s2 ⟨i0, hf, h1, h2, h3⟩
      have e51 : s2 51004 0 = A 1 := by rw [hf.g 51004 rfl]; exact n1
      have l2 := loop2 0 s2 w2.1 ⟨by omega, hf, ?_⟩ (.float 0) (.float 0) rfl rfl
      · rw [show ysum A l n 0 = 0 from sm_0 _] at l2
        repeat' (first | (with_reducible refine Br_i ?_ ?_ <;> (intro hbr; first | exact False.elim hbr | skip)) | (with_reducible refine Wl_i ?_) | (simp (disch := first | omega | exact okF _ | exact okI _ | exact okR _ | assumption | exact okN) only [u_at, iI_zero, iI_31, iI_add, iI_sub, iI_mul, iI_neg, ↓iI_max, ↓iI_min, iI_div, emod_f, iI_lt, iI_le, iI_inj, iI_toInt, ↓ii01, ↓ii11, ↓bI_b, bI_0, bI_1, Kt_s, Kt_n, cat0, cat1, cat2, cat3, cat4, rfV, Nat.reduceAdd, Nat.reduceMul, Nat.reduceEqDiff, Int.reduceAdd, Int.reduceSub, Int.reduceMul, Int.reduceNeg, Int.reduceLT, Int.reduceLE, Int.reduceEq, Int.reduceDiv, ↓reduceIte, ↓ite_ww, ↓ite_wi, Br_n, Br_TW, Br_FW, Br_FP, Br_FB, nn_p, and_true, true_and, and_self, true_or, or_true, not_true_eq_false, not_false_eq_true, le_T, le_F, lt_T, lt_F, eq_T, eq_F, Int.add_zero, Int.zero_add, Int.one_mul, Int.mul_one, up_eq, up_ne, Int.add_assoc, Int.add_sub_cancel, Int.sub_zero, Int.sub_self, S_37_0, S_37_1, S_37_4, S_37_5, S_37_6, S_37_7, S_37_8, S_37_11, S_37_14, S_37_17, S_37_20, S_37_21, S_37_24, S_37_25, S_37_26, S_37_29, S_37_32, S_37_33, S_37_34, S_37_37, S_37_40, S_37_43, S_37_46, S_37_47, S_37_48, S_37_49, S_37_53, S_37_54, S_37_57, S_37_60, S_37_63, S_37_66, S_37_67, S_37_70, S_37_73, S_37_75, S_37_76, S_37_79, S_37_81, S_37_82, S_37_84, S_37_86, S_37_87, S_37_88, S_37_91, S_37_93, S_37_94, S_37_97, S_37_99, S_37_101, S_37_104, S_37_105, S_37_107, S_37_109, S_37_110, S_37_111, S_37_112, S_37_115, S_37_118, S_37_119, H_87, H_48, H_51, e51]))
        exact l2
      · rw [yrun_0]
        refine ⟨fun m m0 m1 => ?_, h2, h3⟩
        show s2 115 m = (if 0 ≤ m ∧ m < A 1 then A (60 + 5 * m) else 0) ∧ s2 114 m = 0
        refine ⟨?_, (h1 m m0 m1).2⟩
        rw [(h1 m m0 m1).1]
        by_cases c : m < A 1
        · rw [if_pos c, if_pos ⟨m0, c⟩]
        · rw [if_neg c, if_neg (fun q => c q.2)]
  repeat' (first | (with_reducible refine Br_i ?_ ?_ <;> (intro hbr; first | exact False.elim hbr | skip)) | (with_reducible refine Wl_i ?_) | (simp (disch := first | omega | exact okF _ | exact okI _ | exact okR _ | assumption | exact okN) only [u_at, iI_zero, iI_31, iI_add, iI_sub, iI_mul, iI_neg, ↓iI_max, ↓iI_min, iI_div, emod_f, iI_lt, iI_le, iI_inj, iI_toInt, ↓ii01, ↓ii11, ↓bI_b, bI_0, bI_1, Kt_s, Kt_n, cat0, cat1, cat2, cat3, cat4, rfV, Nat.reduceAdd, Nat.reduceMul, Nat.reduceEqDiff, Int.reduceAdd, Int.reduceSub, Int.reduceMul, Int.reduceNeg, Int.reduceLT, Int.reduceLE, Int.reduceEq, Int.reduceDiv, ↓reduceIte, ↓ite_ww, ↓ite_wi, Br_n, Br_TW, Br_FW, Br_FP, Br_FB, nn_p, and_true, true_and, and_self, true_or, or_true, not_true_eq_false, not_false_eq_true, le_T, le_F, lt_T, lt_F, eq_T, eq_F, Int.add_zero, Int.zero_add, Int.one_mul, Int.mul_one, up_eq, up_ne, Int.add_assoc, Int.add_sub_cancel, Int.sub_zero, Int.sub_self, S_37_0, S_37_1, S_37_4, S_37_5, S_37_7, S_37_8, S_37_11, S_37_14, S_37_17, S_37_20, S_37_21, S_37_24, S_37_25, S_37_26, S_37_29, S_37_32, S_37_33, S_37_34, S_37_37, S_37_40, S_37_43, S_37_46, S_37_47, S_37_48, S_37_49, S_37_51, S_37_53, S_37_54, S_37_57, S_37_60, S_37_63, S_37_66, S_37_67, S_37_70, S_37_73, S_37_75, S_37_76, S_37_79, S_37_81, S_37_82, S_37_84, S_37_86, S_37_87, S_37_88, S_37_91, S_37_93, S_37_94, S_37_97, S_37_99, S_37_101, S_37_104, S_37_105, S_37_107, S_37_109, S_37_110, S_37_111, S_37_112, S_37_115, S_37_118, S_37_119, H_112, c_clear_112]))
  refine loop1 0 _ w1.1 ⟨by omega, ?_, ?_, ?_, ?_⟩
  · exact (by repeat (first | exact Fr.rf _ | refine Fr.u ?_ rfl))
  · intro m m0 m1
    show fillF (s 115) 0 6 m = _ ∧ fillF (s 114) 0 6 m = _
    rw [fillF_i ⟨m0, m1⟩, fillF_i ⟨m0, m1⟩, if_neg (by omega)]
    exact ⟨rfl, rfl⟩
  · intro o o0 o1
    show fillF (s 113) 0 22 o = _
    rw [fillF_i ⟨o0, o1⟩]
  · intro b b0 b1
    show fillF (s 116) 0 10 b = _ ∧ fillF (s 117) 0 10 b = _
    rw [fillF_i ⟨b0, b1⟩, fillF_i ⟨b0, b1⟩]
    exact ⟨rfl, rfl⟩
theorem c_weighAll {kq : Nat} (hk : isLw kq) (hlC : lC s kq 0 l) (hl : lawOK l) (hI : IC0 0 s A) (W : WF0 A) (hw : ∀ o, 0 ≤ o → o < A 3 → WO A o) (hO : ∀ o, 0 ≤ o → o < A 3 → cO 0 s A o) (kk : ∀ s', Fr [84900, 85, 86, 88, 89, 90, 91, 92, 93, 95, 96, 97, 98, 99, 100, 101, 102, 103, 104] s s' → curC s' l → (∀ o, 0 ≤ o → o < A 3 → CO A l o s') → Q none (hp X s')) : Wp (d + 7) 29 0 [.ref 87, .ref kq, .float 0] [] (hp X s) Q := by
  have w2 := W.1.2.2.1
  have w3 := W.1.2.2.2.1
  have n3 : s 55004 0 = A 3 := hI.1.2.2.2.1
  have fa : Fr [84900, 85, 86, 88, 89, 90, 91, 92, 93, 95, 96, 97, 98, 99, 100, 101, 102, 103, 104] s (u s 84900 (fun _ => (kq : Int))) := (by repeat (first | exact Fr.rf _ | refine Fr.u ?_ rfl))
  have c0 : curC (u s 84900 (fun _ => (kq : Int))) l := ⟨kq, hk, by rw [u_eq], lC_fr fa rfl hk hlC⟩
  have loop : ∀ i s2, i ≤ A 3 → (0 ≤ i ∧ Fr [84900, 85, 86, 88, 89, 90, 91, 92, 93, 95, 96, 97, 98, 99, 100, 101, 102, 103, 104] s s2 ∧ curC s2 l ∧ ∀ o, 0 ≤ o → o < i → CO A l o s2) → Wp (d + 7) 29 10 [.ref 87, .ref kq, .int (iI i)] [] (hp X s2) Q := by
    refine lp ?_ ?_
    · intro i s2 hi ⟨i0, hf, hc, h1⟩ kk
      have e55 : s2 55004 0 = A 3 := by rw [hf.g 55004 rfl]; exact n3
      rw [S_29_10]
      repeat' (first | (with_reducible refine Br_i ?_ ?_ <;> (intro hbr; first | exact False.elim hbr | skip)) | (with_reducible refine Wl_i ?_) | (simp (disch := first | omega | exact okF _ | exact okI _ | exact okR _ | assumption | exact okN) only [u_at, iI_zero, iI_31, iI_add, iI_sub, iI_mul, iI_neg, ↓iI_max, ↓iI_min, iI_div, emod_f, iI_lt, iI_le, iI_inj, iI_toInt, ↓ii01, ↓ii11, ↓bI_b, bI_0, bI_1, Kt_s, Kt_n, cat0, cat1, cat2, cat3, cat4, rfV, Nat.reduceAdd, Nat.reduceMul, Nat.reduceEqDiff, Int.reduceAdd, Int.reduceSub, Int.reduceMul, Int.reduceNeg, Int.reduceLT, Int.reduceLE, Int.reduceEq, Int.reduceDiv, ↓reduceIte, ↓ite_ww, ↓ite_wi, Br_n, Br_TW, Br_FW, Br_FP, Br_FB, nn_p, and_true, true_and, and_self, true_or, or_true, not_true_eq_false, not_false_eq_true, le_T, le_F, lt_T, lt_F, eq_T, eq_F, Int.add_zero, Int.zero_add, Int.one_mul, Int.mul_one, up_eq, up_ne, Int.add_assoc, Int.add_sub_cancel, Int.sub_zero, Int.sub_self, S_29_0, S_29_1, S_29_4, S_29_5, S_29_8, S_29_9, S_29_11, S_29_12, S_29_15, S_29_18, S_29_21, S_29_24, S_29_25, S_29_26, S_29_29, S_29_32, S_29_35, H_87, H_48, H_55, e55]))
      refine c_weigh (IC0_fr hf rfl hI) hc hl W (hw i i0 hi) (cO_fr hf rfl (hO i i0 hi)) (by omega) ?_
      intro s3 f3 h3 h4
      have kk := kk s3 ⟨by omega, hf.to f3 rfl, curC_fr f3 rfl hc, fun o o0 o1 => by
        by_cases e : o = i
        · rw [e]; exact h3
        · exact CO_same w2.2 (h1 o o0 (by omega)) (h4 o o0 e)⟩
      repeat' (first | (with_reducible refine Br_i ?_ ?_ <;> (intro hbr; first | exact False.elim hbr | skip)) | (with_reducible refine Wl_i ?_) | (simp (disch := first | omega | exact okF _ | exact okI _ | exact okR _ | assumption | exact okN) only [u_at, iI_zero, iI_31, iI_add, iI_sub, iI_mul, iI_neg, ↓iI_max, ↓iI_min, iI_div, emod_f, iI_lt, iI_le, iI_inj, iI_toInt, ↓ii01, ↓ii11, ↓bI_b, bI_0, bI_1, Kt_s, Kt_n, cat0, cat1, cat2, cat3, cat4, rfV, Nat.reduceAdd, Nat.reduceMul, Nat.reduceEqDiff, Int.reduceAdd, Int.reduceSub, Int.reduceMul, Int.reduceNeg, Int.reduceLT, Int.reduceLE, Int.reduceEq, Int.reduceDiv, ↓reduceIte, ↓ite_ww, ↓ite_wi, Br_n, Br_TW, Br_FW, Br_FP, Br_FB, nn_p, and_true, true_and, and_self, true_or, or_true, not_true_eq_false, not_false_eq_true, le_T, le_F, lt_T, lt_F, eq_T, eq_F, Int.add_zero, Int.zero_add, Int.one_mul, Int.mul_one, up_eq, up_ne, Int.add_assoc, Int.add_sub_cancel, Int.sub_zero, Int.sub_self, S_29_0, S_29_1, S_29_4, S_29_5, S_29_8, S_29_9, S_29_11, S_29_12, S_29_15, S_29_18, S_29_21, S_29_24, S_29_25, S_29_26, S_29_29, S_29_32, S_29_35]))
      exact kk
    · intro s2 ⟨i0, hf, hc, h1⟩
      have e55 : s2 55004 0 = A 3 := by rw [hf.g 55004 rfl]; exact n3
      repeat' (first | (with_reducible refine Br_i ?_ ?_ <;> (intro hbr; first | exact False.elim hbr | skip)) | (with_reducible refine Wl_i ?_) | (simp (disch := first | omega | exact okF _ | exact okI _ | exact okR _ | assumption | exact okN) only [u_at, iI_zero, iI_31, iI_add, iI_sub, iI_mul, iI_neg, ↓iI_max, ↓iI_min, iI_div, emod_f, iI_lt, iI_le, iI_inj, iI_toInt, ↓ii01, ↓ii11, ↓bI_b, bI_0, bI_1, Kt_s, Kt_n, cat0, cat1, cat2, cat3, cat4, rfV, Nat.reduceAdd, Nat.reduceMul, Nat.reduceEqDiff, Int.reduceAdd, Int.reduceSub, Int.reduceMul, Int.reduceNeg, Int.reduceLT, Int.reduceLE, Int.reduceEq, Int.reduceDiv, ↓reduceIte, ↓ite_ww, ↓ite_wi, Br_n, Br_TW, Br_FW, Br_FP, Br_FB, nn_p, and_true, true_and, and_self, true_or, or_true, not_true_eq_false, not_false_eq_true, le_T, le_F, lt_T, lt_F, eq_T, eq_F, Int.add_zero, Int.zero_add, Int.one_mul, Int.mul_one, up_eq, up_ne, Int.add_assoc, Int.add_sub_cancel, Int.sub_zero, Int.sub_self, S_29_0, S_29_1, S_29_4, S_29_5, S_29_8, S_29_9, S_29_10, S_29_11, S_29_12, S_29_15, S_29_18, S_29_21, S_29_24, S_29_25, S_29_26, S_29_29, S_29_32, S_29_35, H_87, H_48, H_55, e55]))
      exact kk s2 hf hc h1
  repeat' (first | (with_reducible refine Br_i ?_ ?_ <;> (intro hbr; first | exact False.elim hbr | skip)) | (with_reducible refine Wl_i ?_) | (simp (disch := first | omega | exact okF _ | exact okI _ | exact okR _ | assumption | exact okN) only [u_at, iI_zero, iI_31, iI_add, iI_sub, iI_mul, iI_neg, ↓iI_max, ↓iI_min, iI_div, emod_f, iI_lt, iI_le, iI_inj, iI_toInt, ↓ii01, ↓ii11, ↓bI_b, bI_0, bI_1, Kt_s, Kt_n, cat0, cat1, cat2, cat3, cat4, rfV, Nat.reduceAdd, Nat.reduceMul, Nat.reduceEqDiff, Int.reduceAdd, Int.reduceSub, Int.reduceMul, Int.reduceNeg, Int.reduceLT, Int.reduceLE, Int.reduceEq, Int.reduceDiv, ↓reduceIte, ↓ite_ww, ↓ite_wi, Br_n, Br_TW, Br_FW, Br_FP, Br_FB, nn_p, and_true, true_and, and_self, true_or, or_true, not_true_eq_false, not_false_eq_true, le_T, le_F, lt_T, lt_F, eq_T, eq_F, Int.add_zero, Int.zero_add, Int.one_mul, Int.mul_one, up_eq, up_ne, Int.add_assoc, Int.add_sub_cancel, Int.sub_zero, Int.sub_self, S_29_0, S_29_1, S_29_4, S_29_5, S_29_8, S_29_9, S_29_11, S_29_12, S_29_15, S_29_18, S_29_21, S_29_24, S_29_25, S_29_26, S_29_29, S_29_32, S_29_35, H_87, H_84, c_use]))
  exact loop 0 _ w3.1 ⟨by omega, fa, c0, fun o o0 o1 => by omega⟩
/-- what a maker earns in a year of the first n offers, when the offer o is weighed anew; all others stand weighed -/
theorem c_earnedWith (hI : IC0 0 s A) (hc : curC s l) (hl : lawOK l) (W : WF0 A) (hw : ∀ o, 0 ≤ o → o < n → WO A o) (cO1 : cO 0 s A o) (hm : ∀ p, 0 ≤ p → p < n → ¬ p = o → CO A l p s) (hn : 0 ≤ n ∧ n ≤ 22) (ho : 0 ≤ o ∧ o < n) (hk : 0 ≤ k ∧ k < A 1) (kk : ∀ s', Fr [85, 86, 88, 89, 90, 91, 92, 93, 95, 96, 97, 98, 99, 100, 101, 102, 103, 104, 113, 114, 115, 116, 117] s s' → (∀ p, 0 ≤ p → p < n → CO A l p s') → Q (some (.int (iI ((year A l n).2.1 k)))) (hp X s')) : Wp (d + 7) 100 0 [.ref 105, .int (iI o), .int (iI n), .int (iI k)] [] (hp X s) Q := by
  have w2 := W.1.2.2.1
  have w1 := W.1.2.1
  repeat' (first | (with_reducible refine Br_i ?_ ?_ <;> (intro hbr; first | exact False.elim hbr | skip)) | (with_reducible refine Wl_i ?_) | (simp (disch := first | omega | exact okF _ | exact okI _ | exact okR _ | assumption | exact okN) only [u_at, iI_zero, iI_31, iI_add, iI_sub, iI_mul, iI_neg, ↓iI_max, ↓iI_min, iI_div, emod_f, iI_lt, iI_le, iI_inj, iI_toInt, ↓ii01, ↓ii11, ↓bI_b, bI_0, bI_1, Kt_s, Kt_n, cat0, cat1, cat2, cat3, cat4, rfV, Nat.reduceAdd, Nat.reduceMul, Nat.reduceEqDiff, Int.reduceAdd, Int.reduceSub, Int.reduceMul, Int.reduceNeg, Int.reduceLT, Int.reduceLE, Int.reduceEq, Int.reduceDiv, ↓reduceIte, ↓ite_ww, ↓ite_wi, Br_n, Br_TW, Br_FW, Br_FP, Br_FB, nn_p, and_true, true_and, and_self, true_or, or_true, not_true_eq_false, not_false_eq_true, le_T, le_F, lt_T, lt_F, eq_T, eq_F, Int.add_zero, Int.zero_add, Int.one_mul, Int.mul_one, up_eq, up_ne, Int.add_assoc, Int.add_sub_cancel, Int.sub_zero, Int.sub_self, S_100_0, S_100_1, S_100_4, S_100_5, S_100_8, S_100_9, S_100_12, S_100_13, S_100_16, S_100_17, S_100_20, S_100_21, S_100_22, S_100_25, S_100_28, S_100_29, S_100_32, H_105, H_87]))
  refine c_weigh hI hc hl W (hw o ho.1 ho.2) cO1 (by omega) ?_
  intro s2 f2 h3 h4
  have hm2 : ∀ p, 0 ≤ p → p < n → CO A l p s2 := fun p p0 p1 => by
    by_cases e : p = o
    · rw [e]; exact h3
    · exact CO_same w2.2 (hm p p0 p1 e) (h4 p p0 e)
  repeat' (first | (with_reducible refine Br_i ?_ ?_ <;> (intro hbr; first | exact False.elim hbr | skip)) | (with_reducible refine Wl_i ?_) | (simp (disch := first | omega | exact okF _ | exact okI _ | exact okR _ | assumption | exact okN) only [u_at, iI_zero, iI_31, iI_add, iI_sub, iI_mul, iI_neg, ↓iI_max, ↓iI_min, iI_div, emod_f, iI_lt, iI_le, iI_inj, iI_toInt, ↓ii01, ↓ii11, ↓bI_b, bI_0, bI_1, Kt_s, Kt_n, cat0, cat1, cat2, cat3, cat4, rfV, Nat.reduceAdd, Nat.reduceMul, Nat.reduceEqDiff, Int.reduceAdd, Int.reduceSub, Int.reduceMul, Int.reduceNeg, Int.reduceLT, Int.reduceLE, Int.reduceEq, Int.reduceDiv, ↓reduceIte, ↓ite_ww, ↓ite_wi, Br_n, Br_TW, Br_FW, Br_FP, Br_FB, nn_p, and_true, true_and, and_self, true_or, or_true, not_true_eq_false, not_false_eq_true, le_T, le_F, lt_T, lt_F, eq_T, eq_F, Int.add_zero, Int.zero_add, Int.one_mul, Int.mul_one, up_eq, up_ne, Int.add_assoc, Int.add_sub_cancel, Int.sub_zero, Int.sub_self, S_100_0, S_100_1, S_100_4, S_100_5, S_100_8, S_100_9, S_100_12, S_100_13, S_100_16, S_100_17, S_100_20, S_100_21, S_100_22, S_100_25, S_100_28, S_100_29, S_100_32, H_105, H_87]))
  refine c_run_112 (IC0_fr f2 rfl hI) W hw hm2 hn ?_
  intro s3 f3 r3
  have e := (r3.1 k hk.1 (by omega)).2
  have e : s3 114 k = (year A l n).2.1 k := e
  have kk := kk s3 ((f2.up rfl).to f3 rfl) (fun p p0 p1 => CO_fr f3 w2.2 rfl (hm2 p p0 p1))
  repeat' (first | (with_reducible refine Br_i ?_ ?_ <;> (intro hbr; first | exact False.elim hbr | skip)) | (with_reducible refine Wl_i ?_) | (simp (disch := first | omega | exact okF _ | exact okI _ | exact okR _ | assumption | exact okN) only [u_at, iI_zero, iI_31, iI_add, iI_sub, iI_mul, iI_neg, ↓iI_max, ↓iI_min, iI_div, emod_f, iI_lt, iI_le, iI_inj, iI_toInt, ↓ii01, ↓ii11, ↓bI_b, bI_0, bI_1, Kt_s, Kt_n, cat0, cat1, cat2, cat3, cat4, rfV, Nat.reduceAdd, Nat.reduceMul, Nat.reduceEqDiff, Int.reduceAdd, Int.reduceSub, Int.reduceMul, Int.reduceNeg, Int.reduceLT, Int.reduceLE, Int.reduceEq, Int.reduceDiv, ↓reduceIte, ↓ite_ww, ↓ite_wi, Br_n, Br_TW, Br_FW, Br_FP, Br_FB, nn_p, and_true, true_and, and_self, true_or, or_true, not_true_eq_false, not_false_eq_true, le_T, le_F, lt_T, lt_F, eq_T, eq_F, Int.add_zero, Int.zero_add, Int.one_mul, Int.mul_one, up_eq, up_ne, Int.add_assoc, Int.add_sub_cancel, Int.sub_zero, Int.sub_self, S_100_0, S_100_1, S_100_4, S_100_5, S_100_8, S_100_9, S_100_12, S_100_13, S_100_16, S_100_17, S_100_20, S_100_21, S_100_22, S_100_25, S_100_28, S_100_29, S_100_32, H_105, H_112, c_cell_114, e]))
  exact kk
end CR2
