/-! THE REFERENCE: a year -/
section MY
variable {d : Nat} {X : hX} {s : sg} {Q : Option Value → aH → Prop} {b n o : Int} {A : Int → Int} {l : lawT}
theorem m_laysLikes (hA : s 123 = A) (W : WF0 A) (hw : ∀ o, 0 ≤ o → o < n → WO A o) (hm : ∀ o, 0 ≤ o → o < n → MO A l o s) (hn : 0 ≤ n ∧ n ≤ 22) (hb : 0 ≤ b ∧ b < A 2) (k : ∀ s', Fr [152] s s' → (∀ o, 0 ≤ o → o < n → s' 152 o = oOver A l b o) → Q none (hp X s')) : Wp (d + 1) 231 0 [.ref 122, .int (iI b), .int (iI n), .float 0, .float 0] [] (hp X s) Q := by
  have w2 := W.1.2.2.1
  have w1 := W.1.2.1
  have wb3 := (W.2.2.2.1 _ hb.1 hb.2).2.2.2
  have loop : ∀ i s1, i ≤ n → (0 ≤ i ∧ Fr [152] s s1 ∧ ∀ o, 0 ≤ o → o < i → s1 152 o = oOver A l b o) → ∀ v4, okO v4 = true → Wp (d + 1) 231 2 [.ref 122, .int (iI b), .int (iI n), .int (iI i), v4] [] (hp X s1) Q := by
    refine lp ?_ ?_
    · intro i s1 hi ⟨h0, hf, h1⟩ kk v4 o4
      have hA1 : s1 123 = A := (hf.g 123 rfl).trans hA
      have hO := hw i h0 hi
      have w3 := hO.2.2.1
      have nm : oNum A i = A (180 + (13 * i + 2)) := rfl
      obtain ⟨m1, m2, m3, m4, m5, m6⟩ := hm i h0 hi
      have m6 := m6 b hb.1 hb.2
      rw [nm] at m2 m4 m6
      have e2 := congrFun (hf.g 142 rfl) i
      have e4 := congrFun (hf.g 144 rfl) i
      have e5 := congrFun (hf.g 145 rfl) i
      have e6 := congrFun (hf.g 146 rfl) (10 * i + b)
      have r4 := oLoad_r hO (j := A (180 + (13 * i + 2))) (by omega)
      have r2 := oPrice_r (l := l) W hO (j := A (180 + (13 * i + 2))) (by omega)
      have r5 := oWorth_r (l := l) W hO hb (j := A (180 + (13 * i + 2))) (by omega)
      have fin : ∀ (f : Int → Int), (∀ z, 0 ≤ z → z < i → f z = s1 152 z) → f i = oOver A l b i → ∀ v4, okO v4 = true → Wp (d + 1) 231 2 [.ref 122, .int (iI b), .int (iI n), .int (iI (i + 1)), v4] [] (hp X (u s1 152 f)) Q := by
        intro f f1 f2 v4 o4
        refine kk _ ⟨by omega, hf.u rfl, fun o o0 o1 => ?_⟩ v4 o4
        rw [u_eq]
        by_cases c : o = i
        · rw [c]; exact f2
        · rw [f1 o o0 (by omega)]
          exact h1 o o0 (by omega)
      have uu : ∀ a c : Int, up (up (s1 152) i a) i c = up (s1 152) i c := by
        intro a c
        funext z
        simp only [up_at]
        split <;> rfl
      rw [S_231_2]
      by_cases c : 0 < oNum A i ∧ oLaw A l i (oNum A i) ∧ oLoad A i (oNum A i) ≤ A (100 + (6 * b + 3))
      · obtain ⟨c1, c2, c3⟩ := c
        rw [bZ_T c2] at m5
        have ov : oOver A l b i = max (-1) (oWorth A l b i (A (180 + (13 * i + 2))) - oPrice A l i (A (180 + (13 * i + 2)))) := if_pos ⟨c1, c2, c3⟩
        rw [nm] at c1 c3
        repeat' (first | (with_reducible refine Br_i ?_ ?_ <;> (intro hbr; first | exact False.elim hbr | skip)) | (with_reducible refine Wl_i ?_) | (simp (disch := first | omega | exact okF _ | exact okI _ | exact okR _ | assumption | exact okN) only [u_at, iI_zero, iI_31, iI_add, iI_sub, iI_mul, iI_neg, ↓iI_max, ↓iI_min, iI_div, emod_f, iI_lt, iI_le, iI_inj, iI_toInt, ↓ii01, ↓ii11, ↓bI_b, bI_0, bI_1, Kt_s, Kt_n, cat0, cat1, cat2, cat3, cat4, rfV, Nat.reduceAdd, Nat.reduceMul, Nat.reduceEqDiff, Int.reduceAdd, Int.reduceSub, Int.reduceMul, Int.reduceNeg, Int.reduceLT, Int.reduceLE, Int.reduceEq, Int.reduceDiv, ↓reduceIte, ↓ite_ww, ↓ite_wi, Br_n, Br_TW, Br_FW, Br_FP, Br_FB, nn_p, and_true, true_and, and_self, true_or, or_true, not_true_eq_false, not_false_eq_true, le_T, le_F, lt_T, lt_F, eq_T, eq_F, Int.add_zero, Int.zero_add, Int.one_mul, Int.mul_one, up_eq, up_ne, Int.add_assoc, Int.add_sub_cancel, Int.sub_zero, Int.sub_self, S_231_0, S_231_1, S_231_3, S_231_4, S_231_7, S_231_8, S_231_11, S_231_12, S_231_13, S_231_14, S_231_15, S_231_16, S_231_17, S_231_20, S_231_23, S_231_24, S_231_27, S_231_28, S_231_29, S_231_32, S_231_33, S_231_36, S_231_37, S_231_38, S_231_39, S_231_40, S_231_41, S_231_44, S_231_47, S_231_48, S_231_51, S_231_53, S_231_54, S_231_55, S_231_56, S_231_57, S_231_58, S_231_59, S_231_62, S_231_63, S_231_64, S_231_65, S_231_67, S_231_68, S_231_71, S_231_72, S_231_74, S_231_77, S_231_78, S_231_81, S_231_83, S_231_84, S_231_87, S_231_90, H_122, H_142, H_144, H_145, H_146, H_152, m_offerOf, m_buyerOf, hA1, e2, e4, e5, e6, m2, m4, m5, m6, u_u, uu]))
        · exact fin _ (fun z z0 z1 => up_ne (by omega)) (by rw [up_eq rfl, ov]; omega) _ rfl
        · exact fin _ (fun z z0 z1 => up_ne (by omega)) (by rw [up_eq rfl, ov]; omega) _ rfl
      · have ov : oOver A l b i = -1 := if_neg c
        rw [nm] at c
        have fin := fin (up (s1 152) i (-1)) (fun z z0 z1 => up_ne (by omega)) (by rw [up_eq rfl, ov]) v4 o4
        by_cases c2 : oLaw A l i (A (180 + (13 * i + 2)))
        · rw [nm, bZ_T c2] at m5
          repeat' (first | (with_reducible refine Br_i ?_ ?_ <;> (intro hbr; first | exact False.elim hbr | skip)) | (with_reducible refine Wl_i ?_) | (simp (disch := first | omega | exact okF _ | exact okI _ | exact okR _ | assumption | exact okN) only [u_at, iI_zero, iI_31, iI_add, iI_sub, iI_mul, iI_neg, ↓iI_max, ↓iI_min, iI_div, emod_f, iI_lt, iI_le, iI_inj, iI_toInt, ↓ii01, ↓ii11, ↓bI_b, bI_0, bI_1, Kt_s, Kt_n, cat0, cat1, cat2, cat3, cat4, rfV, Nat.reduceAdd, Nat.reduceMul, Nat.reduceEqDiff, Int.reduceAdd, Int.reduceSub, Int.reduceMul, Int.reduceNeg, Int.reduceLT, Int.reduceLE, Int.reduceEq, Int.reduceDiv, ↓reduceIte, ↓ite_ww, ↓ite_wi, Br_n, Br_TW, Br_FW, Br_FP, Br_FB, nn_p, and_true, true_and, and_self, true_or, or_true, not_true_eq_false, not_false_eq_true, le_T, le_F, lt_T, lt_F, eq_T, eq_F, Int.add_zero, Int.zero_add, Int.one_mul, Int.mul_one, up_eq, up_ne, Int.add_assoc, Int.add_sub_cancel, Int.sub_zero, Int.sub_self, S_231_0, S_231_1, S_231_3, S_231_4, S_231_7, S_231_8, S_231_11, S_231_12, S_231_13, S_231_14, S_231_15, S_231_16, S_231_17, S_231_20, S_231_23, S_231_24, S_231_27, S_231_28, S_231_29, S_231_32, S_231_33, S_231_36, S_231_37, S_231_38, S_231_39, S_231_40, S_231_41, S_231_44, S_231_47, S_231_48, S_231_51, S_231_53, S_231_54, S_231_55, S_231_56, S_231_57, S_231_58, S_231_59, S_231_62, S_231_63, S_231_64, S_231_65, S_231_67, S_231_68, S_231_71, S_231_72, S_231_74, S_231_77, S_231_78, S_231_81, S_231_83, S_231_84, S_231_87, S_231_90, H_122, H_142, H_144, H_145, H_146, H_152, m_offerOf, m_buyerOf, hA1, e2, e4, e5, e6, m2, m4, m5, m6, u_u]))
          all_goals first | exact fin | (exfalso; exact c ⟨by omega, c2, by omega⟩)
        · rw [nm, bZ_F c2] at m5
          repeat' (first | (with_reducible refine Br_i ?_ ?_ <;> (intro hbr; first | exact False.elim hbr | skip)) | (with_reducible refine Wl_i ?_) | (simp (disch := first | omega | exact okF _ | exact okI _ | exact okR _ | assumption | exact okN) only [u_at, iI_zero, iI_31, iI_add, iI_sub, iI_mul, iI_neg, ↓iI_max, ↓iI_min, iI_div, emod_f, iI_lt, iI_le, iI_inj, iI_toInt, ↓ii01, ↓ii11, ↓bI_b, bI_0, bI_1, Kt_s, Kt_n, cat0, cat1, cat2, cat3, cat4, rfV, Nat.reduceAdd, Nat.reduceMul, Nat.reduceEqDiff, Int.reduceAdd, Int.reduceSub, Int.reduceMul, Int.reduceNeg, Int.reduceLT, Int.reduceLE, Int.reduceEq, Int.reduceDiv, ↓reduceIte, ↓ite_ww, ↓ite_wi, Br_n, Br_TW, Br_FW, Br_FP, Br_FB, nn_p, and_true, true_and, and_self, true_or, or_true, not_true_eq_false, not_false_eq_true, le_T, le_F, lt_T, lt_F, eq_T, eq_F, Int.add_zero, Int.zero_add, Int.one_mul, Int.mul_one, up_eq, up_ne, Int.add_assoc, Int.add_sub_cancel, Int.sub_zero, Int.sub_self, S_231_0, S_231_1, S_231_3, S_231_4, S_231_7, S_231_8, S_231_11, S_231_12, S_231_13, S_231_14, S_231_15, S_231_16, S_231_17, S_231_20, S_231_23, S_231_24, S_231_27, S_231_28, S_231_29, S_231_32, S_231_33, S_231_36, S_231_37, S_231_38, S_231_39, S_231_40, S_231_41, S_231_44, S_231_47, S_231_48, S_231_51, S_231_53, S_231_54, S_231_55, S_231_56, S_231_57, S_231_58, S_231_59, S_231_62, S_231_63, S_231_64, S_231_65, S_231_67, S_231_68, S_231_71, S_231_72, S_231_74, S_231_77, S_231_78, S_231_81, S_231_83, S_231_84, S_231_87, S_231_90, H_122, H_142, H_144, H_145, H_146, H_152, m_offerOf, m_buyerOf, hA1, e2, e4, e5, e6, m2, m4, m5, m6, u_u]))
          all_goals exact fin
    · intro s1 ⟨h0, hf, h1⟩ v4 o4
      repeat' (first | (with_reducible refine Br_i ?_ ?_ <;> (intro hbr; first | exact False.elim hbr | skip)) | (with_reducible refine Wl_i ?_) | (simp (disch := first | omega | exact okF _ | exact okI _ | exact okR _ | assumption | exact okN) only [u_at, iI_zero, iI_31, iI_add, iI_sub, iI_mul, iI_neg, ↓iI_max, ↓iI_min, iI_div, emod_f, iI_lt, iI_le, iI_inj, iI_toInt, ↓ii01, ↓ii11, ↓bI_b, bI_0, bI_1, Kt_s, Kt_n, cat0, cat1, cat2, cat3, cat4, rfV, Nat.reduceAdd, Nat.reduceMul, Nat.reduceEqDiff, Int.reduceAdd, Int.reduceSub, Int.reduceMul, Int.reduceNeg, Int.reduceLT, Int.reduceLE, Int.reduceEq, Int.reduceDiv, ↓reduceIte, ↓ite_ww, ↓ite_wi, Br_n, Br_TW, Br_FW, Br_FP, Br_FB, nn_p, and_true, true_and, and_self, true_or, or_true, not_true_eq_false, not_false_eq_true, le_T, le_F, lt_T, lt_F, eq_T, eq_F, Int.add_zero, Int.zero_add, Int.one_mul, Int.mul_one, up_eq, up_ne, Int.add_assoc, Int.add_sub_cancel, Int.sub_zero, Int.sub_self, S_231_0, S_231_1, S_231_2, S_231_3, S_231_4, S_231_7, S_231_8, S_231_11, S_231_12, S_231_13, S_231_14, S_231_15, S_231_16, S_231_17, S_231_20, S_231_23, S_231_24, S_231_27, S_231_28, S_231_29, S_231_32, S_231_33, S_231_36, S_231_37, S_231_38, S_231_39, S_231_40, S_231_41, S_231_44, S_231_47, S_231_48, S_231_51, S_231_53, S_231_54, S_231_55, S_231_56, S_231_57, S_231_58, S_231_59, S_231_62, S_231_63, S_231_64, S_231_65, S_231_67, S_231_68, S_231_71, S_231_72, S_231_74, S_231_77, S_231_78, S_231_81, S_231_83, S_231_84, S_231_87, S_231_90]))
      exact k s1 hf h1
  repeat' (first | (with_reducible refine Br_i ?_ ?_ <;> (intro hbr; first | exact False.elim hbr | skip)) | (with_reducible refine Wl_i ?_) | (simp (disch := first | omega | exact okF _ | exact okI _ | exact okR _ | assumption | exact okN) only [u_at, iI_zero, iI_31, iI_add, iI_sub, iI_mul, iI_neg, ↓iI_max, ↓iI_min, iI_div, emod_f, iI_lt, iI_le, iI_inj, iI_toInt, ↓ii01, ↓ii11, ↓bI_b, bI_0, bI_1, Kt_s, Kt_n, cat0, cat1, cat2, cat3, cat4, rfV, Nat.reduceAdd, Nat.reduceMul, Nat.reduceEqDiff, Int.reduceAdd, Int.reduceSub, Int.reduceMul, Int.reduceNeg, Int.reduceLT, Int.reduceLE, Int.reduceEq, Int.reduceDiv, ↓reduceIte, ↓ite_ww, ↓ite_wi, Br_n, Br_TW, Br_FW, Br_FP, Br_FB, nn_p, and_true, true_and, and_self, true_or, or_true, not_true_eq_false, not_false_eq_true, le_T, le_F, lt_T, lt_F, eq_T, eq_F, Int.add_zero, Int.zero_add, Int.one_mul, Int.mul_one, up_eq, up_ne, Int.add_assoc, Int.add_sub_cancel, Int.sub_zero, Int.sub_self, S_231_0, S_231_1, S_231_3, S_231_4, S_231_7, S_231_8, S_231_11, S_231_12, S_231_13, S_231_14, S_231_15, S_231_16, S_231_17, S_231_20, S_231_23, S_231_24, S_231_27, S_231_28, S_231_29, S_231_32, S_231_33, S_231_36, S_231_37, S_231_38, S_231_39, S_231_40, S_231_41, S_231_44, S_231_47, S_231_48, S_231_51, S_231_53, S_231_54, S_231_55, S_231_56, S_231_57, S_231_58, S_231_59, S_231_62, S_231_63, S_231_64, S_231_65, S_231_67, S_231_68, S_231_71, S_231_72, S_231_74, S_231_77, S_231_78, S_231_81, S_231_83, S_231_84, S_231_87, S_231_90]))
  exact loop 0 s (by omega) ⟨by omega, Fr.rf s, fun o a b => by omega⟩ _ rfl
theorem m_nextLiked {y : yst} (hA : s 123 = A) (W : WF0 A) (hw : ∀ o, 0 ≤ o → o < n → WO A o) (hm : ∀ o, 0 ≤ o → o < n → s 141 o = oH A l o) (hn : 0 ≤ n ∧ n ≤ 22) (hb : 0 ≤ b ∧ b < A 2) (h152 : ∀ o, 0 ≤ o → o < n → s 152 o = oOver A l b o) (h148 : ∀ m, 0 ≤ m → m < A 1 → s 148 m = y.2.1 m) (hy : yOK A y) : Wp (d + 1) 233 0 [.ref 122, .int (iI n), .float 0, .float 0] [] (hp X s) Q = Q (some (.int (iI (yfav A l n b y)))) (hp X s) := by
  have w1 := W.1.2.1
  have loop : ∀ i, 0 ≤ i → i ≤ n → Wp (d + 1) 233 4 [.ref 122, .int (iI n), .int (iI (fav (avl A l y.2.1) (oOver A l b) i)), .int (iI i)] [] (hp X s) Q = Q (some (.int (iI (yfav A l n b y)))) (hp X s) := by
    refine lp0 ?_ ?_
    · intro i h0 hi e
      have hO := hw i h0 hi
      have m1 := hm i h0 hi
      have p1 := h152 i h0 hi
      have l1 := h148 _ hO.1.1 hO.1.2
      have ly := hy.2 _ hO.1.1 hO.1.2
      have ho1 := hO.1
      have rh := oH_r (l := l) hO
      have ro := oOver_r (l := l) W hO hb
      have fr := fav_r (P := avl A l y.2.1) (v := oOver A l b) h0
      have fs := fav_s (P := avl A l y.2.1) (v := oOver A l b) h0
      have pf : ∀ z, 0 ≤ z → z < i → s 152 z = oOver A l b z := fun z a b => h152 z a (by omega)
      have rf : ∀ z, 0 ≤ z → z < i → -1 ≤ oOver A l b z ∧ oOver A l b z ≤ 60000 := fun z a b2 => oOver_r (l := l) W (hw z a (by omega)) hb
      have av : avl A l y.2.1 i ↔ oH A l i ≤ y.2.1 (A (180 + 13 * i)) := Iff.rfl
      rw [← e, fs]
      generalize fav (avl A l y.2.1) (oOver A l b) i = g at *
      have fr2 : g = -1 ∨ (0 ≤ g ∧ g < i) := by omega
      clear fr
      rw [S_233_4]
      by_cases c : avl A l y.2.1 i ∧ 0 ≤ oOver A l b i ∧ (g = -1 ∨ oOver A l b g < oOver A l b i)
      · rw [if_pos c]
        obtain ⟨c1, c2, c3⟩ := c
        have c1 := av.mp c1
        by_cases x : g = -1
        · simp (disch := first | omega | exact okF _ | exact okI _ | exact okR _ | assumption | exact okN) only [S_233_0, S_233_1, S_233_2, S_233_3, S_233_5, S_233_6, S_233_9, S_233_10, S_233_13, S_233_14, S_233_15, S_233_18, S_233_19, S_233_22, S_233_23, S_233_24, S_233_25, S_233_28, S_233_29, S_233_30, S_233_33, S_233_34, S_233_35, S_233_38, S_233_39, S_233_40, S_233_43, S_233_44, S_233_47, S_233_48, S_233_49, S_233_50, S_233_53, S_233_54, S_233_55, S_233_58, S_233_59, S_233_60, S_233_63, S_233_66, S_233_67, u_at, iI_zero, iI_31, iI_add, iI_sub, iI_mul, iI_neg, ↓iI_max, ↓iI_min, iI_div, emod_f, iI_lt, iI_le, iI_inj, iI_toInt, ↓ii01, ↓ii11, ↓bI_b, bI_0, bI_1, Kt_s, Kt_n, cat0, cat1, cat2, cat3, cat4, rfV, Nat.reduceAdd, Nat.reduceMul, Nat.reduceEqDiff, Int.reduceAdd, Int.reduceSub, Int.reduceMul, Int.reduceNeg, Int.reduceLT, Int.reduceLE, Int.reduceEq, Int.reduceDiv, ↓reduceIte, ↓ite_ww, ↓ite_wi, Br_n, Br_TW, Br_FW, Br_FP, Br_FB, nn_p, and_true, true_and, and_self, true_or, or_true, not_true_eq_false, not_false_eq_true, le_T, le_F, lt_T, lt_F, eq_T, eq_F, Int.add_zero, Int.zero_add, Int.one_mul, Int.mul_one, up_eq, up_ne, Int.add_assoc, Int.add_sub_cancel, Int.sub_zero, Int.sub_self, H_122, H_141, H_148, H_152, m_offerOf, hA, m1, p1, l1, x]
        · have pg := pf g (by omega) (by omega)
          have rg := rf g (by omega) (by omega)
          simp (disch := first | omega | exact okF _ | exact okI _ | exact okR _ | assumption | exact okN) only [S_233_0, S_233_1, S_233_2, S_233_3, S_233_5, S_233_6, S_233_9, S_233_10, S_233_13, S_233_14, S_233_15, S_233_18, S_233_19, S_233_22, S_233_23, S_233_24, S_233_25, S_233_28, S_233_29, S_233_30, S_233_33, S_233_34, S_233_35, S_233_38, S_233_39, S_233_40, S_233_43, S_233_44, S_233_47, S_233_48, S_233_49, S_233_50, S_233_53, S_233_54, S_233_55, S_233_58, S_233_59, S_233_60, S_233_63, S_233_66, S_233_67, u_at, iI_zero, iI_31, iI_add, iI_sub, iI_mul, iI_neg, ↓iI_max, ↓iI_min, iI_div, emod_f, iI_lt, iI_le, iI_inj, iI_toInt, ↓ii01, ↓ii11, ↓bI_b, bI_0, bI_1, Kt_s, Kt_n, cat0, cat1, cat2, cat3, cat4, rfV, Nat.reduceAdd, Nat.reduceMul, Nat.reduceEqDiff, Int.reduceAdd, Int.reduceSub, Int.reduceMul, Int.reduceNeg, Int.reduceLT, Int.reduceLE, Int.reduceEq, Int.reduceDiv, ↓reduceIte, ↓ite_ww, ↓ite_wi, Br_n, Br_TW, Br_FW, Br_FP, Br_FB, nn_p, and_true, true_and, and_self, true_or, or_true, not_true_eq_false, not_false_eq_true, le_T, le_F, lt_T, lt_F, eq_T, eq_F, Int.add_zero, Int.zero_add, Int.one_mul, Int.mul_one, up_eq, up_ne, Int.add_assoc, Int.add_sub_cancel, Int.sub_zero, Int.sub_self, H_122, H_141, H_148, H_152, m_offerOf, hA, m1, p1, l1, pg]
      · rw [if_neg c]
        rw [av] at c
        by_cases x0 : oOver A l b i < 0
        · simp (disch := first | omega | exact okF _ | exact okI _ | exact okR _ | assumption | exact okN) only [S_233_0, S_233_1, S_233_2, S_233_3, S_233_5, S_233_6, S_233_9, S_233_10, S_233_13, S_233_14, S_233_15, S_233_18, S_233_19, S_233_22, S_233_23, S_233_24, S_233_25, S_233_28, S_233_29, S_233_30, S_233_33, S_233_34, S_233_35, S_233_38, S_233_39, S_233_40, S_233_43, S_233_44, S_233_47, S_233_48, S_233_49, S_233_50, S_233_53, S_233_54, S_233_55, S_233_58, S_233_59, S_233_60, S_233_63, S_233_66, S_233_67, u_at, iI_zero, iI_31, iI_add, iI_sub, iI_mul, iI_neg, ↓iI_max, ↓iI_min, iI_div, emod_f, iI_lt, iI_le, iI_inj, iI_toInt, ↓ii01, ↓ii11, ↓bI_b, bI_0, bI_1, Kt_s, Kt_n, cat0, cat1, cat2, cat3, cat4, rfV, Nat.reduceAdd, Nat.reduceMul, Nat.reduceEqDiff, Int.reduceAdd, Int.reduceSub, Int.reduceMul, Int.reduceNeg, Int.reduceLT, Int.reduceLE, Int.reduceEq, Int.reduceDiv, ↓reduceIte, ↓ite_ww, ↓ite_wi, Br_n, Br_TW, Br_FW, Br_FP, Br_FB, nn_p, and_true, true_and, and_self, true_or, or_true, not_true_eq_false, not_false_eq_true, le_T, le_F, lt_T, lt_F, eq_T, eq_F, Int.add_zero, Int.zero_add, Int.one_mul, Int.mul_one, up_eq, up_ne, Int.add_assoc, Int.add_sub_cancel, Int.sub_zero, Int.sub_self, H_122, H_141, H_148, H_152, m_offerOf, hA, m1, p1, l1]
        · by_cases x1 : oH A l i ≤ y.2.1 (A (180 + 13 * i))
          · have pg := pf g (by omega) (by omega)
            have rg := rf g (by omega) (by omega)
            simp (disch := first | omega | exact okF _ | exact okI _ | exact okR _ | assumption | exact okN) only [S_233_0, S_233_1, S_233_2, S_233_3, S_233_5, S_233_6, S_233_9, S_233_10, S_233_13, S_233_14, S_233_15, S_233_18, S_233_19, S_233_22, S_233_23, S_233_24, S_233_25, S_233_28, S_233_29, S_233_30, S_233_33, S_233_34, S_233_35, S_233_38, S_233_39, S_233_40, S_233_43, S_233_44, S_233_47, S_233_48, S_233_49, S_233_50, S_233_53, S_233_54, S_233_55, S_233_58, S_233_59, S_233_60, S_233_63, S_233_66, S_233_67, u_at, iI_zero, iI_31, iI_add, iI_sub, iI_mul, iI_neg, ↓iI_max, ↓iI_min, iI_div, emod_f, iI_lt, iI_le, iI_inj, iI_toInt, ↓ii01, ↓ii11, ↓bI_b, bI_0, bI_1, Kt_s, Kt_n, cat0, cat1, cat2, cat3, cat4, rfV, Nat.reduceAdd, Nat.reduceMul, Nat.reduceEqDiff, Int.reduceAdd, Int.reduceSub, Int.reduceMul, Int.reduceNeg, Int.reduceLT, Int.reduceLE, Int.reduceEq, Int.reduceDiv, ↓reduceIte, ↓ite_ww, ↓ite_wi, Br_n, Br_TW, Br_FW, Br_FP, Br_FB, nn_p, and_true, true_and, and_self, true_or, or_true, not_true_eq_false, not_false_eq_true, le_T, le_F, lt_T, lt_F, eq_T, eq_F, Int.add_zero, Int.zero_add, Int.one_mul, Int.mul_one, up_eq, up_ne, Int.add_assoc, Int.add_sub_cancel, Int.sub_zero, Int.sub_self, H_122, H_141, H_148, H_152, m_offerOf, hA, m1, p1, l1, pg]
          · simp (disch := first | omega | exact okF _ | exact okI _ | exact okR _ | assumption | exact okN) only [S_233_0, S_233_1, S_233_2, S_233_3, S_233_5, S_233_6, S_233_9, S_233_10, S_233_13, S_233_14, S_233_15, S_233_18, S_233_19, S_233_22, S_233_23, S_233_24, S_233_25, S_233_28, S_233_29, S_233_30, S_233_33, S_233_34, S_233_35, S_233_38, S_233_39, S_233_40, S_233_43, S_233_44, S_233_47, S_233_48, S_233_49, S_233_50, S_233_53, S_233_54, S_233_55, S_233_58, S_233_59, S_233_60, S_233_63, S_233_66, S_233_67, u_at, iI_zero, iI_31, iI_add, iI_sub, iI_mul, iI_neg, ↓iI_max, ↓iI_min, iI_div, emod_f, iI_lt, iI_le, iI_inj, iI_toInt, ↓ii01, ↓ii11, ↓bI_b, bI_0, bI_1, Kt_s, Kt_n, cat0, cat1, cat2, cat3, cat4, rfV, Nat.reduceAdd, Nat.reduceMul, Nat.reduceEqDiff, Int.reduceAdd, Int.reduceSub, Int.reduceMul, Int.reduceNeg, Int.reduceLT, Int.reduceLE, Int.reduceEq, Int.reduceDiv, ↓reduceIte, ↓ite_ww, ↓ite_wi, Br_n, Br_TW, Br_FW, Br_FP, Br_FB, nn_p, and_true, true_and, and_self, true_or, or_true, not_true_eq_false, not_false_eq_true, le_T, le_F, lt_T, lt_F, eq_T, eq_F, Int.add_zero, Int.zero_add, Int.one_mul, Int.mul_one, up_eq, up_ne, Int.add_assoc, Int.add_sub_cancel, Int.sub_zero, Int.sub_self, H_122, H_141, H_148, H_152, m_offerOf, hA, m1, p1, l1]
    · rw [S_233_4]
      simp (disch := first | omega | exact okF _ | exact okI _ | exact okR _ | assumption | exact okN) only [S_233_0, S_233_1, S_233_2, S_233_3, S_233_5, S_233_6, S_233_9, S_233_10, S_233_13, S_233_14, S_233_15, S_233_18, S_233_19, S_233_22, S_233_23, S_233_24, S_233_25, S_233_28, S_233_29, S_233_30, S_233_33, S_233_34, S_233_35, S_233_38, S_233_39, S_233_40, S_233_43, S_233_44, S_233_47, S_233_48, S_233_49, S_233_50, S_233_53, S_233_54, S_233_55, S_233_58, S_233_59, S_233_60, S_233_63, S_233_66, S_233_67, u_at, iI_zero, iI_31, iI_add, iI_sub, iI_mul, iI_neg, ↓iI_max, ↓iI_min, iI_div, emod_f, iI_lt, iI_le, iI_inj, iI_toInt, ↓ii01, ↓ii11, ↓bI_b, bI_0, bI_1, Kt_s, Kt_n, cat0, cat1, cat2, cat3, cat4, rfV, Nat.reduceAdd, Nat.reduceMul, Nat.reduceEqDiff, Int.reduceAdd, Int.reduceSub, Int.reduceMul, Int.reduceNeg, Int.reduceLT, Int.reduceLE, Int.reduceEq, Int.reduceDiv, ↓reduceIte, ↓ite_ww, ↓ite_wi, Br_n, Br_TW, Br_FW, Br_FP, Br_FB, nn_p, and_true, true_and, and_self, true_or, or_true, not_true_eq_false, not_false_eq_true, le_T, le_F, lt_T, lt_F, eq_T, eq_F, Int.add_zero, Int.zero_add, Int.one_mul, Int.mul_one, up_eq, up_ne, Int.add_assoc, Int.add_sub_cancel, Int.sub_zero, Int.sub_self, H_122]
      rfl
  rw [← loop 0 (by omega) hn.1, fav_0]
  simp (disch := first | omega | exact okF _ | exact okI _ | exact okR _ | assumption | exact okN) only [S_233_0, S_233_1, S_233_2, S_233_3, S_233_5, S_233_6, S_233_9, S_233_10, S_233_13, S_233_14, S_233_15, S_233_18, S_233_19, S_233_22, S_233_23, S_233_24, S_233_25, S_233_28, S_233_29, S_233_30, S_233_33, S_233_34, S_233_35, S_233_38, S_233_39, S_233_40, S_233_43, S_233_44, S_233_47, S_233_48, S_233_49, S_233_50, S_233_53, S_233_54, S_233_55, S_233_58, S_233_59, S_233_60, S_233_63, S_233_66, S_233_67, u_at, iI_zero, iI_31, iI_add, iI_sub, iI_mul, iI_neg, ↓iI_max, ↓iI_min, iI_div, emod_f, iI_lt, iI_le, iI_inj, iI_toInt, ↓ii01, ↓ii11, ↓bI_b, bI_0, bI_1, Kt_s, Kt_n, cat0, cat1, cat2, cat3, cat4, rfV, Nat.reduceAdd, Nat.reduceMul, Nat.reduceEqDiff, Int.reduceAdd, Int.reduceSub, Int.reduceMul, Int.reduceNeg, Int.reduceLT, Int.reduceLE, Int.reduceEq, Int.reduceDiv, ↓reduceIte, ↓ite_ww, ↓ite_wi, Br_n, Br_TW, Br_FW, Br_FP, Br_FB, nn_p, and_true, true_and, and_self, true_or, or_true, not_true_eq_false, not_false_eq_true, le_T, le_F, lt_T, lt_F, eq_T, eq_F, Int.add_zero, Int.zero_add, Int.one_mul, Int.mul_one, up_eq, up_ne, Int.add_assoc, Int.add_sub_cancel, Int.sub_zero, Int.sub_self]
/-- the reference's rows hold a year as far as the buyer j -/
def RM (A : Int → Int) (n j : Int) (s : sg) (Y : yr) : Prop := (∀ m, 0 ≤ m → m < A 1 → s 148 m = Y.1 m ∧ s 147 m = Y.2.1 m) ∧ (∀ o, 0 ≤ o → o < n → s 151 o = Y.2.2.1 o) ∧ (∀ b, 0 ≤ b → b < j → s 149 b = Y.2.2.2.1 b ∧ s 150 b = Y.2.2.2.2 b)
theorem m_goes_w (hA : ∀ s', Fr [147, 148, 149, 150, 151] s s' → s' 123 = A) (W : WF0 A) (hw : ∀ o, 0 ≤ o → o < n → WO A o) (hm : ∀ o, 0 ≤ o → o < n → MO A l o s) (hn : 0 ≤ n ∧ n ≤ 22) (hb : 0 ≤ b ∧ b < A 2) (h152 : ∀ o, 0 ≤ o → o < n → s 152 o = oOver A l b o) {r : yst} (k : ∀ s' v3 v4 v5 v6, okO v3 = true → okO v4 = true → okO v5 = true → okO v6 = true → Fr [147, 148, 149, 150, 151] s s' → (∀ m, 0 ≤ m → m < A 1 → s' 148 m = r.2.1 m ∧ s' 147 m = r.2.2.1 m) → (∀ o, 0 ≤ o → o < n → s' 151 o = r.2.2.2.1 o) → s' 149 b = r.1 → s' 150 b = r.2.2.2.2 → (∀ z, 0 ≤ z → ¬ z = b → s' 149 z = s 149 z ∧ s' 150 z = s 150 z) → Wp (d + 2) 235 256 [.ref 122, .int (iI n), .int (iI b), v3, v4, v5, v6] [] (hp X s') Q) : ∀ (f : Nat) (s1 : sg) (y : yst), Fr [147, 148, 149, 150, 151] s s1 → yOK A y → (∀ m, 0 ≤ m → m < A 1 → s1 148 m = y.2.1 m ∧ s1 147 m = y.2.2.1 m) → (∀ o, 0 ≤ o → o < n → s1 151 o = y.2.2.2.1 o) → s1 149 b = y.1 → s1 150 b = y.2.2.2.2 → (∀ z, 0 ≤ z → ¬ z = b → s1 149 z = s 149 z ∧ s1 150 z = s 150 z) → (y.1 ≤ 0 ∨ ycnt A l n b y.2.1 ≤ f) → srv A l n b f y = r → ∀ v4 v5 v6, okO v4 = true → okO v5 = true → okO v6 = true → Wp (d + 2) 235 100 [.ref 122, .int (iI n), .int (iI b), .int (iI (yfav A l n b y)), v4, v5, v6] [] (hp X s1) Q := by
  intro f
  have w2 := W.1.2.2.1
  have w1 := W.1.2.1
  have wl : ∀ (s1 : sg) (y : yst), Fr [147, 148, 149, 150, 151] s s1 → yOK A y → (∀ m, 0 ≤ m → m < A 1 → s1 148 m = y.2.1 m ∧ s1 147 m = y.2.2.1 m) → (∀ o, 0 ≤ o → o < n → s1 151 o = y.2.2.2.1 o) → s1 149 b = y.1 → s1 150 b = y.2.2.2.2 → (∀ z, 0 ≤ z → ¬ z = b → s1 149 z = s 149 z ∧ s1 150 z = s 150 z) → (y.1 ≤ 0 ∨ yfav A l n b y = -1) → y = r → ∀ v4 v5 v6, okO v4 = true → okO v5 = true → okO v6 = true → Wp (d + 2) 235 100 [.ref 122, .int (iI n), .int (iI b), .int (iI (yfav A l n b y)), v4, v5, v6] [] (hp X s1) Q := by
    intro s1 y hf hy h8 h1 h9 h0 hz hs e v4 v5 v6 o4 o5 o6
    subst e
    have hy1 := hy.1
    have fr := fav_r (P := avl A l y.2.1) (v := oOver A l b) hn.1
    have fr2 : yfav A l n b y = -1 ∨ (0 ≤ yfav A l n b y ∧ yfav A l n b y < n) := by
      unfold yfav; omega
    clear fr
    have kk := k s1 (.int (iI (yfav A l n b y))) v4 v5 v6 rfl o4 o5 o6 hf h8 h1 h9 h0 hz
    by_cases c : y.1 ≤ 0
    · repeat' (first | (with_reducible refine Br_i ?_ ?_ <;> (intro hbr; first | exact False.elim hbr | skip)) | (with_reducible refine Wl_i ?_) | (simp (disch := first | omega | exact okF _ | exact okI _ | exact okR _ | assumption | exact okN) only [u_at, iI_zero, iI_31, iI_add, iI_sub, iI_mul, iI_neg, ↓iI_max, ↓iI_min, iI_div, emod_f, iI_lt, iI_le, iI_inj, iI_toInt, ↓ii01, ↓ii11, ↓bI_b, bI_0, bI_1, Kt_s, Kt_n, cat0, cat1, cat2, cat3, cat4, rfV, Nat.reduceAdd, Nat.reduceMul, Nat.reduceEqDiff, Int.reduceAdd, Int.reduceSub, Int.reduceMul, Int.reduceNeg, Int.reduceLT, Int.reduceLE, Int.reduceEq, Int.reduceDiv, ↓reduceIte, ↓ite_ww, ↓ite_wi, Br_n, Br_TW, Br_FW, Br_FP, Br_FB, nn_p, and_true, true_and, and_self, true_or, or_true, not_true_eq_false, not_false_eq_true, le_T, le_F, lt_T, lt_F, eq_T, eq_F, Int.add_zero, Int.zero_add, Int.one_mul, Int.mul_one, up_eq, up_ne, Int.add_assoc, Int.add_sub_cancel, Int.sub_zero, Int.sub_self, S_235_0, S_235_1, S_235_2, S_235_3, S_235_4, S_235_7, S_235_8, S_235_9, S_235_12, S_235_13, S_235_16, S_235_17, S_235_18, S_235_19, S_235_20, S_235_23, S_235_24, S_235_25, S_235_26, S_235_27, S_235_30, S_235_31, S_235_34, S_235_37, S_235_38, S_235_39, S_235_40, S_235_41, S_235_44, S_235_45, S_235_48, S_235_49, S_235_50, S_235_51, S_235_54, S_235_57, S_235_58, S_235_59, S_235_60, S_235_61, S_235_64, S_235_65, S_235_66, S_235_69, S_235_70, S_235_73, S_235_74, S_235_75, S_235_76, S_235_77, S_235_80, S_235_81, S_235_82, S_235_85, S_235_86, S_235_87, S_235_88, S_235_89, S_235_90, S_235_91, S_235_94, S_235_95, S_235_96, S_235_99, S_235_100, S_235_101, S_235_104, S_235_105, S_235_106, S_235_109, S_235_110, S_235_111, S_235_114, S_235_115, S_235_116, S_235_117, S_235_120, S_235_122, S_235_123, S_235_126, S_235_128, S_235_129, S_235_130, S_235_133, S_235_134, S_235_135, S_235_136, S_235_138, S_235_140, S_235_141, S_235_144, S_235_145, S_235_146, S_235_149, S_235_151, S_235_154, S_235_155, S_235_158, S_235_159, S_235_160, S_235_162, S_235_163, S_235_166, S_235_167, S_235_168, S_235_169, S_235_171, S_235_172, S_235_173, S_235_174, S_235_177, S_235_179, S_235_180, S_235_181, S_235_183, S_235_184, S_235_187, S_235_188, S_235_189, S_235_190, S_235_191, S_235_192, S_235_193, S_235_196, S_235_198, S_235_199, S_235_200, S_235_202, S_235_203, S_235_206, S_235_207, S_235_208, S_235_209, S_235_212, S_235_213, S_235_214, S_235_215, S_235_216, S_235_217, S_235_218, S_235_219, S_235_222, S_235_223, S_235_224, S_235_225, S_235_227, S_235_228, S_235_231, S_235_232, S_235_233, S_235_234, S_235_235, S_235_236, S_235_237, S_235_240, S_235_241, S_235_242, S_235_243, S_235_245, S_235_246, S_235_247, S_235_248, S_235_249, S_235_252, S_235_253, S_235_259, S_235_262, H_122, H_149, h9]))
      exact kk
    · have c2 : yfav A l n b y = -1 := by omega
      rw [c2] at kk
      repeat' (first | (with_reducible refine Br_i ?_ ?_ <;> (intro hbr; first | exact False.elim hbr | skip)) | (with_reducible refine Wl_i ?_) | (simp (disch := first | omega | exact okF _ | exact okI _ | exact okR _ | assumption | exact okN) only [u_at, iI_zero, iI_31, iI_add, iI_sub, iI_mul, iI_neg, ↓iI_max, ↓iI_min, iI_div, emod_f, iI_lt, iI_le, iI_inj, iI_toInt, ↓ii01, ↓ii11, ↓bI_b, bI_0, bI_1, Kt_s, Kt_n, cat0, cat1, cat2, cat3, cat4, rfV, Nat.reduceAdd, Nat.reduceMul, Nat.reduceEqDiff, Int.reduceAdd, Int.reduceSub, Int.reduceMul, Int.reduceNeg, Int.reduceLT, Int.reduceLE, Int.reduceEq, Int.reduceDiv, ↓reduceIte, ↓ite_ww, ↓ite_wi, Br_n, Br_TW, Br_FW, Br_FP, Br_FB, nn_p, and_true, true_and, and_self, true_or, or_true, not_true_eq_false, not_false_eq_true, le_T, le_F, lt_T, lt_F, eq_T, eq_F, Int.add_zero, Int.zero_add, Int.one_mul, Int.mul_one, up_eq, up_ne, Int.add_assoc, Int.add_sub_cancel, Int.sub_zero, Int.sub_self, S_235_0, S_235_1, S_235_2, S_235_3, S_235_4, S_235_7, S_235_8, S_235_9, S_235_12, S_235_13, S_235_16, S_235_17, S_235_18, S_235_19, S_235_20, S_235_23, S_235_24, S_235_25, S_235_26, S_235_27, S_235_30, S_235_31, S_235_34, S_235_37, S_235_38, S_235_39, S_235_40, S_235_41, S_235_44, S_235_45, S_235_48, S_235_49, S_235_50, S_235_51, S_235_54, S_235_57, S_235_58, S_235_59, S_235_60, S_235_61, S_235_64, S_235_65, S_235_66, S_235_69, S_235_70, S_235_73, S_235_74, S_235_75, S_235_76, S_235_77, S_235_80, S_235_81, S_235_82, S_235_85, S_235_86, S_235_87, S_235_88, S_235_89, S_235_90, S_235_91, S_235_94, S_235_95, S_235_96, S_235_99, S_235_100, S_235_101, S_235_104, S_235_105, S_235_106, S_235_109, S_235_110, S_235_111, S_235_114, S_235_115, S_235_116, S_235_117, S_235_120, S_235_122, S_235_123, S_235_126, S_235_128, S_235_129, S_235_130, S_235_133, S_235_134, S_235_135, S_235_136, S_235_138, S_235_140, S_235_141, S_235_144, S_235_145, S_235_146, S_235_149, S_235_151, S_235_154, S_235_155, S_235_158, S_235_159, S_235_160, S_235_162, S_235_163, S_235_166, S_235_167, S_235_168, S_235_169, S_235_171, S_235_172, S_235_173, S_235_174, S_235_177, S_235_179, S_235_180, S_235_181, S_235_183, S_235_184, S_235_187, S_235_188, S_235_189, S_235_190, S_235_191, S_235_192, S_235_193, S_235_196, S_235_198, S_235_199, S_235_200, S_235_202, S_235_203, S_235_206, S_235_207, S_235_208, S_235_209, S_235_212, S_235_213, S_235_214, S_235_215, S_235_216, S_235_217, S_235_218, S_235_219, S_235_222, S_235_223, S_235_224, S_235_225, S_235_227, S_235_228, S_235_231, S_235_232, S_235_233, S_235_234, S_235_235, S_235_236, S_235_237, S_235_240, S_235_241, S_235_242, S_235_243, S_235_245, S_235_246, S_235_247, S_235_248, S_235_249, S_235_252, S_235_253, S_235_259, S_235_262, H_122, H_149, h9, c2]))
      exact kk
  induction f with
  | zero =>
    intro s1 y hf hy h8 h1 h9 h0 hz hs e
    refine wl s1 y hf hy h8 h1 h9 h0 hz ?_ e
    rcases hs with hs | hs
    · exact Or.inl hs
    · right
      rcases fav_r (P := avl A l y.2.1) (v := oOver A l b) hn.1 with ⟨q, _⟩ | ⟨f0, f1, f2, f3⟩
      · exact q
      · exact absurd ⟨f2, f3⟩ (ycnt_0 hn.1 (by simpa using hs) _ f0 f1)
  | succ f ih =>
    intro s1 y hf hy h8 h1 h9 h0 hz hs e v4 v5 v6 o4 o5 o6
    unfold srv at e
    by_cases c : y.1 ≤ 0 ∨ yfav A l n b y = -1
    · rw [if_pos c] at e
      exact wl s1 y hf hy h8 h1 h9 h0 hz c e v4 v5 v6 o4 o5 o6
    · rw [if_neg c] at e
      have hA1 := hA s1 hf
      have cs := ycnt_s hn.1 hy hw (fun q => c (Or.inr q))
      rcases fav_r (P := avl A l y.2.1) (v := oOver A l b) hn.1 with ⟨q, _⟩ | ⟨f0, f1, f2, f3⟩
      · exact absurd (Or.inr q) c
      · have f0 : 0 ≤ yfav A l n b y := f0
        have f1 : yfav A l n b y < n := f1
        have f3 : 0 ≤ oOver A l b (yfav A l n b y) := f3
        have pa := h152 _ f0 f1
        have hO := hw _ f0 f1
        have hp0 := oH_p (l := l) hO f3
        have rh := oH_r (l := l) hO
        obtain ⟨m1, m2, m3, -⟩ := hm _ f0 f1
        have e1 := congrFun (hf.g 141 rfl) (yfav A l n b y)
        have e2 := congrFun (hf.g 142 rfl) (yfav A l n b y)
        have e3 := congrFun (hf.g 143 rfl) (yfav A l n b y)
        have e5 := congrFun (hf.g 152 rfl) (yfav A l n b y)
        have m1 : s 141 (yfav A l n b y) = oH A l (yfav A l n b y) := m1
        have m2 : s 142 (yfav A l n b y) = oP A l (yfav A l n b y) := m2
        have m3 : s 143 (yfav A l n b y) = oC A l (yfav A l n b y) := m3
        have so := ystep_ok (b := b) hy hO hp0
        obtain ⟨t1, t2, t3⟩ := ytk_r hy hO hp0
        have ho1 := hO.1
        obtain ⟨l1, l2⟩ := h8 _ hO.1.1 hO.1.2
        have l3 := h1 _ f0 f1
        have ly := hy.2 _ hO.1.1 hO.1.2
        have hy1 := hy.1
        have ty : ytk A l (yfav A l n b y) y = min y.1 (y.2.1 (A (180 + 13 * (yfav A l n b y))) / oH A l (yfav A l n b y)) := rfl
        have d0 : 0 ≤ y.2.1 (A (180 + 13 * (yfav A l n b y))) / oH A l (yfav A l n b y) := Int.ediv_nonneg ly.1 (by omega)
        have d1 : y.2.1 (A (180 + 13 * (yfav A l n b y))) / oH A l (yfav A l n b y) ≤ y.2.1 (A (180 + 13 * (yfav A l n b y))) := Int.ediv_le_self _ ly.1
        have nx : ∀ v4 v5 v6, okO v4 = true → okO v5 = true → okO v6 = true → Wp (d + 2) 235 100 [.ref 122, .int (iI n), .int (iI b), .int (iI (yfav A l n b (ystep A l b (yfav A l n b y) y))), v4, v5, v6] [] (hp X (u (u (u (u (u s1 149 (up (s1 149) b (y.1 - ytk A l (yfav A l n b y) y))) 148 (up (s1 148) (A (180 + 13 * (yfav A l n b y))) (y.2.1 (A (180 + 13 * (yfav A l n b y))) - ytk A l (yfav A l n b y) y * oH A l (yfav A l n b y)))) 147 (up (s1 147) (A (180 + 13 * (yfav A l n b y))) (y.2.2.1 (A (180 + 13 * (yfav A l n b y))) + ytk A l (yfav A l n b y) y * (oP A l (yfav A l n b y) - oC A l (yfav A l n b y))))) 150 (up (s1 150) b (y.2.2.2.2 + ytk A l (yfav A l n b y) y * oOver A l b (yfav A l n b y)))) 151 (up (s1 151) (yfav A l n b y) (y.2.2.2.1 (yfav A l n b y) + ytk A l (yfav A l n b y) y)))) Q := by
          refine ih _ _ ?_ so ?_ ?_ ?_ ?_ ?_ ?_ e
          · exact ((((hf.u rfl).u rfl).u rfl).u rfl).u rfl
          · intro m z0 z1
            show up (s1 148) _ _ m = up y.2.1 _ _ m ∧ up (s1 147) _ _ m = up y.2.2.1 _ _ m
            simp only [up_at]
            by_cases q : m = A (180 + 13 * (yfav A l n b y))
            · rw [if_pos q, if_pos q, if_pos q, if_pos q]
              exact ⟨rfl, rfl⟩
            · rw [if_neg q, if_neg q, if_neg q, if_neg q]
              exact h8 m z0 z1
          · intro z z0 z1
            show up (s1 151) _ _ z = up y.2.2.2.1 _ _ z
            simp only [up_at]
            by_cases q : z = yfav A l n b y
            · rw [if_pos q, if_pos q]
            · rw [if_neg q, if_neg q]
              exact h1 z z0 z1
          · show up (s1 149) b _ b = _
            rw [up_eq rfl]
            rfl
          · show up (s1 150) b _ b = _
            rw [up_eq rfl]
            rfl
          · intro z z0 z1
            show up (s1 149) b _ z = _ ∧ up (s1 150) b _ z = _
            rw [up_ne z1, up_ne z1]
            exact hz z z0 z1
          · rcases cs with q | q
            · exact Or.inl q
            · right
              rcases hs with w | w
              · exact absurd (Or.inl w) c
              · omega
        have nl := fun (d : Nat) (Q : Option Value → aH → Prop) => m_nextLiked (d := d) (X := X) (Q := Q) (n := n) (b := b) (l := l) (A := A) (y := ystep A l b (yfav A l n b y) y) (s := u (u (u (u (u s1 149 (up (s1 149) b (y.1 - ytk A l (yfav A l n b y) y))) 148 (up (s1 148) (A (180 + 13 * (yfav A l n b y))) (y.2.1 (A (180 + 13 * (yfav A l n b y))) - ytk A l (yfav A l n b y) y * oH A l (yfav A l n b y)))) 147 (up (s1 147) (A (180 + 13 * (yfav A l n b y))) (y.2.2.1 (A (180 + 13 * (yfav A l n b y))) + ytk A l (yfav A l n b y) y * (oP A l (yfav A l n b y) - oC A l (yfav A l n b y))))) 150 (up (s1 150) b (y.2.2.2.2 + ytk A l (yfav A l n b y) y * oOver A l b (yfav A l n b y)))) 151 (up (s1 151) (yfav A l n b y) (y.2.2.2.1 (yfav A l n b y) + ytk A l (yfav A l n b y) y)))
          (hA _ (((((hf.u rfl).u rfl).u rfl).u rfl).u rfl)) W hw (fun o o0 o1 => ((congrFun (hf.g 141 rfl) o).trans (hm o o0 o1).1)) hn hb (fun o o0 o1 => ((congrFun (hf.g 152 rfl) o).trans (h152 o o0 o1))) (fun m z0 z1 => by
            show up (s1 148) _ _ m = up y.2.1 _ _ m
            simp only [up_at]
            by_cases q : m = A (180 + 13 * (yfav A l n b y))
            · rw [if_pos q, if_pos q]
            · rw [if_neg q, if_neg q]
              exact (h8 m z0 z1).1) so
        generalize yfav A l n b (ystep A l b (yfav A l n b y) y) = g2 at nx nl
        rw [S_235_100]
        by_cases q : y.2.1 (A (180 + 13 * (yfav A l n b y))) / oH A l (yfav A l n b y) < y.1
        · have eq : y.2.1 (A (180 + 13 * (yfav A l n b y))) / oH A l (yfav A l n b y) = ytk A l (yfav A l n b y) y := by omega
          repeat' (first | (with_reducible refine Br_i ?_ ?_ <;> (intro hbr; first | exact False.elim hbr | skip)) | (with_reducible refine Wl_i ?_) | (simp (disch := first | omega | exact okF _ | exact okI _ | exact okR _ | assumption | exact okN) only [u_at, iI_zero, iI_31, iI_add, iI_sub, iI_mul, iI_neg, ↓iI_max, ↓iI_min, iI_div, emod_f, iI_lt, iI_le, iI_inj, iI_toInt, ↓ii01, ↓ii11, ↓bI_b, bI_0, bI_1, Kt_s, Kt_n, cat0, cat1, cat2, cat3, cat4, rfV, Nat.reduceAdd, Nat.reduceMul, Nat.reduceEqDiff, Int.reduceAdd, Int.reduceSub, Int.reduceMul, Int.reduceNeg, Int.reduceLT, Int.reduceLE, Int.reduceEq, Int.reduceDiv, ↓reduceIte, ↓ite_ww, ↓ite_wi, Br_n, Br_TW, Br_FW, Br_FP, Br_FB, nn_p, and_true, true_and, and_self, true_or, or_true, not_true_eq_false, not_false_eq_true, le_T, le_F, lt_T, lt_F, eq_T, eq_F, Int.add_zero, Int.zero_add, Int.one_mul, Int.mul_one, up_eq, up_ne, Int.add_assoc, Int.add_sub_cancel, Int.sub_zero, Int.sub_self, S_235_0, S_235_1, S_235_2, S_235_3, S_235_4, S_235_7, S_235_8, S_235_9, S_235_12, S_235_13, S_235_16, S_235_17, S_235_18, S_235_19, S_235_20, S_235_23, S_235_24, S_235_25, S_235_26, S_235_27, S_235_30, S_235_31, S_235_34, S_235_37, S_235_38, S_235_39, S_235_40, S_235_41, S_235_44, S_235_45, S_235_48, S_235_49, S_235_50, S_235_51, S_235_54, S_235_57, S_235_58, S_235_59, S_235_60, S_235_61, S_235_64, S_235_65, S_235_66, S_235_69, S_235_70, S_235_73, S_235_74, S_235_75, S_235_76, S_235_77, S_235_80, S_235_81, S_235_82, S_235_85, S_235_86, S_235_87, S_235_88, S_235_89, S_235_90, S_235_91, S_235_94, S_235_95, S_235_96, S_235_99, S_235_101, S_235_104, S_235_105, S_235_106, S_235_109, S_235_110, S_235_111, S_235_114, S_235_115, S_235_116, S_235_117, S_235_120, S_235_122, S_235_123, S_235_126, S_235_128, S_235_129, S_235_130, S_235_133, S_235_134, S_235_135, S_235_136, S_235_138, S_235_140, S_235_141, S_235_144, S_235_145, S_235_146, S_235_149, S_235_151, S_235_154, S_235_155, S_235_158, S_235_159, S_235_160, S_235_162, S_235_163, S_235_166, S_235_167, S_235_168, S_235_169, S_235_171, S_235_172, S_235_173, S_235_174, S_235_177, S_235_179, S_235_180, S_235_181, S_235_183, S_235_184, S_235_187, S_235_188, S_235_189, S_235_190, S_235_191, S_235_192, S_235_193, S_235_196, S_235_198, S_235_199, S_235_200, S_235_202, S_235_203, S_235_206, S_235_207, S_235_208, S_235_209, S_235_212, S_235_213, S_235_214, S_235_215, S_235_216, S_235_217, S_235_218, S_235_219, S_235_222, S_235_223, S_235_224, S_235_225, S_235_227, S_235_228, S_235_231, S_235_232, S_235_233, S_235_234, S_235_235, S_235_236, S_235_237, S_235_240, S_235_241, S_235_242, S_235_243, S_235_245, S_235_246, S_235_247, S_235_248, S_235_249, S_235_252, S_235_253, S_235_259, S_235_262, H_122, H_141, H_142, H_143, H_147, H_148, H_149, H_150, H_151, H_152, m_offerOf, hA1, h9, h0, e1, e2, e3, e5, m1, m2, m3, pa, l1, l2, l3, eq, nl]))
          exact nx _ _ _ (okI _) (okI _) (okI _)
        · have eq : ytk A l (yfav A l n b y) y = y.1 := by omega
          rw [eq, Int.sub_self] at nx nl
          repeat' (first | (with_reducible refine Br_i ?_ ?_ <;> (intro hbr; first | exact False.elim hbr | skip)) | (with_reducible refine Wl_i ?_) | (simp (disch := first | omega | exact okF _ | exact okI _ | exact okR _ | assumption | exact okN) only [u_at, iI_zero, iI_31, iI_add, iI_sub, iI_mul, iI_neg, ↓iI_max, ↓iI_min, iI_div, emod_f, iI_lt, iI_le, iI_inj, iI_toInt, ↓ii01, ↓ii11, ↓bI_b, bI_0, bI_1, Kt_s, Kt_n, cat0, cat1, cat2, cat3, cat4, rfV, Nat.reduceAdd, Nat.reduceMul, Nat.reduceEqDiff, Int.reduceAdd, Int.reduceSub, Int.reduceMul, Int.reduceNeg, Int.reduceLT, Int.reduceLE, Int.reduceEq, Int.reduceDiv, ↓reduceIte, ↓ite_ww, ↓ite_wi, Br_n, Br_TW, Br_FW, Br_FP, Br_FB, nn_p, and_true, true_and, and_self, true_or, or_true, not_true_eq_false, not_false_eq_true, le_T, le_F, lt_T, lt_F, eq_T, eq_F, Int.add_zero, Int.zero_add, Int.one_mul, Int.mul_one, up_eq, up_ne, Int.add_assoc, Int.add_sub_cancel, Int.sub_zero, Int.sub_self, S_235_0, S_235_1, S_235_2, S_235_3, S_235_4, S_235_7, S_235_8, S_235_9, S_235_12, S_235_13, S_235_16, S_235_17, S_235_18, S_235_19, S_235_20, S_235_23, S_235_24, S_235_25, S_235_26, S_235_27, S_235_30, S_235_31, S_235_34, S_235_37, S_235_38, S_235_39, S_235_40, S_235_41, S_235_44, S_235_45, S_235_48, S_235_49, S_235_50, S_235_51, S_235_54, S_235_57, S_235_58, S_235_59, S_235_60, S_235_61, S_235_64, S_235_65, S_235_66, S_235_69, S_235_70, S_235_73, S_235_74, S_235_75, S_235_76, S_235_77, S_235_80, S_235_81, S_235_82, S_235_85, S_235_86, S_235_87, S_235_88, S_235_89, S_235_90, S_235_91, S_235_94, S_235_95, S_235_96, S_235_99, S_235_101, S_235_104, S_235_105, S_235_106, S_235_109, S_235_110, S_235_111, S_235_114, S_235_115, S_235_116, S_235_117, S_235_120, S_235_122, S_235_123, S_235_126, S_235_128, S_235_129, S_235_130, S_235_133, S_235_134, S_235_135, S_235_136, S_235_138, S_235_140, S_235_141, S_235_144, S_235_145, S_235_146, S_235_149, S_235_151, S_235_154, S_235_155, S_235_158, S_235_159, S_235_160, S_235_162, S_235_163, S_235_166, S_235_167, S_235_168, S_235_169, S_235_171, S_235_172, S_235_173, S_235_174, S_235_177, S_235_179, S_235_180, S_235_181, S_235_183, S_235_184, S_235_187, S_235_188, S_235_189, S_235_190, S_235_191, S_235_192, S_235_193, S_235_196, S_235_198, S_235_199, S_235_200, S_235_202, S_235_203, S_235_206, S_235_207, S_235_208, S_235_209, S_235_212, S_235_213, S_235_214, S_235_215, S_235_216, S_235_217, S_235_218, S_235_219, S_235_222, S_235_223, S_235_224, S_235_225, S_235_227, S_235_228, S_235_231, S_235_232, S_235_233, S_235_234, S_235_235, S_235_236, S_235_237, S_235_240, S_235_241, S_235_242, S_235_243, S_235_245, S_235_246, S_235_247, S_235_248, S_235_249, S_235_252, S_235_253, S_235_259, S_235_262, H_122, H_141, H_142, H_143, H_147, H_148, H_149, H_150, H_151, H_152, m_offerOf, hA1, h9, h0, e1, e2, e3, e5, m1, m2, m3, pa, l1, l2, l3, nl]))
          exact nx _ _ _ (okI _) (okI _) (okI _)
end MY
