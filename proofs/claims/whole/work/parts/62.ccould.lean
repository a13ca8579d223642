/-! COULD and HAD, the class -/
theorem yz_gain {A : Int → Int} {l : lawT} {n j b : Int} (hj : 0 ≤ j) (hb : j ≤ b) : (yrun A l n j).2.2.2.2 b = 0 ∧ (yrun A l n j).2.2.2.1 b = 0 := by
  refine i_ind (P := fun j => j ≤ b → (yrun A l n j).2.2.2.2 b = 0 ∧ (yrun A l n j).2.2.2.1 b = 0) hj (fun _ => by rw [yrun_0]; exact ⟨rfl, rfl⟩) ?_ hb
  intro z z0 z1 ih z2
  rw [yrun_s z0]
  show up (yrun A l n z).2.2.2.2 z _ b = 0 ∧ up (yrun A l n z).2.2.2.1 z _ b = 0
  rw [up_ne (by omega), up_ne (by omega)]
  exact ih (by omega)
theorem srv_e {A : Int → Int} {l : lawT} {n b m : Int} (hn : 0 ≤ n) (hw : ∀ o, 0 ≤ o → o < n → WO A o) (hm : A 1 ≤ m) : ∀ (f : Nat) (y : yst), (srv A l n b f y).2.2.1 m = y.2.2.1 m ∧ (srv A l n b f y).2.1 m = y.2.1 m
  | 0, y => ⟨rfl, rfl⟩
  | f + 1, y => by
    unfold srv
    by_cases c : y.1 ≤ 0 ∨ yfav A l n b y = -1
    · rw [if_pos c]; exact ⟨rfl, rfl⟩
    · rw [if_neg c, (srv_e hn hw hm f _).1, (srv_e hn hw hm f _).2]
      rcases fav_r (P := avl A l y.2.1) (v := oOver A l b) hn with ⟨e, _⟩ | ⟨f0, f1, f2, f3⟩
      · exact absurd (Or.inr e) c
      · have hO := (hw _ f0 f1).1
        have hO : A (180 + 13 * (yfav A l n b y)) < A 1 := hO.2
        show up y.2.2.1 (A (180 + 13 * (yfav A l n b y))) _ m = _ ∧ up y.2.1 (A (180 + 13 * (yfav A l n b y))) _ m = _
        rw [up_ne (by omega), up_ne (by omega)]
        exact ⟨rfl, rfl⟩
theorem yz_earn {A : Int → Int} {l : lawT} {n j m : Int} (hn : 0 ≤ n) (hw : ∀ o, 0 ≤ o → o < n → WO A o) (hj : 0 ≤ j) (hm : A 1 ≤ m) : (yrun A l n j).2.1 m = 0 ∧ (yrun A l n j).1 m = 0 := by
  refine i_ind (P := fun j => (yrun A l n j).2.1 m = 0 ∧ (yrun A l n j).1 m = 0) hj ?_ ?_
  · rw [yrun_0]
    refine ⟨rfl, ?_⟩
    show (if 0 ≤ m ∧ m < A 1 then A (60 + 5 * m) else 0) = 0
    rw [if_neg (by omega)]
  · intro z z0 z1 ih
    rw [yrun_s z0]
    have q := srv_e (l := l) (b := z) hn hw hm n.toNat (A (100 + 6 * z), (yrun A l n z).1, (yrun A l n z).2.1, (yrun A l n z).2.2.1, 0)
    exact ⟨q.1.trans ih.1, q.2.trans ih.2⟩
theorem sm_ext {f : Int → Int} {a c : Int} (ha : 0 ≤ a) (h : a ≤ c) (z : ∀ x, a ≤ x → x < c → f x = 0) : sm f c = sm f a := by
  refine i_ind (P := fun y => a ≤ y → (∀ x, a ≤ x → x < y → f x = 0) → sm f y = sm f a) (hi := c) (by omega) ?_ ?_ h z
  · intro q _
    rw [show a = 0 by omega]
  · intro y y0 y1 ih q k
    by_cases e : a = y + 1
    · rw [e]
    · rw [sm_s y0, ih (by omega) (fun x x0 x1 => k x x0 (by omega)), k y (by omega) (by omega), Int.add_zero]
section CG
variable {d : Nat} {X : hX} {s : sg} {Q : Option Value → aH → Prop} {n b k t w g : Int} {A : Int → Int} {l : lawT}
theorem c_had {kq : Nat} (hk : isLw kq) (hlC : lC s kq 0 l) (hl : lawOK l) (hI : IC0 0 s A) (W : WF0 A) (hw : ∀ o, 0 ≤ o → o < A 3 → WO A o) (hO : ∀ o, 0 ≤ o → o < A 3 → cO 0 s A o) (kk : ∀ s', Fr [84900, 85, 86, 88, 89, 90, 91, 92, 93, 95, 96, 97, 98, 99, 100, 101, 102, 103, 104, 113, 114, 115, 116, 117] s s' → Q (some (.int (iI (hadOf A l)))) (hp X s')) : Wp (d + 8) 112 0 [.ref 105, .ref kq, .float 0, .float 0] [] (hp X s) Q := by
  have w0 := W.1
  unfold W0 at w0
  have n3 : s 55004 0 = A 3 := hI.1.2.2.2.1
  repeat' (first | (with_reducible refine Br_i ?_ ?_ <;> (intro hbr; first | exact False.elim hbr | skip)) | (with_reducible refine Wl_i ?_) | (simp (disch := first | omega | exact okF _ | exact okI _ | exact okR _ | assumption | exact okN) only [u_at, iI_zero, iI_31, iI_add, iI_sub, iI_mul, iI_neg, ↓iI_max, ↓iI_min, iI_div, emod_f, iI_lt, iI_le, iI_inj, iI_toInt, ↓ii01, ↓ii11, ↓bI_b, bI_0, bI_1, Kt_s, Kt_n, cat0, cat1, cat2, cat3, cat4, rfV, Nat.reduceAdd, Nat.reduceMul, Nat.reduceEqDiff, Int.reduceAdd, Int.reduceSub, Int.reduceMul, Int.reduceNeg, Int.reduceLT, Int.reduceLE, Int.reduceEq, Int.reduceDiv, ↓reduceIte, ↓ite_ww, ↓ite_wi, Br_n, Br_TW, Br_FW, Br_FP, Br_FB, nn_p, and_true, true_and, and_self, true_or, or_true, not_true_eq_false, not_false_eq_true, le_T, le_F, lt_T, lt_F, eq_T, eq_F, Int.add_zero, Int.zero_add, Int.one_mul, Int.mul_one, up_eq, up_ne, Int.add_assoc, Int.add_sub_cancel, Int.sub_zero, Int.sub_self, S_112_0, S_112_1, S_112_4, S_112_5, S_112_8, S_112_9, S_112_12, S_112_13, S_112_16, S_112_17, S_112_20, S_112_23, S_112_26, S_112_29, S_112_30, S_112_31, S_112_32, S_112_33, S_112_35, S_112_36, S_112_39, S_112_42, S_112_43, S_112_46, S_112_47, S_112_48, S_112_51, S_112_54, S_112_55, S_112_56, S_112_57, S_112_58, S_112_61, S_112_64, S_112_65, S_112_66, S_112_67, S_112_68, S_112_71, S_112_74, S_112_75, S_112_78, S_112_79, S_112_80, S_112_83, S_112_86, S_112_87, S_112_88, S_112_89, S_112_90, S_112_93, S_112_96, S_112_97, H_105, H_87]))
  refine c_weighAll hk hlC hl hI W hw hO ?_
  intro s1 f1 hc1 hm1
  have e55 : s1 55004 0 = A 3 := by rw [f1.g 55004 rfl]; exact n3
  repeat' (first | (with_reducible refine Br_i ?_ ?_ <;> (intro hbr; first | exact False.elim hbr | skip)) | (with_reducible refine Wl_i ?_) | (simp (disch := first | omega | exact okF _ | exact okI _ | exact okR _ | assumption | exact okN) only [u_at, iI_zero, iI_31, iI_add, iI_sub, iI_mul, iI_neg, ↓iI_max, ↓iI_min, iI_div, emod_f, iI_lt, iI_le, iI_inj, iI_toInt, ↓ii01, ↓ii11, ↓bI_b, bI_0, bI_1, Kt_s, Kt_n, cat0, cat1, cat2, cat3, cat4, rfV, Nat.reduceAdd, Nat.reduceMul, Nat.reduceEqDiff, Int.reduceAdd, Int.reduceSub, Int.reduceMul, Int.reduceNeg, Int.reduceLT, Int.reduceLE, Int.reduceEq, Int.reduceDiv, ↓reduceIte, ↓ite_ww, ↓ite_wi, Br_n, Br_TW, Br_FW, Br_FP, Br_FB, nn_p, and_true, true_and, and_self, true_or, or_true, not_true_eq_false, not_false_eq_true, le_T, le_F, lt_T, lt_F, eq_T, eq_F, Int.add_zero, Int.zero_add, Int.one_mul, Int.mul_one, up_eq, up_ne, Int.add_assoc, Int.add_sub_cancel, Int.sub_zero, Int.sub_self, S_112_0, S_112_1, S_112_4, S_112_5, S_112_8, S_112_9, S_112_12, S_112_13, S_112_16, S_112_17, S_112_20, S_112_23, S_112_26, S_112_29, S_112_30, S_112_31, S_112_32, S_112_33, S_112_35, S_112_36, S_112_39, S_112_42, S_112_43, S_112_46, S_112_47, S_112_48, S_112_51, S_112_54, S_112_55, S_112_56, S_112_57, S_112_58, S_112_61, S_112_64, S_112_65, S_112_66, S_112_67, S_112_68, S_112_71, S_112_74, S_112_75, S_112_78, S_112_79, S_112_80, S_112_83, S_112_86, S_112_87, S_112_88, S_112_89, S_112_90, S_112_93, S_112_96, S_112_97, H_105, H_87, H_48, H_55, e55]))
  refine c_run_112 (IC0_fr f1 rfl hI) W hw hm1 (by omega) ?_
  intro s2 f2 r2
  have F := (f1.up (L2 := [84900, 85, 86, 88, 89, 90, 91, 92, 93, 95, 96, 97, 98, 99, 100, 101, 102, 103, 104, 113, 114, 115, 116, 117]) rfl).to f2 rfl
  have l2 : ∀ m, 0 ≤ m → m ≤ 6 → Wp (d + 8) 112 66 [.ref 105, .ref kq, .int (iI (sm (year A l (A 3)).2.2.2.2 (A 2) + sm (year A l (A 3)).2.1 m)), .int (iI m)] [] (hp X s2) Q := by
    refine lp0 ?_ ?_
    · intro m m0 m1 k2
      have e : s2 114 m = (year A l (A 3)).2.1 m := (r2.1 m m0 m1).2
      rw [sm_s m0] at k2
      rw [S_112_66]
      repeat' (first | (with_reducible refine Br_i ?_ ?_ <;> (intro hbr; first | exact False.elim hbr | skip)) | (with_reducible refine Wl_i ?_) | (simp (disch := first | omega | exact okF _ | exact okI _ | exact okR _ | assumption | exact okN) only [u_at, iI_zero, iI_31, iI_add, iI_sub, iI_mul, iI_neg, ↓iI_max, ↓iI_min, iI_div, emod_f, iI_lt, iI_le, iI_inj, iI_toInt, ↓ii01, ↓ii11, ↓bI_b, bI_0, bI_1, Kt_s, Kt_n, cat0, cat1, cat2, cat3, cat4, rfV, Nat.reduceAdd, Nat.reduceMul, Nat.reduceEqDiff, Int.reduceAdd, Int.reduceSub, Int.reduceMul, Int.reduceNeg, Int.reduceLT, Int.reduceLE, Int.reduceEq, Int.reduceDiv, ↓reduceIte, ↓ite_ww, ↓ite_wi, Br_n, Br_TW, Br_FW, Br_FP, Br_FB, nn_p, and_true, true_and, and_self, true_or, or_true, not_true_eq_false, not_false_eq_true, le_T, le_F, lt_T, lt_F, eq_T, eq_F, Int.add_zero, Int.zero_add, Int.one_mul, Int.mul_one, up_eq, up_ne, Int.add_assoc, Int.add_sub_cancel, Int.sub_zero, Int.sub_self, S_112_0, S_112_1, S_112_4, S_112_5, S_112_8, S_112_9, S_112_12, S_112_13, S_112_16, S_112_17, S_112_20, S_112_23, S_112_26, S_112_29, S_112_30, S_112_31, S_112_32, S_112_33, S_112_34, S_112_35, S_112_36, S_112_39, S_112_42, S_112_43, S_112_46, S_112_47, S_112_48, S_112_51, S_112_54, S_112_55, S_112_56, S_112_57, S_112_58, S_112_61, S_112_64, S_112_65, S_112_67, S_112_68, S_112_71, S_112_74, S_112_75, S_112_78, S_112_79, S_112_80, S_112_83, S_112_86, S_112_87, S_112_88, S_112_89, S_112_90, S_112_93, S_112_96, S_112_97, H_105, H_112, H_114, e]))
      exact k2
    · have e : sm (year A l (A 3)).2.1 6 = sm (year A l (A 3)).2.1 (A 1) := sm_ext w0.2.1.1 w0.2.1.2 (fun x x0 _ => (yz_earn (by omega) hw w0.2.2.1.1 x0).1)
      rw [e]
      repeat' (first | (with_reducible refine Br_i ?_ ?_ <;> (intro hbr; first | exact False.elim hbr | skip)) | (with_reducible refine Wl_i ?_) | (simp (disch := first | omega | exact okF _ | exact okI _ | exact okR _ | assumption | exact okN) only [u_at, iI_zero, iI_31, iI_add, iI_sub, iI_mul, iI_neg, ↓iI_max, ↓iI_min, iI_div, emod_f, iI_lt, iI_le, iI_inj, iI_toInt, ↓ii01, ↓ii11, ↓bI_b, bI_0, bI_1, Kt_s, Kt_n, cat0, cat1, cat2, cat3, cat4, rfV, Nat.reduceAdd, Nat.reduceMul, Nat.reduceEqDiff, Int.reduceAdd, Int.reduceSub, Int.reduceMul, Int.reduceNeg, Int.reduceLT, Int.reduceLE, Int.reduceEq, Int.reduceDiv, ↓reduceIte, ↓ite_ww, ↓ite_wi, Br_n, Br_TW, Br_FW, Br_FP, Br_FB, nn_p, and_true, true_and, and_self, true_or, or_true, not_true_eq_false, not_false_eq_true, le_T, le_F, lt_T, lt_F, eq_T, eq_F, Int.add_zero, Int.zero_add, Int.one_mul, Int.mul_one, up_eq, up_ne, Int.add_assoc, Int.add_sub_cancel, Int.sub_zero, Int.sub_self, S_112_0, S_112_1, S_112_4, S_112_5, S_112_8, S_112_9, S_112_12, S_112_13, S_112_16, S_112_17, S_112_20, S_112_23, S_112_26, S_112_29, S_112_30, S_112_31, S_112_32, S_112_33, S_112_34, S_112_35, S_112_36, S_112_39, S_112_42, S_112_43, S_112_46, S_112_47, S_112_48, S_112_51, S_112_54, S_112_55, S_112_56, S_112_57, S_112_58, S_112_61, S_112_64, S_112_65, S_112_66, S_112_67, S_112_68, S_112_71, S_112_74, S_112_75, S_112_78, S_112_79, S_112_80, S_112_83, S_112_86, S_112_87, S_112_88, S_112_89, S_112_90, S_112_93, S_112_96, S_112_97, H_105, H_112, H_114]))
      exact kk s2 F
  have l1 : ∀ b, 0 ≤ b → b ≤ 10 → Wp (d + 8) 112 34 [.ref 105, .ref kq, .int (iI (sm (year A l (A 3)).2.2.2.2 b)), .int (iI b)] [] (hp X s2) Q := by
    refine lp0 ?_ ?_
    · intro b b0 b1 k2
      have e : s2 117 b = (year A l (A 3)).2.2.2.2 b := (r2.2.2 b b0 b1).2
      rw [sm_s b0] at k2
      rw [S_112_34]
      repeat' (first | (with_reducible refine Br_i ?_ ?_ <;> (intro hbr; first | exact False.elim hbr | skip)) | (with_reducible refine Wl_i ?_) | (simp (disch := first | omega | exact okF _ | exact okI _ | exact okR _ | assumption | exact okN) only [u_at, iI_zero, iI_31, iI_add, iI_sub, iI_mul, iI_neg, ↓iI_max, ↓iI_min, iI_div, emod_f, iI_lt, iI_le, iI_inj, iI_toInt, ↓ii01, ↓ii11, ↓bI_b, bI_0, bI_1, Kt_s, Kt_n, cat0, cat1, cat2, cat3, cat4, rfV, Nat.reduceAdd, Nat.reduceMul, Nat.reduceEqDiff, Int.reduceAdd, Int.reduceSub, Int.reduceMul, Int.reduceNeg, Int.reduceLT, Int.reduceLE, Int.reduceEq, Int.reduceDiv, ↓reduceIte, ↓ite_ww, ↓ite_wi, Br_n, Br_TW, Br_FW, Br_FP, Br_FB, nn_p, and_true, true_and, and_self, true_or, or_true, not_true_eq_false, not_false_eq_true, le_T, le_F, lt_T, lt_F, eq_T, eq_F, Int.add_zero, Int.zero_add, Int.one_mul, Int.mul_one, up_eq, up_ne, Int.add_assoc, Int.add_sub_cancel, Int.sub_zero, Int.sub_self, S_112_0, S_112_1, S_112_4, S_112_5, S_112_8, S_112_9, S_112_12, S_112_13, S_112_16, S_112_17, S_112_20, S_112_23, S_112_26, S_112_29, S_112_30, S_112_31, S_112_32, S_112_33, S_112_35, S_112_36, S_112_39, S_112_42, S_112_43, S_112_46, S_112_47, S_112_48, S_112_51, S_112_54, S_112_55, S_112_56, S_112_57, S_112_58, S_112_61, S_112_64, S_112_65, S_112_66, S_112_67, S_112_68, S_112_71, S_112_74, S_112_75, S_112_78, S_112_79, S_112_80, S_112_83, S_112_86, S_112_87, S_112_88, S_112_89, S_112_90, S_112_93, S_112_96, S_112_97, H_105, H_112, H_117, e]))
      exact k2
    · have l0 := l2 0 (by omega) (by omega)
      have e : sm (year A l (A 3)).2.2.2.2 10 = sm (year A l (A 3)).2.2.2.2 (A 2) := sm_ext w0.2.2.1.1 w0.2.2.1.2 (fun x x0 _ => (yz_gain w0.2.2.1.1 x0).1)
      rw [sm_0, Int.add_zero] at l0
      rw [e]
      repeat' (first | (with_reducible refine Br_i ?_ ?_ <;> (intro hbr; first | exact False.elim hbr | skip)) | (with_reducible refine Wl_i ?_) | (simp (disch := first | omega | exact okF _ | exact okI _ | exact okR _ | assumption | exact okN) only [u_at, iI_zero, iI_31, iI_add, iI_sub, iI_mul, iI_neg, ↓iI_max, ↓iI_min, iI_div, emod_f, iI_lt, iI_le, iI_inj, iI_toInt, ↓ii01, ↓ii11, ↓bI_b, bI_0, bI_1, Kt_s, Kt_n, cat0, cat1, cat2, cat3, cat4, rfV, Nat.reduceAdd, Nat.reduceMul, Nat.reduceEqDiff, Int.reduceAdd, Int.reduceSub, Int.reduceMul, Int.reduceNeg, Int.reduceLT, Int.reduceLE, Int.reduceEq, Int.reduceDiv, ↓reduceIte, ↓ite_ww, ↓ite_wi, Br_n, Br_TW, Br_FW, Br_FP, Br_FB, nn_p, and_true, true_and, and_self, true_or, or_true, not_true_eq_false, not_false_eq_true, le_T, le_F, lt_T, lt_F, eq_T, eq_F, Int.add_zero, Int.zero_add, Int.one_mul, Int.mul_one, up_eq, up_ne, Int.add_assoc, Int.add_sub_cancel, Int.sub_zero, Int.sub_self, S_112_0, S_112_1, S_112_4, S_112_5, S_112_8, S_112_9, S_112_12, S_112_13, S_112_16, S_112_17, S_112_20, S_112_23, S_112_26, S_112_29, S_112_30, S_112_31, S_112_32, S_112_33, S_112_34, S_112_35, S_112_36, S_112_39, S_112_42, S_112_43, S_112_46, S_112_47, S_112_48, S_112_51, S_112_54, S_112_55, S_112_56, S_112_57, S_112_58, S_112_61, S_112_64, S_112_65, S_112_67, S_112_68, S_112_71, S_112_74, S_112_75, S_112_78, S_112_79, S_112_80, S_112_83, S_112_86, S_112_87, S_112_88, S_112_89, S_112_90, S_112_93, S_112_96, S_112_97, H_105, H_112, H_117]))
      exact l0
  have l0 := l1 0 (by omega) (by omega)
  rw [sm_0] at l0
  repeat' (first | (with_reducible refine Br_i ?_ ?_ <;> (intro hbr; first | exact False.elim hbr | skip)) | (with_reducible refine Wl_i ?_) | (simp (disch := first | omega | exact okF _ | exact okI _ | exact okR _ | assumption | exact okN) only [u_at, iI_zero, iI_31, iI_add, iI_sub, iI_mul, iI_neg, ↓iI_max, ↓iI_min, iI_div, emod_f, iI_lt, iI_le, iI_inj, iI_toInt, ↓ii01, ↓ii11, ↓bI_b, bI_0, bI_1, Kt_s, Kt_n, cat0, cat1, cat2, cat3, cat4, rfV, Nat.reduceAdd, Nat.reduceMul, Nat.reduceEqDiff, Int.reduceAdd, Int.reduceSub, Int.reduceMul, Int.reduceNeg, Int.reduceLT, Int.reduceLE, Int.reduceEq, Int.reduceDiv, ↓reduceIte, ↓ite_ww, ↓ite_wi, Br_n, Br_TW, Br_FW, Br_FP, Br_FB, nn_p, and_true, true_and, and_self, true_or, or_true, not_true_eq_false, not_false_eq_true, le_T, le_F, lt_T, lt_F, eq_T, eq_F, Int.add_zero, Int.zero_add, Int.one_mul, Int.mul_one, up_eq, up_ne, Int.add_assoc, Int.add_sub_cancel, Int.sub_zero, Int.sub_self, S_112_0, S_112_1, S_112_4, S_112_5, S_112_8, S_112_9, S_112_12, S_112_13, S_112_16, S_112_17, S_112_20, S_112_23, S_112_26, S_112_29, S_112_30, S_112_31, S_112_32, S_112_33, S_112_35, S_112_36, S_112_39, S_112_42, S_112_43, S_112_46, S_112_47, S_112_48, S_112_51, S_112_54, S_112_55, S_112_56, S_112_57, S_112_58, S_112_61, S_112_64, S_112_65, S_112_66, S_112_67, S_112_68, S_112_71, S_112_74, S_112_75, S_112_78, S_112_79, S_112_80, S_112_83, S_112_86, S_112_87, S_112_88, S_112_89, S_112_90, S_112_93, S_112_96, S_112_97, H_105, H_112]))
  exact l0
def isLW (A : Int → Int) (t r : Int) : Prop := (r = -1 ∧ ∀ k, 0 ≤ k → k < A 1 → ¬ mk A k t) ∨ ((0 ≤ r ∧ r ≤ 99) ∧ (∃ k, (0 ≤ k ∧ k < A 1) ∧ mk A k t ∧ r = A (60 + (5 * k + 2))) ∧ ∀ k, 0 ≤ k → k < A 1 → mk A k t → r ≤ A (60 + (5 * k + 2)))
theorem mk_eq (hI : IC0 0 s A) (hk : 0 ≤ k ∧ k < A 1) (ht : 0 ≤ t ∧ t < A 0) : ((0 ≤ k ∧ k < s 51004 0) ∧ (0 ≤ t ∧ t < s 49004 0) ∧ bitp (s 52 (k * 4 + 1)) t) = mk A k t := by
  have n1 : s 51004 0 = A 1 := hI.1.2.1
  have n0 : s 49004 0 = A 0 := hI.1.1
  have ck : s 52 (k * 4 + 1) = A (60 + (5 * k + 1)) := (hI.2.2.1 k hk.1 hk.2).2.1
  apply propext
  rw [ck, n1, n0]
  unfold mk
  exact ⟨fun q => ⟨by omega, q.2.2⟩, fun q => ⟨hk, ht, q.2⟩⟩
theorem c_lowestWage (hI : IC0 0 s A) (W : WF0 A) (ht : 0 ≤ t ∧ t < A 0) (kk : ∀ r, isLW A t r → Q (some (.int (iI r))) (hp X s)) : Wp (d + 3) 110 0 [.ref 105, .int (iI t), .float 0, .float 0, .float 0] [] (hp X s) Q := by
  have w0 := W.1
  unfold W0 at w0
  have n1 : s 51004 0 = A 1 := hI.1.2.1
  have n0 : s 49004 0 = A 0 := hI.1.1
  have loop : ∀ k, 0 ≤ k → k ≤ A 1 → ∀ r v4, okO v4 = true → ((r = -1 ∧ ∀ k', 0 ≤ k' → k' < k → ¬ mk A k' t) ∨ ((0 ≤ r ∧ r ≤ 99) ∧ (∃ k', (0 ≤ k' ∧ k' < A 1) ∧ mk A k' t ∧ r = A (60 + (5 * k' + 2))) ∧ ∀ k', 0 ≤ k' → k' < k → mk A k' t → r ≤ A (60 + (5 * k' + 2)))) → Wp (d + 3) 110 4 [.ref 105, .int (iI t), .int (iI r), .int (iI k), v4] [] (hp X s) Q := by
    refine lp0 ?_ ?_
    · intro k k0 k1 k2 r v4 o4 hr
      have ck := hI.2.2.1 k k0 k1
      have ck2 : s 52 (k * 4 + 2) = A (60 + (5 * k + 2)) := ck.2.2
      have wk := (W.2.2.1 k k0 k1).2.2
      have mke := fun (d : Nat) (Q : Option Value → aH → Prop) => c_makes (d := d) (X := X) (s := s) (Q := Q) (k := k) (t := t) ⟨by omega, by omega, by omega, by omega⟩
      rw [mk_eq hI ⟨k0, k1⟩ ht] at mke
      rw [S_110_4]
      by_cases cm : mk A k t
      · rcases hr with ⟨a, b⟩ | ⟨a, b, c⟩
        · subst a
          have k2 := k2 (A (60 + (5 * k + 2))) (.int (iI (A (60 + (5 * k + 2))))) rfl (Or.inr ⟨wk, ⟨k, ⟨k0, k1⟩, cm, rfl⟩, fun k' q0 q1 q2 => by
            by_cases x : k' = k
            · rw [x]; exact Int.le_refl _
            · exact absurd q2 (b k' q0 (by omega))⟩)
          repeat' (first | (with_reducible refine Br_i ?_ ?_ <;> (intro hbr; first | exact False.elim hbr | skip)) | (with_reducible refine Wl_i ?_) | (simp (disch := first | omega | exact okF _ | exact okI _ | exact okR _ | assumption | exact okN) only [u_at, iI_zero, iI_31, iI_add, iI_sub, iI_mul, iI_neg, ↓iI_max, ↓iI_min, iI_div, emod_f, iI_lt, iI_le, iI_inj, iI_toInt, ↓ii01, ↓ii11, ↓bI_b, bI_0, bI_1, Kt_s, Kt_n, cat0, cat1, cat2, cat3, cat4, rfV, Nat.reduceAdd, Nat.reduceMul, Nat.reduceEqDiff, Int.reduceAdd, Int.reduceSub, Int.reduceMul, Int.reduceNeg, Int.reduceLT, Int.reduceLE, Int.reduceEq, Int.reduceDiv, ↓reduceIte, ↓ite_ww, ↓ite_wi, Br_n, Br_TW, Br_FW, Br_FP, Br_FB, nn_p, and_true, true_and, and_self, true_or, or_true, not_true_eq_false, not_false_eq_true, le_T, le_F, lt_T, lt_F, eq_T, eq_F, Int.add_zero, Int.zero_add, Int.one_mul, Int.mul_one, up_eq, up_ne, Int.add_assoc, Int.add_sub_cancel, Int.sub_zero, Int.sub_self, S_110_0, S_110_1, S_110_2, S_110_3, S_110_5, S_110_6, S_110_9, S_110_12, S_110_15, S_110_18, S_110_19, S_110_22, S_110_25, S_110_26, S_110_27, S_110_30, S_110_32, S_110_33, S_110_36, S_110_37, S_110_38, S_110_41, S_110_44, S_110_45, S_110_46, S_110_49, S_110_51, S_110_52, S_110_55, S_110_57, S_110_58, S_110_61, S_110_64, S_110_65, H_105, H_48, H_51, c_at_51, n1, ck2, mke, cm]))
          exact k2
        · by_cases z : A (60 + (5 * k + 2)) < r
          · have k2 := k2 (A (60 + (5 * k + 2))) (.int (iI (A (60 + (5 * k + 2))))) rfl (Or.inr ⟨wk, ⟨k, ⟨k0, k1⟩, cm, rfl⟩, fun k' q0 q1 q2 => by
              by_cases x : k' = k
              · rw [x]; exact Int.le_refl _
              · have := c k' q0 (by omega) q2
                omega⟩)
            repeat' (first | (with_reducible refine Br_i ?_ ?_ <;> (intro hbr; first | exact False.elim hbr | skip)) | (with_reducible refine Wl_i ?_) | (simp (disch := first | omega | exact okF _ | exact okI _ | exact okR _ | assumption | exact okN) only [u_at, iI_zero, iI_31, iI_add, iI_sub, iI_mul, iI_neg, ↓iI_max, ↓iI_min, iI_div, emod_f, iI_lt, iI_le, iI_inj, iI_toInt, ↓ii01, ↓ii11, ↓bI_b, bI_0, bI_1, Kt_s, Kt_n, cat0, cat1, cat2, cat3, cat4, rfV, Nat.reduceAdd, Nat.reduceMul, Nat.reduceEqDiff, Int.reduceAdd, Int.reduceSub, Int.reduceMul, Int.reduceNeg, Int.reduceLT, Int.reduceLE, Int.reduceEq, Int.reduceDiv, ↓reduceIte, ↓ite_ww, ↓ite_wi, Br_n, Br_TW, Br_FW, Br_FP, Br_FB, nn_p, and_true, true_and, and_self, true_or, or_true, not_true_eq_false, not_false_eq_true, le_T, le_F, lt_T, lt_F, eq_T, eq_F, Int.add_zero, Int.zero_add, Int.one_mul, Int.mul_one, up_eq, up_ne, Int.add_assoc, Int.add_sub_cancel, Int.sub_zero, Int.sub_self, S_110_0, S_110_1, S_110_2, S_110_3, S_110_5, S_110_6, S_110_9, S_110_12, S_110_15, S_110_18, S_110_19, S_110_22, S_110_25, S_110_26, S_110_27, S_110_30, S_110_32, S_110_33, S_110_36, S_110_37, S_110_38, S_110_41, S_110_44, S_110_45, S_110_46, S_110_49, S_110_51, S_110_52, S_110_55, S_110_57, S_110_58, S_110_61, S_110_64, S_110_65, H_105, H_48, H_51, c_at_51, n1, ck2, mke, cm]))
            exact k2
          · have k2 := k2 r (.int (iI (A (60 + (5 * k + 2))))) rfl (Or.inr ⟨a, b, fun k' q0 q1 q2 => by
              by_cases x : k' = k
              · rw [x]; omega
              · exact c k' q0 (by omega) q2⟩)
            repeat' (first | (with_reducible refine Br_i ?_ ?_ <;> (intro hbr; first | exact False.elim hbr | skip)) | (with_reducible refine Wl_i ?_) | (simp (disch := first | omega | exact okF _ | exact okI _ | exact okR _ | assumption | exact okN) only [u_at, iI_zero, iI_31, iI_add, iI_sub, iI_mul, iI_neg, ↓iI_max, ↓iI_min, iI_div, emod_f, iI_lt, iI_le, iI_inj, iI_toInt, ↓ii01, ↓ii11, ↓bI_b, bI_0, bI_1, Kt_s, Kt_n, cat0, cat1, cat2, cat3, cat4, rfV, Nat.reduceAdd, Nat.reduceMul, Nat.reduceEqDiff, Int.reduceAdd, Int.reduceSub, Int.reduceMul, Int.reduceNeg, Int.reduceLT, Int.reduceLE, Int.reduceEq, Int.reduceDiv, ↓reduceIte, ↓ite_ww, ↓ite_wi, Br_n, Br_TW, Br_FW, Br_FP, Br_FB, nn_p, and_true, true_and, and_self, true_or, or_true, not_true_eq_false, not_false_eq_true, le_T, le_F, lt_T, lt_F, eq_T, eq_F, Int.add_zero, Int.zero_add, Int.one_mul, Int.mul_one, up_eq, up_ne, Int.add_assoc, Int.add_sub_cancel, Int.sub_zero, Int.sub_self, S_110_0, S_110_1, S_110_2, S_110_3, S_110_5, S_110_6, S_110_9, S_110_12, S_110_15, S_110_18, S_110_19, S_110_22, S_110_25, S_110_26, S_110_27, S_110_30, S_110_32, S_110_33, S_110_36, S_110_37, S_110_38, S_110_41, S_110_44, S_110_45, S_110_46, S_110_49, S_110_51, S_110_52, S_110_55, S_110_57, S_110_58, S_110_61, S_110_64, S_110_65, H_105, H_48, H_51, c_at_51, n1, ck2, mke, cm]))
            exact k2
      · have k2 := k2 r (.int (iI (A (60 + (5 * k + 2))))) rfl (by
          rcases hr with ⟨a, b⟩ | ⟨a, b, c⟩
          · exact Or.inl ⟨a, fun k' q0 q1 => by
              by_cases x : k' = k
              · rw [x]; exact cm
              · exact b k' q0 (by omega)⟩
          · exact Or.inr ⟨a, b, fun k' q0 q1 q2 => by
              by_cases x : k' = k
              · rw [x] at q2; exact absurd q2 cm
              · exact c k' q0 (by omega) q2⟩)
        repeat' (first | (with_reducible refine Br_i ?_ ?_ <;> (intro hbr; first | exact False.elim hbr | skip)) | (with_reducible refine Wl_i ?_) | (simp (disch := first | omega | exact okF _ | exact okI _ | exact okR _ | assumption | exact okN) only [u_at, iI_zero, iI_31, iI_add, iI_sub, iI_mul, iI_neg, ↓iI_max, ↓iI_min, iI_div, emod_f, iI_lt, iI_le, iI_inj, iI_toInt, ↓ii01, ↓ii11, ↓bI_b, bI_0, bI_1, Kt_s, Kt_n, cat0, cat1, cat2, cat3, cat4, rfV, Nat.reduceAdd, Nat.reduceMul, Nat.reduceEqDiff, Int.reduceAdd, Int.reduceSub, Int.reduceMul, Int.reduceNeg, Int.reduceLT, Int.reduceLE, Int.reduceEq, Int.reduceDiv, ↓reduceIte, ↓ite_ww, ↓ite_wi, Br_n, Br_TW, Br_FW, Br_FP, Br_FB, nn_p, and_true, true_and, and_self, true_or, or_true, not_true_eq_false, not_false_eq_true, le_T, le_F, lt_T, lt_F, eq_T, eq_F, Int.add_zero, Int.zero_add, Int.one_mul, Int.mul_one, up_eq, up_ne, Int.add_assoc, Int.add_sub_cancel, Int.sub_zero, Int.sub_self, S_110_0, S_110_1, S_110_2, S_110_3, S_110_5, S_110_6, S_110_9, S_110_12, S_110_15, S_110_18, S_110_19, S_110_22, S_110_25, S_110_26, S_110_27, S_110_30, S_110_32, S_110_33, S_110_36, S_110_37, S_110_38, S_110_41, S_110_44, S_110_45, S_110_46, S_110_49, S_110_51, S_110_52, S_110_55, S_110_57, S_110_58, S_110_61, S_110_64, S_110_65, H_105, H_48, H_51, c_at_51, n1, ck2, mke, cm]))
        exact k2
    · intro r v4 o4 hr
      repeat' (first | (with_reducible refine Br_i ?_ ?_ <;> (intro hbr; first | exact False.elim hbr | skip)) | (with_reducible refine Wl_i ?_) | (simp (disch := first | omega | exact okF _ | exact okI _ | exact okR _ | assumption | exact okN) only [u_at, iI_zero, iI_31, iI_add, iI_sub, iI_mul, iI_neg, ↓iI_max, ↓iI_min, iI_div, emod_f, iI_lt, iI_le, iI_inj, iI_toInt, ↓ii01, ↓ii11, ↓bI_b, bI_0, bI_1, Kt_s, Kt_n, cat0, cat1, cat2, cat3, cat4, rfV, Nat.reduceAdd, Nat.reduceMul, Nat.reduceEqDiff, Int.reduceAdd, Int.reduceSub, Int.reduceMul, Int.reduceNeg, Int.reduceLT, Int.reduceLE, Int.reduceEq, Int.reduceDiv, ↓reduceIte, ↓ite_ww, ↓ite_wi, Br_n, Br_TW, Br_FW, Br_FP, Br_FB, nn_p, and_true, true_and, and_self, true_or, or_true, not_true_eq_false, not_false_eq_true, le_T, le_F, lt_T, lt_F, eq_T, eq_F, Int.add_zero, Int.zero_add, Int.one_mul, Int.mul_one, up_eq, up_ne, Int.add_assoc, Int.add_sub_cancel, Int.sub_zero, Int.sub_self, S_110_0, S_110_1, S_110_2, S_110_3, S_110_4, S_110_5, S_110_6, S_110_9, S_110_12, S_110_15, S_110_18, S_110_19, S_110_22, S_110_25, S_110_26, S_110_27, S_110_30, S_110_32, S_110_33, S_110_36, S_110_37, S_110_38, S_110_41, S_110_44, S_110_45, S_110_46, S_110_49, S_110_51, S_110_52, S_110_55, S_110_57, S_110_58, S_110_61, S_110_64, S_110_65, H_105, H_48, H_51, n1]))
      exact kk r hr
  have l0 := loop 0 (by omega) w0.2.1.1 (-1) (.float 0) rfl (Or.inl ⟨rfl, fun k a b => by omega⟩)
  repeat' (first | (with_reducible refine Br_i ?_ ?_ <;> (intro hbr; first | exact False.elim hbr | skip)) | (with_reducible refine Wl_i ?_) | (simp (disch := first | omega | exact okF _ | exact okI _ | exact okR _ | assumption | exact okN) only [u_at, iI_zero, iI_31, iI_add, iI_sub, iI_mul, iI_neg, ↓iI_max, ↓iI_min, iI_div, emod_f, iI_lt, iI_le, iI_inj, iI_toInt, ↓ii01, ↓ii11, ↓bI_b, bI_0, bI_1, Kt_s, Kt_n, cat0, cat1, cat2, cat3, cat4, rfV, Nat.reduceAdd, Nat.reduceMul, Nat.reduceEqDiff, Int.reduceAdd, Int.reduceSub, Int.reduceMul, Int.reduceNeg, Int.reduceLT, Int.reduceLE, Int.reduceEq, Int.reduceDiv, ↓reduceIte, ↓ite_ww, ↓ite_wi, Br_n, Br_TW, Br_FW, Br_FP, Br_FB, nn_p, and_true, true_and, and_self, true_or, or_true, not_true_eq_false, not_false_eq_true, le_T, le_F, lt_T, lt_F, eq_T, eq_F, Int.add_zero, Int.zero_add, Int.one_mul, Int.mul_one, up_eq, up_ne, Int.add_assoc, Int.add_sub_cancel, Int.sub_zero, Int.sub_self, S_110_0, S_110_1, S_110_2, S_110_3, S_110_5, S_110_6, S_110_9, S_110_12, S_110_15, S_110_18, S_110_19, S_110_22, S_110_25, S_110_26, S_110_27, S_110_30, S_110_32, S_110_33, S_110_36, S_110_37, S_110_38, S_110_41, S_110_44, S_110_45, S_110_46, S_110_49, S_110_51, S_110_52, S_110_55, S_110_57, S_110_58, S_110_61, S_110_64, S_110_65]))
  exact l0
theorem c_raise (hI : IC0 0 s A) (hc : curC s l) (hl : lawOK l) (W : WF0 A) (ht : 0 ≤ t ∧ t < A 0) (hw : A (10 + (4 * t + 1)) ≤ w ∧ w ≤ A (10 + (4 * t + 2))) (hg : 0 ≤ g ∧ g ≤ 99) (h118 : ∀ b, 0 ≤ b → b < A 2 → 0 ≤ s 118 b ∧ s 118 b ≤ 9999) (kk : ∀ s', Fr [85, 86, 118] s s' → (∀ b, 0 ≤ b → b < A 2 → s' 118 b = if w ≤ A (100 + (6 * b + 3)) then max (s 118 b) (vWorth A l b t w 1 - (vHours A l t w 1 * g + A (10 + (4 * t + 3)) * w)) else s 118 b) → Q none (hp X s')) : Wp (d + 4) 111 0 [.ref 105, .int (iI t), .int (iI w), .int (iI g), .float 0, .float 0] [] (hp X s) Q := by
  have w0 := W.1
  unfold W0 at w0
  have wt := W.2.1 t ht.1 ht.2
  have wt2 := wt.2.1
  have n2 : s 53004 0 = A 2 := hI.1.2.2.1
  have ct := hI.2.1 t ht.1 ht.2
  repeat' (first | (with_reducible refine Br_i ?_ ?_ <;> (intro hbr; first | exact False.elim hbr | skip)) | (with_reducible refine Wl_i ?_) | (simp (disch := first | omega | exact okF _ | exact okI _ | exact okR _ | assumption | exact okN) only [u_at, iI_zero, iI_31, iI_add, iI_sub, iI_mul, iI_neg, ↓iI_max, ↓iI_min, iI_div, emod_f, iI_lt, iI_le, iI_inj, iI_toInt, ↓ii01, ↓ii11, ↓bI_b, bI_0, bI_1, Kt_s, Kt_n, cat0, cat1, cat2, cat3, cat4, rfV, Nat.reduceAdd, Nat.reduceMul, Nat.reduceEqDiff, Int.reduceAdd, Int.reduceSub, Int.reduceMul, Int.reduceNeg, Int.reduceLT, Int.reduceLE, Int.reduceEq, Int.reduceDiv, ↓reduceIte, ↓ite_ww, ↓ite_wi, Br_n, Br_TW, Br_FW, Br_FP, Br_FB, nn_p, and_true, true_and, and_self, true_or, or_true, not_true_eq_false, not_false_eq_true, le_T, le_F, lt_T, lt_F, eq_T, eq_F, Int.add_zero, Int.zero_add, Int.one_mul, Int.mul_one, up_eq, up_ne, Int.add_assoc, Int.add_sub_cancel, Int.sub_zero, Int.sub_self, S_111_0, S_111_1, S_111_4, S_111_5, S_111_6, S_111_7, S_111_10, S_111_11, S_111_12, S_111_13, S_111_16, S_111_19, S_111_20, S_111_21, S_111_24, S_111_25, S_111_26, S_111_27, S_111_29, S_111_30, S_111_32, S_111_34, S_111_35, S_111_38, S_111_41, S_111_44, S_111_47, S_111_49, S_111_50, S_111_53, S_111_54, S_111_57, S_111_58, S_111_59, S_111_62, S_111_65, S_111_67, S_111_68, S_111_71, S_111_74, S_111_75, S_111_78, S_111_80, S_111_81, S_111_84, S_111_86, S_111_87, S_111_88, S_111_91, S_111_93, S_111_94, S_111_95, S_111_96, S_111_99, S_111_101, S_111_102, S_111_105, S_111_106, S_111_109, S_111_112, H_105, H_84]))
  refine c_hoursOf hc hl ct.1 wt (by omega) ?_
  intro s1 f1
  have hr := vHours_r (A := A) (l := l) (t := t) (n := 1) (w := w) (by omega)
  have e50 := f1.g 50 rfl
  have t3 : s 50 (t * 4 + 3) = A (10 + (4 * t + 3)) := ct.2.2.2
  have m1 := mul_b (a := vHours A l t w 1) (b := g) (m := 999) (n := 99) (by omega) hg
  have m2 := mul_b (a := A (10 + (4 * t + 3))) (b := w) (m := 99) (n := 40) wt.2.2 (by omega)
  have loop : ∀ b s2, b ≤ A 2 → (0 ≤ b ∧ Fr [85, 86, 118] s s2 ∧ (∀ c, 0 ≤ c → c < b → s2 118 c = if w ≤ A (100 + (6 * c + 3)) then max (s 118 c) (vWorth A l c t w 1 - (vHours A l t w 1 * g + A (10 + (4 * t + 3)) * w)) else s 118 c) ∧ ∀ c, b ≤ c → c < A 2 → s2 118 c = s 118 c) → Wp (d + 4) 111 32 [.ref 105, .int (iI t), .int (iI w), .int (iI g), .int (iI (vHours A l t w 1 * g + A (10 + (4 * t + 3)) * w)), .int (iI b)] [] (hp X s2) Q := by
    refine lp ?_ ?_
    · intro b s2 hb ⟨b0, hf, h1, h2⟩ k2
      have e53 : s2 53004 0 = A 2 := by rw [hf.g 53004 rfl]; exact n2
      have hI2 := IC0_fr hf rfl hI
      have cb := hI2.2.2.2.1 b b0 hb
      have cb3 : s2 54 (b * 4 + 3) = A (100 + (6 * b + 3)) := cb.2.2.2
      have wb := W.2.2.2.1 b b0 hb
      have wb3 := wb.2.2.2
      have wr := vWorth_r (l := l) (t := t) (w := w) (n := 1) wb
      have e0 := h2 b (Int.le_refl b) hb
      have r0 := h118 b b0 hb
      rw [S_111_32]
      by_cases c : w ≤ A (100 + (6 * b + 3))
      · repeat' (first | (with_reducible refine Br_i ?_ ?_ <;> (intro hbr; first | exact False.elim hbr | skip)) | (with_reducible refine Wl_i ?_) | (simp (disch := first | omega | exact okF _ | exact okI _ | exact okR _ | assumption | exact okN) only [u_at, iI_zero, iI_31, iI_add, iI_sub, iI_mul, iI_neg, ↓iI_max, ↓iI_min, iI_div, emod_f, iI_lt, iI_le, iI_inj, iI_toInt, ↓ii01, ↓ii11, ↓bI_b, bI_0, bI_1, Kt_s, Kt_n, cat0, cat1, cat2, cat3, cat4, rfV, Nat.reduceAdd, Nat.reduceMul, Nat.reduceEqDiff, Int.reduceAdd, Int.reduceSub, Int.reduceMul, Int.reduceNeg, Int.reduceLT, Int.reduceLE, Int.reduceEq, Int.reduceDiv, ↓reduceIte, ↓ite_ww, ↓ite_wi, Br_n, Br_TW, Br_FW, Br_FP, Br_FB, nn_p, and_true, true_and, and_self, true_or, or_true, not_true_eq_false, not_false_eq_true, le_T, le_F, lt_T, lt_F, eq_T, eq_F, Int.add_zero, Int.zero_add, Int.one_mul, Int.mul_one, up_eq, up_ne, Int.add_assoc, Int.add_sub_cancel, Int.sub_zero, Int.sub_self, S_111_0, S_111_1, S_111_4, S_111_5, S_111_6, S_111_7, S_111_10, S_111_11, S_111_12, S_111_13, S_111_16, S_111_19, S_111_20, S_111_21, S_111_24, S_111_25, S_111_26, S_111_27, S_111_29, S_111_30, S_111_34, S_111_35, S_111_38, S_111_41, S_111_44, S_111_47, S_111_49, S_111_50, S_111_53, S_111_54, S_111_57, S_111_58, S_111_59, S_111_62, S_111_65, S_111_67, S_111_68, S_111_71, S_111_74, S_111_75, S_111_78, S_111_80, S_111_81, S_111_84, S_111_86, S_111_87, S_111_88, S_111_91, S_111_93, S_111_94, S_111_95, S_111_96, S_111_99, S_111_101, S_111_102, S_111_105, S_111_106, S_111_109, S_111_112, H_105, H_48, H_53, H_84, H_118, c_at_53, e53, cb3, e0]))
        refine c_worthTo (curC_fr hf rfl hc) hl (hI2.2.1 t ht.1 ht.2).1 wt wb cb (by omega) ?_
        intro s3 f3
        have e118 := f3.g 118 rfl
        have k2 := k2 (u s3 118 (up (s3 118) b (max (s 118 b) (vWorth A l b t w 1 - (vHours A l t w 1 * g + A (10 + (4 * t + 3)) * w))))) ⟨by omega, (hf.to f3 rfl).u rfl, fun z z0 z1 => by
          rw [u_eq, up_at]
          by_cases x : z = b
          · rw [if_pos x, x, if_pos c]
          · rw [if_neg x, e118]
            exact h1 z z0 (by omega), fun z z0 z1 => by
          rw [u_eq, up_ne (by omega), e118]
          exact h2 z (by omega) z1⟩
        repeat' (first | (with_reducible refine Br_i ?_ ?_ <;> (intro hbr; first | exact False.elim hbr | skip)) | (with_reducible refine Wl_i ?_) | (simp (disch := first | omega | exact okF _ | exact okI _ | exact okR _ | assumption | exact okN) only [u_at, iI_zero, iI_31, iI_add, iI_sub, iI_mul, iI_neg, ↓iI_max, ↓iI_min, iI_div, emod_f, iI_lt, iI_le, iI_inj, iI_toInt, ↓ii01, ↓ii11, ↓bI_b, bI_0, bI_1, Kt_s, Kt_n, cat0, cat1, cat2, cat3, cat4, rfV, Nat.reduceAdd, Nat.reduceMul, Nat.reduceEqDiff, Int.reduceAdd, Int.reduceSub, Int.reduceMul, Int.reduceNeg, Int.reduceLT, Int.reduceLE, Int.reduceEq, Int.reduceDiv, ↓reduceIte, ↓ite_ww, ↓ite_wi, Br_n, Br_TW, Br_FW, Br_FP, Br_FB, nn_p, and_true, true_and, and_self, true_or, or_true, not_true_eq_false, not_false_eq_true, le_T, le_F, lt_T, lt_F, eq_T, eq_F, Int.add_zero, Int.zero_add, Int.one_mul, Int.mul_one, up_eq, up_ne, Int.add_assoc, Int.add_sub_cancel, Int.sub_zero, Int.sub_self, S_111_0, S_111_1, S_111_4, S_111_5, S_111_6, S_111_7, S_111_10, S_111_11, S_111_12, S_111_13, S_111_16, S_111_19, S_111_20, S_111_21, S_111_24, S_111_25, S_111_26, S_111_27, S_111_29, S_111_30, S_111_34, S_111_35, S_111_38, S_111_41, S_111_44, S_111_47, S_111_49, S_111_50, S_111_53, S_111_54, S_111_57, S_111_58, S_111_59, S_111_62, S_111_65, S_111_67, S_111_68, S_111_71, S_111_74, S_111_75, S_111_78, S_111_80, S_111_81, S_111_84, S_111_86, S_111_87, S_111_88, S_111_91, S_111_93, S_111_94, S_111_95, S_111_96, S_111_99, S_111_101, S_111_102, S_111_105, S_111_106, S_111_109, S_111_112, H_105, H_118]))
        exact k2
      · have k2 := k2 s2 ⟨by omega, hf, fun z z0 z1 => by
          by_cases x : z = b
          · rw [x, if_neg c]; exact e0
          · exact h1 z z0 (by omega), fun z z0 z1 => h2 z (by omega) z1⟩
        repeat' (first | (with_reducible refine Br_i ?_ ?_ <;> (intro hbr; first | exact False.elim hbr | skip)) | (with_reducible refine Wl_i ?_) | (simp (disch := first | omega | exact okF _ | exact okI _ | exact okR _ | assumption | exact okN) only [u_at, iI_zero, iI_31, iI_add, iI_sub, iI_mul, iI_neg, ↓iI_max, ↓iI_min, iI_div, emod_f, iI_lt, iI_le, iI_inj, iI_toInt, ↓ii01, ↓ii11, ↓bI_b, bI_0, bI_1, Kt_s, Kt_n, cat0, cat1, cat2, cat3, cat4, rfV, Nat.reduceAdd, Nat.reduceMul, Nat.reduceEqDiff, Int.reduceAdd, Int.reduceSub, Int.reduceMul, Int.reduceNeg, Int.reduceLT, Int.reduceLE, Int.reduceEq, Int.reduceDiv, ↓reduceIte, ↓ite_ww, ↓ite_wi, Br_n, Br_TW, Br_FW, Br_FP, Br_FB, nn_p, and_true, true_and, and_self, true_or, or_true, not_true_eq_false, not_false_eq_true, le_T, le_F, lt_T, lt_F, eq_T, eq_F, Int.add_zero, Int.zero_add, Int.one_mul, Int.mul_one, up_eq, up_ne, Int.add_assoc, Int.add_sub_cancel, Int.sub_zero, Int.sub_self, S_111_0, S_111_1, S_111_4, S_111_5, S_111_6, S_111_7, S_111_10, S_111_11, S_111_12, S_111_13, S_111_16, S_111_19, S_111_20, S_111_21, S_111_24, S_111_25, S_111_26, S_111_27, S_111_29, S_111_30, S_111_34, S_111_35, S_111_38, S_111_41, S_111_44, S_111_47, S_111_49, S_111_50, S_111_53, S_111_54, S_111_57, S_111_58, S_111_59, S_111_62, S_111_65, S_111_67, S_111_68, S_111_71, S_111_74, S_111_75, S_111_78, S_111_80, S_111_81, S_111_84, S_111_86, S_111_87, S_111_88, S_111_91, S_111_93, S_111_94, S_111_95, S_111_96, S_111_99, S_111_101, S_111_102, S_111_105, S_111_106, S_111_109, S_111_112, H_105, H_48, H_53, H_84, H_118, c_at_53, e53, cb3]))
        exact k2
    · intro s2 ⟨b0, hf, h1, h2⟩
      have e53 : s2 53004 0 = A 2 := by rw [hf.g 53004 rfl]; exact n2
      repeat' (first | (with_reducible refine Br_i ?_ ?_ <;> (intro hbr; first | exact False.elim hbr | skip)) | (with_reducible refine Wl_i ?_) | (simp (disch := first | omega | exact okF _ | exact okI _ | exact okR _ | assumption | exact okN) only [u_at, iI_zero, iI_31, iI_add, iI_sub, iI_mul, iI_neg, ↓iI_max, ↓iI_min, iI_div, emod_f, iI_lt, iI_le, iI_inj, iI_toInt, ↓ii01, ↓ii11, ↓bI_b, bI_0, bI_1, Kt_s, Kt_n, cat0, cat1, cat2, cat3, cat4, rfV, Nat.reduceAdd, Nat.reduceMul, Nat.reduceEqDiff, Int.reduceAdd, Int.reduceSub, Int.reduceMul, Int.reduceNeg, Int.reduceLT, Int.reduceLE, Int.reduceEq, Int.reduceDiv, ↓reduceIte, ↓ite_ww, ↓ite_wi, Br_n, Br_TW, Br_FW, Br_FP, Br_FB, nn_p, and_true, true_and, and_self, true_or, or_true, not_true_eq_false, not_false_eq_true, le_T, le_F, lt_T, lt_F, eq_T, eq_F, Int.add_zero, Int.zero_add, Int.one_mul, Int.mul_one, up_eq, up_ne, Int.add_assoc, Int.add_sub_cancel, Int.sub_zero, Int.sub_self, S_111_0, S_111_1, S_111_4, S_111_5, S_111_6, S_111_7, S_111_10, S_111_11, S_111_12, S_111_13, S_111_16, S_111_19, S_111_20, S_111_21, S_111_24, S_111_25, S_111_26, S_111_27, S_111_29, S_111_30, S_111_32, S_111_34, S_111_35, S_111_38, S_111_41, S_111_44, S_111_47, S_111_49, S_111_50, S_111_53, S_111_54, S_111_57, S_111_58, S_111_59, S_111_62, S_111_65, S_111_67, S_111_68, S_111_71, S_111_74, S_111_75, S_111_78, S_111_80, S_111_81, S_111_84, S_111_86, S_111_87, S_111_88, S_111_91, S_111_93, S_111_94, S_111_95, S_111_96, S_111_99, S_111_101, S_111_102, S_111_105, S_111_106, S_111_109, S_111_112, H_105, H_48, H_53, e53]))
      exact kk s2 hf h1
  have l0 := loop 0 s1 w0.2.2.1.1 ⟨by omega, f1.up rfl, fun c a b => by omega, fun c _ _ => congrFun (f1.g 118 rfl) c⟩
  repeat' (first | (with_reducible refine Br_i ?_ ?_ <;> (intro hbr; first | exact False.elim hbr | skip)) | (with_reducible refine Wl_i ?_) | (simp (disch := first | omega | exact okF _ | exact okI _ | exact okR _ | assumption | exact okN) only [u_at, iI_zero, iI_31, iI_add, iI_sub, iI_mul, iI_neg, ↓iI_max, ↓iI_min, iI_div, emod_f, iI_lt, iI_le, iI_inj, iI_toInt, ↓ii01, ↓ii11, ↓bI_b, bI_0, bI_1, Kt_s, Kt_n, cat0, cat1, cat2, cat3, cat4, rfV, Nat.reduceAdd, Nat.reduceMul, Nat.reduceEqDiff, Int.reduceAdd, Int.reduceSub, Int.reduceMul, Int.reduceNeg, Int.reduceLT, Int.reduceLE, Int.reduceEq, Int.reduceDiv, ↓reduceIte, ↓ite_ww, ↓ite_wi, Br_n, Br_TW, Br_FW, Br_FP, Br_FB, nn_p, and_true, true_and, and_self, true_or, or_true, not_true_eq_false, not_false_eq_true, le_T, le_F, lt_T, lt_F, eq_T, eq_F, Int.add_zero, Int.zero_add, Int.one_mul, Int.mul_one, up_eq, up_ne, Int.add_assoc, Int.add_sub_cancel, Int.sub_zero, Int.sub_self, S_111_0, S_111_1, S_111_4, S_111_5, S_111_6, S_111_7, S_111_10, S_111_11, S_111_12, S_111_13, S_111_16, S_111_19, S_111_20, S_111_21, S_111_24, S_111_25, S_111_26, S_111_27, S_111_29, S_111_30, S_111_34, S_111_35, S_111_38, S_111_41, S_111_44, S_111_47, S_111_49, S_111_50, S_111_53, S_111_54, S_111_57, S_111_58, S_111_59, S_111_62, S_111_65, S_111_67, S_111_68, S_111_71, S_111_74, S_111_75, S_111_78, S_111_80, S_111_81, S_111_84, S_111_86, S_111_87, S_111_88, S_111_91, S_111_93, S_111_94, S_111_95, S_111_96, S_111_99, S_111_101, S_111_102, S_111_105, S_111_106, S_111_109, S_111_112, H_105, H_48, H_49, c_at_49, e50, t3]))
  exact l0
theorem c_could {kq : Nat} (hk : isLw kq) (hlC : lC s kq 0 l) (hl : lawOK l) (hI : IC0 0 s A) (W : WF0 A) (kk : ∀ s' (G : Int → Int), Fr [84900, 85, 86, 118] s s' → (∀ b, 0 ≤ b → b < A 2 → isG A l b (G b)) → Q (some (.int (iI (sm (fun b => A (100 + 6 * b) * G b) (A 2))))) (hp X s')) : Wp (d + 5) 109 0 [.ref 105, .ref kq, .float 0, .float 0, .float 0] [] (hp X s) Q := by
  have w0 := W.1
  unfold W0 at w0
  have n2 : s 53004 0 = A 2 := hI.1.2.2.1
  have n0 : s 49004 0 = A 0 := hI.1.1
  have fa : Fr [84900, 85, 86, 118] s (u s 84900 (fun _ => (kq : Int))) := (by repeat (first | exact Fr.rf _ | refine Fr.u ?_ rfl))
  have c0 : curC (u s 84900 (fun _ => (kq : Int))) l := ⟨kq, hk, by rw [u_eq], lC_fr fa rfl hk hlC⟩
  have f118 := fun (d : Nat) (s : sg) (Q : Option Value → aH → Prop) => j_fill (d := d) (X := X) (s := s) (Q := Q) (v := 0) (k := 118) (N := 10) ⟨rfl, by decide⟩ (fun _ => rfl) (by decide)
  have sums : ∀ s1, Fr [84900, 85, 86, 118] s s1 → (∀ b, 0 ≤ b → b < A 2 → isG A l b (s1 118 b)) → ∀ b, 0 ≤ b → b ≤ A 2 → ∀ v4, okO v4 = true → Wp (d + 5) 109 90 [.ref 105, .ref kq, .int (iI (sm (fun b => A (100 + 6 * b) * s1 118 b) b)), .int (iI b), v4] [] (hp X s1) Q := by
    intro s1 hf hG
    have e53 : s1 53004 0 = A 2 := by rw [hf.g 53004 rfl]; exact n2
    have hI1 := IC0_fr hf rfl hI
    refine lp0 ?_ ?_
    · intro b b0 b1 k2 v4 o4
      have cb0 : s1 54 (b * 4) = A (100 + 6 * b) := (hI1.2.2.2.1 b b0 b1).1
      rw [sm_s b0] at k2
      rw [S_109_90]
      repeat' (first | (with_reducible refine Br_i ?_ ?_ <;> (intro hbr; first | exact False.elim hbr | skip)) | (with_reducible refine Wl_i ?_) | (simp (disch := first | omega | exact okF _ | exact okI _ | exact okR _ | assumption | exact okN) only [u_at, iI_zero, iI_31, iI_add, iI_sub, iI_mul, iI_neg, ↓iI_max, ↓iI_min, iI_div, emod_f, iI_lt, iI_le, iI_inj, iI_toInt, ↓ii01, ↓ii11, ↓bI_b, bI_0, bI_1, Kt_s, Kt_n, cat0, cat1, cat2, cat3, cat4, rfV, Nat.reduceAdd, Nat.reduceMul, Nat.reduceEqDiff, Int.reduceAdd, Int.reduceSub, Int.reduceMul, Int.reduceNeg, Int.reduceLT, Int.reduceLE, Int.reduceEq, Int.reduceDiv, ↓reduceIte, ↓ite_ww, ↓ite_wi, Br_n, Br_TW, Br_FW, Br_FP, Br_FB, nn_p, and_true, true_and, and_self, true_or, or_true, not_true_eq_false, not_false_eq_true, le_T, le_F, lt_T, lt_F, eq_T, eq_F, Int.add_zero, Int.zero_add, Int.one_mul, Int.mul_one, up_eq, up_ne, Int.add_assoc, Int.add_sub_cancel, Int.sub_zero, Int.sub_self, S_109_0, S_109_1, S_109_4, S_109_5, S_109_8, S_109_9, S_109_12, S_109_13, S_109_16, S_109_17, S_109_18, S_109_19, S_109_20, S_109_23, S_109_26, S_109_29, S_109_32, S_109_33, S_109_34, S_109_37, S_109_38, S_109_39, S_109_40, S_109_43, S_109_44, S_109_47, S_109_48, S_109_51, S_109_53, S_109_55, S_109_56, S_109_59, S_109_60, S_109_63, S_109_66, S_109_67, S_109_68, S_109_70, S_109_71, S_109_74, S_109_77, S_109_80, S_109_83, S_109_86, S_109_87, S_109_88, S_109_89, S_109_91, S_109_92, S_109_95, S_109_98, S_109_101, S_109_104, S_109_105, S_109_106, S_109_109, S_109_112, S_109_113, S_109_114, S_109_117, S_109_118, S_109_121, S_109_122, S_109_125, S_109_126, S_109_127, S_109_128, S_109_131, S_109_134, S_109_135, H_105, H_48, H_53, c_cell_118, c_at_53, e53, cb0]))
      exact k2 v4 o4
    · intro v4 o4
      repeat' (first | (with_reducible refine Br_i ?_ ?_ <;> (intro hbr; first | exact False.elim hbr | skip)) | (with_reducible refine Wl_i ?_) | (simp (disch := first | omega | exact okF _ | exact okI _ | exact okR _ | assumption | exact okN) only [u_at, iI_zero, iI_31, iI_add, iI_sub, iI_mul, iI_neg, ↓iI_max, ↓iI_min, iI_div, emod_f, iI_lt, iI_le, iI_inj, iI_toInt, ↓ii01, ↓ii11, ↓bI_b, bI_0, bI_1, Kt_s, Kt_n, cat0, cat1, cat2, cat3, cat4, rfV, Nat.reduceAdd, Nat.reduceMul, Nat.reduceEqDiff, Int.reduceAdd, Int.reduceSub, Int.reduceMul, Int.reduceNeg, Int.reduceLT, Int.reduceLE, Int.reduceEq, Int.reduceDiv, ↓reduceIte, ↓ite_ww, ↓ite_wi, Br_n, Br_TW, Br_FW, Br_FP, Br_FB, nn_p, and_true, true_and, and_self, true_or, or_true, not_true_eq_false, not_false_eq_true, le_T, le_F, lt_T, lt_F, eq_T, eq_F, Int.add_zero, Int.zero_add, Int.one_mul, Int.mul_one, up_eq, up_ne, Int.add_assoc, Int.add_sub_cancel, Int.sub_zero, Int.sub_self, S_109_0, S_109_1, S_109_4, S_109_5, S_109_8, S_109_9, S_109_12, S_109_13, S_109_16, S_109_17, S_109_18, S_109_19, S_109_20, S_109_23, S_109_26, S_109_29, S_109_32, S_109_33, S_109_34, S_109_37, S_109_38, S_109_39, S_109_40, S_109_43, S_109_44, S_109_47, S_109_48, S_109_51, S_109_53, S_109_55, S_109_56, S_109_59, S_109_60, S_109_63, S_109_66, S_109_67, S_109_68, S_109_70, S_109_71, S_109_74, S_109_77, S_109_80, S_109_83, S_109_86, S_109_87, S_109_88, S_109_89, S_109_90, S_109_91, S_109_92, S_109_95, S_109_98, S_109_101, S_109_104, S_109_105, S_109_106, S_109_109, S_109_112, S_109_113, S_109_114, S_109_117, S_109_118, S_109_121, S_109_122, S_109_125, S_109_126, S_109_127, S_109_128, S_109_131, S_109_134, S_109_135, H_105, H_48, H_53, e53]))
      exact kk s1 _ hf hG
  have loop : ∀ t s1, t ≤ A 0 → (0 ≤ t ∧ Fr [84900, 85, 86, 118] s s1 ∧ curC s1 l ∧ ∀ b, 0 ≤ b → b < A 2 → stG A l b (fun _ t' _ => t' < t) (s1 118 b)) → ∀ v3 v4, okO v3 = true → okO v4 = true → Wp (d + 5) 109 18 [.ref 105, .ref kq, .int (iI t), v3, v4] [] (hp X s1) Q := by
    refine lp ?_ ?_
    · intro t s1 ht ⟨t0, hf, hc, hG⟩ k2 v3 v4 o3 o4
      have hI1 := IC0_fr hf rfl hI
      have e49 : s1 49004 0 = A 0 := by rw [hf.g 49004 rfl]; exact n0
      have wt2 := (W.2.1 t t0 ht).2.1
      have t1 : s1 50 (t * 4 + 1) = A (10 + (4 * t + 1)) := (hI1.2.1 t t0 ht).2.1
      rw [S_109_18]
      repeat' (first | (with_reducible refine Br_i ?_ ?_ <;> (intro hbr; first | exact False.elim hbr | skip)) | (with_reducible refine Wl_i ?_) | (simp (disch := first | omega | exact okF _ | exact okI _ | exact okR _ | assumption | exact okN) only [u_at, iI_zero, iI_31, iI_add, iI_sub, iI_mul, iI_neg, ↓iI_max, ↓iI_min, iI_div, emod_f, iI_lt, iI_le, iI_inj, iI_toInt, ↓ii01, ↓ii11, ↓bI_b, bI_0, bI_1, Kt_s, Kt_n, cat0, cat1, cat2, cat3, cat4, rfV, Nat.reduceAdd, Nat.reduceMul, Nat.reduceEqDiff, Int.reduceAdd, Int.reduceSub, Int.reduceMul, Int.reduceNeg, Int.reduceLT, Int.reduceLE, Int.reduceEq, Int.reduceDiv, ↓reduceIte, ↓ite_ww, ↓ite_wi, Br_n, Br_TW, Br_FW, Br_FP, Br_FB, nn_p, and_true, true_and, and_self, true_or, or_true, not_true_eq_false, not_false_eq_true, le_T, le_F, lt_T, lt_F, eq_T, eq_F, Int.add_zero, Int.zero_add, Int.one_mul, Int.mul_one, up_eq, up_ne, Int.add_assoc, Int.add_sub_cancel, Int.sub_zero, Int.sub_self, S_109_0, S_109_1, S_109_4, S_109_5, S_109_8, S_109_9, S_109_12, S_109_13, S_109_16, S_109_17, S_109_19, S_109_20, S_109_23, S_109_26, S_109_29, S_109_32, S_109_33, S_109_34, S_109_37, S_109_38, S_109_39, S_109_40, S_109_43, S_109_44, S_109_47, S_109_48, S_109_51, S_109_53, S_109_55, S_109_56, S_109_59, S_109_60, S_109_63, S_109_66, S_109_67, S_109_68, S_109_70, S_109_71, S_109_74, S_109_77, S_109_80, S_109_83, S_109_86, S_109_87, S_109_88, S_109_89, S_109_90, S_109_91, S_109_92, S_109_95, S_109_98, S_109_101, S_109_104, S_109_105, S_109_106, S_109_109, S_109_112, S_109_113, S_109_114, S_109_117, S_109_118, S_109_121, S_109_122, S_109_125, S_109_126, S_109_127, S_109_128, S_109_131, S_109_134, S_109_135, H_105, H_48, H_49, e49]))
      refine c_lowestWage hI1 W ⟨t0, ht⟩ ?_
      intro g hg
      rcases hg with ⟨a, b⟩ | ⟨a, ⟨k0, q1, q2, q3⟩, c⟩
      · subst a
        have k2 := k2 s1 ⟨by omega, hf, hc, fun z z0 z1 => stG_cg (hG z z0 z1) (fun k' t' w' q p => by
          by_cases x : t' = t
          · obtain ⟨qa, _, qc, _⟩ := q
            rw [x] at qc
            exact absurd qc (b k' qa.1 qa.2)
          · omega)⟩ (.int (iI (-1))) v4 rfl o4
        repeat' (first | (with_reducible refine Br_i ?_ ?_ <;> (intro hbr; first | exact False.elim hbr | skip)) | (with_reducible refine Wl_i ?_) | (simp (disch := first | omega | exact okF _ | exact okI _ | exact okR _ | assumption | exact okN) only [u_at, iI_zero, iI_31, iI_add, iI_sub, iI_mul, iI_neg, ↓iI_max, ↓iI_min, iI_div, emod_f, iI_lt, iI_le, iI_inj, iI_toInt, ↓ii01, ↓ii11, ↓bI_b, bI_0, bI_1, Kt_s, Kt_n, cat0, cat1, cat2, cat3, cat4, rfV, Nat.reduceAdd, Nat.reduceMul, Nat.reduceEqDiff, Int.reduceAdd, Int.reduceSub, Int.reduceMul, Int.reduceNeg, Int.reduceLT, Int.reduceLE, Int.reduceEq, Int.reduceDiv, ↓reduceIte, ↓ite_ww, ↓ite_wi, Br_n, Br_TW, Br_FW, Br_FP, Br_FB, nn_p, and_true, true_and, and_self, true_or, or_true, not_true_eq_false, not_false_eq_true, le_T, le_F, lt_T, lt_F, eq_T, eq_F, Int.add_zero, Int.zero_add, Int.one_mul, Int.mul_one, up_eq, up_ne, Int.add_assoc, Int.add_sub_cancel, Int.sub_zero, Int.sub_self, S_109_0, S_109_1, S_109_4, S_109_5, S_109_8, S_109_9, S_109_12, S_109_13, S_109_16, S_109_17, S_109_19, S_109_20, S_109_23, S_109_26, S_109_29, S_109_32, S_109_33, S_109_34, S_109_37, S_109_38, S_109_39, S_109_40, S_109_43, S_109_44, S_109_47, S_109_48, S_109_51, S_109_53, S_109_55, S_109_56, S_109_59, S_109_60, S_109_63, S_109_66, S_109_67, S_109_68, S_109_70, S_109_71, S_109_74, S_109_77, S_109_80, S_109_83, S_109_86, S_109_87, S_109_88, S_109_89, S_109_90, S_109_91, S_109_92, S_109_95, S_109_98, S_109_101, S_109_104, S_109_105, S_109_106, S_109_109, S_109_112, S_109_113, S_109_114, S_109_117, S_109_118, S_109_121, S_109_122, S_109_125, S_109_126, S_109_127, S_109_128, S_109_131, S_109_134, S_109_135]))
        exact k2
      · have inner : ∀ w s2, w ≤ A (10 + (4 * t + 2)) + 1 → (A (10 + (4 * t + 1)) ≤ w ∧ Fr [84900, 85, 86, 118] s s2 ∧ curC s2 l ∧ ∀ b, 0 ≤ b → b < A 2 → stG A l b (fun _ t' w' => t' < t ∨ (t' = t ∧ w' < w)) (s2 118 b)) → Wp (d + 5) 109 53 [.ref 105, .ref kq, .int (iI t), .int (iI g), .int (iI w)] [] (hp X s2) Q := by
          refine lp ?_ ?_
          · intro w s2 hw ⟨w1, hf2, hc2, hG2⟩ k3
            have hI2 := IC0_fr hf2 rfl hI
            have t2 : s2 50 (t * 4 + 2) = A (10 + (4 * t + 2)) := (hI2.2.1 t t0 ht).2.2.1
            rw [S_109_53]
            repeat' (first | (with_reducible refine Br_i ?_ ?_ <;> (intro hbr; first | exact False.elim hbr | skip)) | (with_reducible refine Wl_i ?_) | (simp (disch := first | omega | exact okF _ | exact okI _ | exact okR _ | assumption | exact okN) only [u_at, iI_zero, iI_31, iI_add, iI_sub, iI_mul, iI_neg, ↓iI_max, ↓iI_min, iI_div, emod_f, iI_lt, iI_le, iI_inj, iI_toInt, ↓ii01, ↓ii11, ↓bI_b, bI_0, bI_1, Kt_s, Kt_n, cat0, cat1, cat2, cat3, cat4, rfV, Nat.reduceAdd, Nat.reduceMul, Nat.reduceEqDiff, Int.reduceAdd, Int.reduceSub, Int.reduceMul, Int.reduceNeg, Int.reduceLT, Int.reduceLE, Int.reduceEq, Int.reduceDiv, ↓reduceIte, ↓ite_ww, ↓ite_wi, Br_n, Br_TW, Br_FW, Br_FP, Br_FB, nn_p, and_true, true_and, and_self, true_or, or_true, not_true_eq_false, not_false_eq_true, le_T, le_F, lt_T, lt_F, eq_T, eq_F, Int.add_zero, Int.zero_add, Int.one_mul, Int.mul_one, up_eq, up_ne, Int.add_assoc, Int.add_sub_cancel, Int.sub_zero, Int.sub_self, S_109_0, S_109_1, S_109_4, S_109_5, S_109_8, S_109_9, S_109_12, S_109_13, S_109_16, S_109_17, S_109_18, S_109_19, S_109_20, S_109_23, S_109_26, S_109_29, S_109_32, S_109_33, S_109_34, S_109_37, S_109_38, S_109_39, S_109_40, S_109_43, S_109_44, S_109_47, S_109_48, S_109_51, S_109_55, S_109_56, S_109_59, S_109_60, S_109_63, S_109_66, S_109_67, S_109_68, S_109_70, S_109_71, S_109_74, S_109_77, S_109_80, S_109_83, S_109_86, S_109_87, S_109_88, S_109_89, S_109_90, S_109_91, S_109_92, S_109_95, S_109_98, S_109_101, S_109_104, S_109_105, S_109_106, S_109_109, S_109_112, S_109_113, S_109_114, S_109_117, S_109_118, S_109_121, S_109_122, S_109_125, S_109_126, S_109_127, S_109_128, S_109_131, S_109_134, S_109_135, H_105, H_48, c_heavy, t2]))
            refine c_raise hI2 hc2 hl W ⟨t0, ht⟩ ⟨w1, by omega⟩ a (fun b b0 b1 => (hG2 b b0 b1).1) ?_
            intro s3 f3 h3
            have k3 := k3 s3 ⟨by omega, hf2.to (f3.up (L2 := [84900, 85, 86, 118]) rfl) rfl, curC_fr f3 rfl hc2, fun b b0 b1 => by
              have sg := hG2 b b0 b1
              rw [h3 b b0 b1]
              by_cases x : w ≤ A (100 + (6 * b + 3))
              · rw [if_pos x]
                have dq : domG A b k0 t w := ⟨q1, ⟨t0, ht⟩, q2, ⟨w1, by omega⟩, x⟩
                have vr := valG_r (l := l) W ⟨b0, b1⟩ q1 ⟨t0, ht⟩ (w := w) (by omega)
                have ve : vWorth A l b t w 1 - (vHours A l t w 1 * g + A (10 + (4 * t + 3)) * w) = valG A l b k0 t w := by
                  unfold valG vCost
                  rw [q3]
                rw [ve]
                obtain ⟨sa, sb, sc⟩ := sg
                refine ⟨by omega, ?_, ?_⟩
                · by_cases y : valG A l b k0 t w ≤ s2 118 b
                  · rw [show max (s2 118 b) (valG A l b k0 t w) = s2 118 b by omega]; exact sb
                  · rw [show max (s2 118 b) (valG A l b k0 t w) = valG A l b k0 t w by omega]; exact Or.inr ⟨k0, t, w, dq, rfl⟩
                · intro k' t' w' q p
                  by_cases y : t' = t ∧ w' = w
                  · obtain ⟨y1, y2⟩ := y
                    subst y1
                    subst y2
                    have gl := c k' q.1.1 q.1.2 q.2.2.1
                    have hr := vHours_r (A := A) (l := l) (t := t') (n := 1) (w := w') (by omega)
                    have mm : vHours A l t' w' 1 * g ≤ vHours A l t' w' 1 * A (60 + (5 * k' + 2)) := Int.mul_le_mul_of_nonneg_left gl (by omega)
                    have : valG A l b k' t' w' ≤ valG A l b k0 t' w' := by
                      unfold valG vCost
                      rw [← q3]
                      omega
                    omega
                  · have := sc k' t' w' q (by omega)
                    omega
              · rw [if_neg x]
                exact stG_cg sg (fun k' t' w' q p => by
                  by_cases y : t' = t ∧ w' = w
                  · have := q.2.2.2.2
                    omega
                  · omega)⟩
            repeat' (first | (with_reducible refine Br_i ?_ ?_ <;> (intro hbr; first | exact False.elim hbr | skip)) | (with_reducible refine Wl_i ?_) | (simp (disch := first | omega | exact okF _ | exact okI _ | exact okR _ | assumption | exact okN) only [u_at, iI_zero, iI_31, iI_add, iI_sub, iI_mul, iI_neg, ↓iI_max, ↓iI_min, iI_div, emod_f, iI_lt, iI_le, iI_inj, iI_toInt, ↓ii01, ↓ii11, ↓bI_b, bI_0, bI_1, Kt_s, Kt_n, cat0, cat1, cat2, cat3, cat4, rfV, Nat.reduceAdd, Nat.reduceMul, Nat.reduceEqDiff, Int.reduceAdd, Int.reduceSub, Int.reduceMul, Int.reduceNeg, Int.reduceLT, Int.reduceLE, Int.reduceEq, Int.reduceDiv, ↓reduceIte, ↓ite_ww, ↓ite_wi, Br_n, Br_TW, Br_FW, Br_FP, Br_FB, nn_p, and_true, true_and, and_self, true_or, or_true, not_true_eq_false, not_false_eq_true, le_T, le_F, lt_T, lt_F, eq_T, eq_F, Int.add_zero, Int.zero_add, Int.one_mul, Int.mul_one, up_eq, up_ne, Int.add_assoc, Int.add_sub_cancel, Int.sub_zero, Int.sub_self, S_109_0, S_109_1, S_109_4, S_109_5, S_109_8, S_109_9, S_109_12, S_109_13, S_109_16, S_109_17, S_109_18, S_109_19, S_109_20, S_109_23, S_109_26, S_109_29, S_109_32, S_109_33, S_109_34, S_109_37, S_109_38, S_109_39, S_109_40, S_109_43, S_109_44, S_109_47, S_109_48, S_109_51, S_109_55, S_109_56, S_109_59, S_109_60, S_109_63, S_109_66, S_109_67, S_109_68, S_109_70, S_109_71, S_109_74, S_109_77, S_109_80, S_109_83, S_109_86, S_109_87, S_109_88, S_109_89, S_109_90, S_109_91, S_109_92, S_109_95, S_109_98, S_109_101, S_109_104, S_109_105, S_109_106, S_109_109, S_109_112, S_109_113, S_109_114, S_109_117, S_109_118, S_109_121, S_109_122, S_109_125, S_109_126, S_109_127, S_109_128, S_109_131, S_109_134, S_109_135]))
            exact k3
          · intro s2 ⟨w1, hf2, hc2, hG2⟩
            have hI2 := IC0_fr hf2 rfl hI
            have t2 : s2 50 (t * 4 + 2) = A (10 + (4 * t + 2)) := (hI2.2.1 t t0 ht).2.2.1
            have k2 := k2 s2 ⟨by omega, hf2, hc2, fun b b0 b1 => stG_cg (hG2 b b0 b1) (fun k' t' w' q p => by
              by_cases y : t' = t
              · have := q.2.2.2.1
                rw [y] at this
                omega
              · omega)⟩ (.int (iI g)) (.int (iI (A (10 + (4 * t + 2)) + 1))) rfl rfl
            repeat' (first | (with_reducible refine Br_i ?_ ?_ <;> (intro hbr; first | exact False.elim hbr | skip)) | (with_reducible refine Wl_i ?_) | (simp (disch := first | omega | exact okF _ | exact okI _ | exact okR _ | assumption | exact okN) only [u_at, iI_zero, iI_31, iI_add, iI_sub, iI_mul, iI_neg, ↓iI_max, ↓iI_min, iI_div, emod_f, iI_lt, iI_le, iI_inj, iI_toInt, ↓ii01, ↓ii11, ↓bI_b, bI_0, bI_1, Kt_s, Kt_n, cat0, cat1, cat2, cat3, cat4, rfV, Nat.reduceAdd, Nat.reduceMul, Nat.reduceEqDiff, Int.reduceAdd, Int.reduceSub, Int.reduceMul, Int.reduceNeg, Int.reduceLT, Int.reduceLE, Int.reduceEq, Int.reduceDiv, ↓reduceIte, ↓ite_ww, ↓ite_wi, Br_n, Br_TW, Br_FW, Br_FP, Br_FB, nn_p, and_true, true_and, and_self, true_or, or_true, not_true_eq_false, not_false_eq_true, le_T, le_F, lt_T, lt_F, eq_T, eq_F, Int.add_zero, Int.zero_add, Int.one_mul, Int.mul_one, up_eq, up_ne, Int.add_assoc, Int.add_sub_cancel, Int.sub_zero, Int.sub_self, S_109_0, S_109_1, S_109_4, S_109_5, S_109_8, S_109_9, S_109_12, S_109_13, S_109_16, S_109_17, S_109_19, S_109_20, S_109_23, S_109_26, S_109_29, S_109_32, S_109_33, S_109_34, S_109_37, S_109_38, S_109_39, S_109_40, S_109_43, S_109_44, S_109_47, S_109_48, S_109_51, S_109_53, S_109_55, S_109_56, S_109_59, S_109_60, S_109_63, S_109_66, S_109_67, S_109_68, S_109_70, S_109_71, S_109_74, S_109_77, S_109_80, S_109_83, S_109_86, S_109_87, S_109_88, S_109_89, S_109_90, S_109_91, S_109_92, S_109_95, S_109_98, S_109_101, S_109_104, S_109_105, S_109_106, S_109_109, S_109_112, S_109_113, S_109_114, S_109_117, S_109_118, S_109_121, S_109_122, S_109_125, S_109_126, S_109_127, S_109_128, S_109_131, S_109_134, S_109_135, H_105, H_48, c_heavy, t2]))
            exact k2
        have l0 := inner (A (10 + (4 * t + 1))) s1 (by omega) ⟨Int.le_refl _, hf, hc, fun b b0 b1 => stG_cg (hG b b0 b1) (fun k' t' w' q p => by
          by_cases y : t' = t
          · have := q.2.2.2.1
            rw [y] at this
            omega
          · omega)⟩
        repeat' (first | (with_reducible refine Br_i ?_ ?_ <;> (intro hbr; first | exact False.elim hbr | skip)) | (with_reducible refine Wl_i ?_) | (simp (disch := first | omega | exact okF _ | exact okI _ | exact okR _ | assumption | exact okN) only [u_at, iI_zero, iI_31, iI_add, iI_sub, iI_mul, iI_neg, ↓iI_max, ↓iI_min, iI_div, emod_f, iI_lt, iI_le, iI_inj, iI_toInt, ↓ii01, ↓ii11, ↓bI_b, bI_0, bI_1, Kt_s, Kt_n, cat0, cat1, cat2, cat3, cat4, rfV, Nat.reduceAdd, Nat.reduceMul, Nat.reduceEqDiff, Int.reduceAdd, Int.reduceSub, Int.reduceMul, Int.reduceNeg, Int.reduceLT, Int.reduceLE, Int.reduceEq, Int.reduceDiv, ↓reduceIte, ↓ite_ww, ↓ite_wi, Br_n, Br_TW, Br_FW, Br_FP, Br_FB, nn_p, and_true, true_and, and_self, true_or, or_true, not_true_eq_false, not_false_eq_true, le_T, le_F, lt_T, lt_F, eq_T, eq_F, Int.add_zero, Int.zero_add, Int.one_mul, Int.mul_one, up_eq, up_ne, Int.add_assoc, Int.add_sub_cancel, Int.sub_zero, Int.sub_self, S_109_0, S_109_1, S_109_4, S_109_5, S_109_8, S_109_9, S_109_12, S_109_13, S_109_16, S_109_17, S_109_19, S_109_20, S_109_23, S_109_26, S_109_29, S_109_32, S_109_33, S_109_34, S_109_37, S_109_38, S_109_39, S_109_40, S_109_43, S_109_44, S_109_47, S_109_48, S_109_51, S_109_55, S_109_56, S_109_59, S_109_60, S_109_63, S_109_66, S_109_67, S_109_68, S_109_70, S_109_71, S_109_74, S_109_77, S_109_80, S_109_83, S_109_86, S_109_87, S_109_88, S_109_89, S_109_90, S_109_91, S_109_92, S_109_95, S_109_98, S_109_101, S_109_104, S_109_105, S_109_106, S_109_109, S_109_112, S_109_113, S_109_114, S_109_117, S_109_118, S_109_121, S_109_122, S_109_125, S_109_126, S_109_127, S_109_128, S_109_131, S_109_134, S_109_135, H_105, H_48, c_light, t1]))
        exact l0
    · intro s1 ⟨t0, hf, hc, hG⟩ v3 v4 o3 o4
      have e49 : s1 49004 0 = A 0 := by rw [hf.g 49004 rfl]; exact n0
      have l0 := sums s1 hf (fun b b0 b1 => stG_cg (hG b b0 b1) (fun k' t' w' q _ => q.2.1.2)) 0 (by omega) w0.2.2.1.1 v4 o4
      rw [sm_0] at l0
      repeat' (first | (with_reducible refine Br_i ?_ ?_ <;> (intro hbr; first | exact False.elim hbr | skip)) | (with_reducible refine Wl_i ?_) | (simp (disch := first | omega | exact okF _ | exact okI _ | exact okR _ | assumption | exact okN) only [u_at, iI_zero, iI_31, iI_add, iI_sub, iI_mul, iI_neg, ↓iI_max, ↓iI_min, iI_div, emod_f, iI_lt, iI_le, iI_inj, iI_toInt, ↓ii01, ↓ii11, ↓bI_b, bI_0, bI_1, Kt_s, Kt_n, cat0, cat1, cat2, cat3, cat4, rfV, Nat.reduceAdd, Nat.reduceMul, Nat.reduceEqDiff, Int.reduceAdd, Int.reduceSub, Int.reduceMul, Int.reduceNeg, Int.reduceLT, Int.reduceLE, Int.reduceEq, Int.reduceDiv, ↓reduceIte, ↓ite_ww, ↓ite_wi, Br_n, Br_TW, Br_FW, Br_FP, Br_FB, nn_p, and_true, true_and, and_self, true_or, or_true, not_true_eq_false, not_false_eq_true, le_T, le_F, lt_T, lt_F, eq_T, eq_F, Int.add_zero, Int.zero_add, Int.one_mul, Int.mul_one, up_eq, up_ne, Int.add_assoc, Int.add_sub_cancel, Int.sub_zero, Int.sub_self, S_109_0, S_109_1, S_109_4, S_109_5, S_109_8, S_109_9, S_109_12, S_109_13, S_109_16, S_109_17, S_109_18, S_109_19, S_109_20, S_109_23, S_109_26, S_109_29, S_109_32, S_109_33, S_109_34, S_109_37, S_109_38, S_109_39, S_109_40, S_109_43, S_109_44, S_109_47, S_109_48, S_109_51, S_109_53, S_109_55, S_109_56, S_109_59, S_109_60, S_109_63, S_109_66, S_109_67, S_109_68, S_109_70, S_109_71, S_109_74, S_109_77, S_109_80, S_109_83, S_109_86, S_109_87, S_109_88, S_109_89, S_109_91, S_109_92, S_109_95, S_109_98, S_109_101, S_109_104, S_109_105, S_109_106, S_109_109, S_109_112, S_109_113, S_109_114, S_109_117, S_109_118, S_109_121, S_109_122, S_109_125, S_109_126, S_109_127, S_109_128, S_109_131, S_109_134, S_109_135, H_105, H_48, H_49, e49]))
      exact l0
  have l0 := loop 0 (u (u s 84900 (fun _ => (kq : Int))) 118 (fillF (s 118) 0 10)) w0.1.1 ⟨by omega, fa.u rfl, curC_fr ((by repeat (first | exact Fr.rf _ | refine Fr.u ?_ rfl)) : Fr [118] (u s 84900 (fun _ => (kq : Int))) _) rfl c0, fun b b0 b1 => by
    rw [u_eq, fillF_i ⟨b0, by omega⟩]
    exact ⟨by omega, Or.inl rfl, fun k t w q p => by have := q.2.1; omega⟩⟩ (.float 0) (.float 0) rfl rfl
  repeat' (first | (with_reducible refine Br_i ?_ ?_ <;> (intro hbr; first | exact False.elim hbr | skip)) | (with_reducible refine Wl_i ?_) | (simp (disch := first | omega | exact okF _ | exact okI _ | exact okR _ | assumption | exact okN) only [u_at, iI_zero, iI_31, iI_add, iI_sub, iI_mul, iI_neg, ↓iI_max, ↓iI_min, iI_div, emod_f, iI_lt, iI_le, iI_inj, iI_toInt, ↓ii01, ↓ii11, ↓bI_b, bI_0, bI_1, Kt_s, Kt_n, cat0, cat1, cat2, cat3, cat4, rfV, Nat.reduceAdd, Nat.reduceMul, Nat.reduceEqDiff, Int.reduceAdd, Int.reduceSub, Int.reduceMul, Int.reduceNeg, Int.reduceLT, Int.reduceLE, Int.reduceEq, Int.reduceDiv, ↓reduceIte, ↓ite_ww, ↓ite_wi, Br_n, Br_TW, Br_FW, Br_FP, Br_FB, nn_p, and_true, true_and, and_self, true_or, or_true, not_true_eq_false, not_false_eq_true, le_T, le_F, lt_T, lt_F, eq_T, eq_F, Int.add_zero, Int.zero_add, Int.one_mul, Int.mul_one, up_eq, up_ne, Int.add_assoc, Int.add_sub_cancel, Int.sub_zero, Int.sub_self, S_109_0, S_109_1, S_109_4, S_109_5, S_109_8, S_109_9, S_109_12, S_109_13, S_109_16, S_109_17, S_109_19, S_109_20, S_109_23, S_109_26, S_109_29, S_109_32, S_109_33, S_109_34, S_109_37, S_109_38, S_109_39, S_109_40, S_109_43, S_109_44, S_109_47, S_109_48, S_109_51, S_109_53, S_109_55, S_109_56, S_109_59, S_109_60, S_109_63, S_109_66, S_109_67, S_109_68, S_109_70, S_109_71, S_109_74, S_109_77, S_109_80, S_109_83, S_109_86, S_109_87, S_109_88, S_109_89, S_109_90, S_109_91, S_109_92, S_109_95, S_109_98, S_109_101, S_109_104, S_109_105, S_109_106, S_109_109, S_109_112, S_109_113, S_109_114, S_109_117, S_109_118, S_109_121, S_109_122, S_109_125, S_109_126, S_109_127, S_109_128, S_109_131, S_109_134, S_109_135, H_105, H_84, c_use, f118]))
  exact l0
end CG
