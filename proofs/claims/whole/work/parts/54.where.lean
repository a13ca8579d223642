/-! THE BEST HOUSE of an offer, both sides -/
noncomputable def eHou (A : Int → Int) (l : lawT) (o : Int) : Int → Int := fun h => earn (up A (180 + (13 * o + 1)) h) l (A 3) (A (180 + 13 * o))
section WH
variable {d : Nat} {X : hX} {s : sg} {Q : Option Value → aH → Prop} {n h k t o p : Int} {A : Int → Int} {l : lawT}
theorem upH_0 (ho : 0 ≤ o ∧ o < 22) : Eq0 A (up A (180 + (13 * o + 1)) h) := fun z hz => up_ne (by omega)
theorem upH_o (hp : ¬ p = o) : EqO A (up A (180 + (13 * o + 1)) h) p := fun c c0 c1 => up_ne (by omega)
theorem upH_w (hh : 0 ≤ h ∧ h < 4) (ho : 0 ≤ o ∧ o < 22) (w : WO A o) : WO (up A (180 + (13 * o + 1)) h) o := by
  obtain ⟨a, b, c, e⟩ := w
  unfold WO
  rw [up_ne (by omega), up_eq rfl, up_ne (by omega), up_ne (by omega)]
  refine ⟨a, hh, c, fun i i0 i1 => ?_⟩
  have := e i i0 i1
  unfold WI at this ⊢
  rw [up_ne (by omega), up_ne (by omega), up_ne (by omega), up_ne (by omega)]
  exact this
theorem upH_ws (hh : 0 ≤ h ∧ h < 4) (ho : 0 ≤ o ∧ o < A 3) (W : W0 A) (hw : ∀ p, 0 ≤ p → p < A 3 → WO A p) : ∀ p, 0 ≤ p → p < A 3 → WO (up A (180 + (13 * o + 1)) h) p := by
  intro p p0 p1
  unfold W0 at W
  by_cases e : p = o
  · rw [e]; exact upH_w hh (by omega) (hw o ho.1 ho.2)
  · exact WO_cg (upH_0 (by omega)) (upH_o e) (hw p p0 p1)
theorem up_up {f : Int → Int} {z a b : Int} : up (up f z a) z b = up f z b := by
  funext x
  simp only [up_at]
  split <;> rfl
theorem up_id {f : Int → Int} {z a : Int} (h : a = f z) : up f z a = f := by
  funext x
  rw [up_at]
  split
  · rename_i e
    rw [h, e]
  · rfl
theorem m_where (hA : s 123 = A) (hc : curM s l) (hl : lawOK l) (W : WF0 A) (hw : ∀ o, 0 ≤ o → o < A 3 → WO A o) (h : (-2147483648 ≤ o ∧ o < 2147483648)) (kk : ∀ s', Fr [123, 139, 140, 141, 142, 143, 144, 145, 146, 147, 148, 149, 150, 151, 152] s s' → s' 123 = A → Q (some (.int (iI (if 0 ≤ o ∧ o ≤ A 3 - 1 then (bfd (eHou A l o) 0 0 4).1 else -1)))) (hp X s')) : Wp (d + 8) 252 0 [.ref 122, .int (iI o), .float 0, .float 0, .float 0, .float 0, .float 0] [] (hp X s) Q := by
  have w0 := W.1
  unfold W0 at w0
  by_cases ho : 0 ≤ o ∧ o ≤ A 3 - 1
  · rw [if_pos ho] at kk
    have hO := hw o ho.1 (by omega)
    have hO1 := hO.1
    have loop : ∀ z s1, z ≤ 4 → (0 ≤ z ∧ Fr [123, 139, 140, 141, 142, 143, 144, 145, 146, 147, 148, 149, 150, 151, 152] s s1 ∧ (∃ a, s1 123 = up A (180 + (13 * o + 1)) a)) → ∀ v6, okO v6 = true → Wp (d + 8) 252 25 [.ref 122, .int (iI o), .int (iI (A (180 + (13 * o + 1)))), .int (iI (bfd (eHou A l o) 0 0 z).1), .int (iI (bfd (eHou A l o) 0 0 z).2), .int (iI z), v6] [] (hp X s1) Q := by
      refine lp ?_ ?_
      · intro z s1 hi ⟨z0, hf, a, ha⟩ kk2 v6 o6
        have e3 : up A (180 + (13 * o + 1)) z 3 = A 3 := up_ne (by omega)
        have e0 : up A (180 + (13 * o + 1)) z (180 + 13 * o) = A (180 + 13 * o) := up_ne (by omega)
        rw [S_252_25]
        repeat' (first | (with_reducible refine Br_i ?_ ?_ <;> (intro hbr; first | exact False.elim hbr | skip)) | (with_reducible refine Wl_i ?_) | (simp (disch := first | omega | exact okF _ | exact okI _ | exact okR _ | assumption | exact okN) only [u_at, iI_zero, iI_31, iI_add, iI_sub, iI_mul, iI_neg, ↓iI_max, ↓iI_min, iI_div, emod_f, iI_lt, iI_le, iI_inj, iI_toInt, ↓ii01, ↓ii11, ↓bI_b, bI_0, bI_1, Kt_s, Kt_n, cat0, cat1, cat2, cat3, cat4, rfV, Nat.reduceAdd, Nat.reduceMul, Nat.reduceEqDiff, Int.reduceAdd, Int.reduceSub, Int.reduceMul, Int.reduceNeg, Int.reduceLT, Int.reduceLE, Int.reduceEq, Int.reduceDiv, ↓reduceIte, ↓ite_ww, ↓ite_wi, Br_n, Br_TW, Br_FW, Br_FP, Br_FB, nn_p, and_true, true_and, and_self, true_or, or_true, not_true_eq_false, not_false_eq_true, le_T, le_F, lt_T, lt_F, eq_T, eq_F, Int.add_zero, Int.zero_add, Int.one_mul, Int.mul_one, up_eq, up_ne, Int.add_assoc, Int.add_sub_cancel, Int.sub_zero, Int.sub_self, S_252_0, S_252_1, S_252_2, S_252_5, S_252_8, S_252_9, S_252_10, S_252_11, S_252_12, S_252_13, S_252_16, S_252_17, S_252_18, S_252_19, S_252_20, S_252_22, S_252_23, S_252_27, S_252_28, S_252_31, S_252_32, S_252_35, S_252_38, S_252_40, S_252_41, S_252_42, S_252_43, S_252_44, S_252_45, S_252_47, S_252_48, S_252_49, S_252_50, S_252_53, S_252_54, S_252_55, S_252_58, S_252_59, S_252_62, S_252_63, S_252_64, S_252_65, S_252_68, S_252_69, S_252_71, S_252_72, S_252_73, S_252_76, S_252_78, S_252_80, S_252_83, S_252_85, S_252_86, S_252_88, S_252_90, S_252_93, S_252_96, S_252_97, S_252_100, S_252_103, S_252_105, S_252_106, S_252_107, S_252_108, S_252_109, S_252_110, S_252_111, S_252_112, S_252_113, H_122, H_123, ha, up_up, e3]))
        generalize es2 : u s1 123 _ = s2
        have f2 : Fr [123] s1 s2 := by rw [← es2]; exact (by repeat (first | exact Fr.rf _ | refine Fr.u ?_ rfl))
        have hA2 : s2 123 = up A (180 + (13 * o + 1)) z := by rw [← es2, u_eq]
        have hfs := hf.to f2 rfl
        refine m_runs hA2 (curM_fr hfs rfl (by rw [hA2, hA, up_ne (by omega)]) hc) hl (WF0_cg (upH_0 (by omega)) W) (upH_ws (by omega) (by omega) W.1 hw) (by omega) ?_
        intro s3 f3 h3 r3
        have hA3 := (f3.g 123 rfl).trans hA2
        have e4 : s3 147 (A (180 + 13 * o)) = eHou A l o z := (r3.1 (A (180 + 13 * o)) hO.1.1 (by rw [up_ne (by omega)]; exact hO.1.2)).2
        have rr := bfd_r (e := eHou A l o) (v := 0) (by omega) z0
        have st := bfd_s (e := eHou A l o) (v := 0) z0
        unfold bst at st
        have kk2 := kk2 s3 ⟨by omega, hfs.to f3 rfl, z, hA3⟩ (.int (iI (eHou A l o z))) rfl
        rw [st] at kk2
        generalize bfd (eHou A l o) 0 0 z = B at *
        have rb : -1 ≤ B.1 ∧ B.1 ≤ 41 := by omega
        by_cases c : B.1 = -1 ∨ lt32 B.2 (eHou A l o z)
        · rw [if_pos c] at kk2
          by_cases c1 : B.1 = -1
          · repeat' (first | (with_reducible refine Br_i ?_ ?_ <;> (intro hbr; first | exact False.elim hbr | skip)) | (with_reducible refine Wl_i ?_) | (simp (disch := first | omega | exact okF _ | exact okI _ | exact okR _ | assumption | exact okN) only [u_at, iI_zero, iI_31, iI_add, iI_sub, iI_mul, iI_neg, ↓iI_max, ↓iI_min, iI_div, emod_f, iI_lt, iI_le, iI_inj, iI_toInt, ↓ii01, ↓ii11, ↓bI_b, bI_0, bI_1, Kt_s, Kt_n, cat0, cat1, cat2, cat3, cat4, rfV, Nat.reduceAdd, Nat.reduceMul, Nat.reduceEqDiff, Int.reduceAdd, Int.reduceSub, Int.reduceMul, Int.reduceNeg, Int.reduceLT, Int.reduceLE, Int.reduceEq, Int.reduceDiv, ↓reduceIte, ↓ite_ww, ↓ite_wi, Br_n, Br_TW, Br_FW, Br_FP, Br_FB, nn_p, and_true, true_and, and_self, true_or, or_true, not_true_eq_false, not_false_eq_true, le_T, le_F, lt_T, lt_F, eq_T, eq_F, Int.add_zero, Int.zero_add, Int.one_mul, Int.mul_one, up_eq, up_ne, Int.add_assoc, Int.add_sub_cancel, Int.sub_zero, Int.sub_self, S_252_0, S_252_1, S_252_2, S_252_5, S_252_8, S_252_9, S_252_10, S_252_11, S_252_12, S_252_13, S_252_16, S_252_17, S_252_18, S_252_19, S_252_20, S_252_22, S_252_23, S_252_27, S_252_28, S_252_31, S_252_32, S_252_35, S_252_38, S_252_40, S_252_41, S_252_42, S_252_43, S_252_44, S_252_45, S_252_47, S_252_48, S_252_49, S_252_50, S_252_53, S_252_54, S_252_55, S_252_58, S_252_59, S_252_62, S_252_63, S_252_64, S_252_65, S_252_68, S_252_69, S_252_71, S_252_72, S_252_73, S_252_76, S_252_78, S_252_80, S_252_83, S_252_85, S_252_86, S_252_88, S_252_90, S_252_93, S_252_96, S_252_97, S_252_100, S_252_103, S_252_105, S_252_106, S_252_107, S_252_108, S_252_109, S_252_110, S_252_111, S_252_112, S_252_113, H_122, H_147, m_offerOf, hA3, e0, e4, c1]))
            exact kk2
          · have c2 := c.resolve_left c1
            unfold lt32 at c2
            repeat' (first | (with_reducible refine Br_i ?_ ?_ <;> (intro hbr; first | exact False.elim hbr | skip)) | (with_reducible refine Wl_i ?_) | (simp (disch := first | omega | exact okF _ | exact okI _ | exact okR _ | assumption | exact okN) only [u_at, iI_zero, iI_31, iI_add, iI_sub, iI_mul, iI_neg, ↓iI_max, ↓iI_min, iI_div, emod_f, iI_lt, iI_le, iI_inj, iI_toInt, ↓ii01, ↓ii11, ↓bI_b, bI_0, bI_1, Kt_s, Kt_n, cat0, cat1, cat2, cat3, cat4, rfV, Nat.reduceAdd, Nat.reduceMul, Nat.reduceEqDiff, Int.reduceAdd, Int.reduceSub, Int.reduceMul, Int.reduceNeg, Int.reduceLT, Int.reduceLE, Int.reduceEq, Int.reduceDiv, ↓reduceIte, ↓ite_ww, ↓ite_wi, Br_n, Br_TW, Br_FW, Br_FP, Br_FB, nn_p, and_true, true_and, and_self, true_or, or_true, not_true_eq_false, not_false_eq_true, le_T, le_F, lt_T, lt_F, eq_T, eq_F, Int.add_zero, Int.zero_add, Int.one_mul, Int.mul_one, up_eq, up_ne, Int.add_assoc, Int.add_sub_cancel, Int.sub_zero, Int.sub_self, S_252_0, S_252_1, S_252_2, S_252_5, S_252_8, S_252_9, S_252_10, S_252_11, S_252_12, S_252_13, S_252_16, S_252_17, S_252_18, S_252_19, S_252_20, S_252_22, S_252_23, S_252_27, S_252_28, S_252_31, S_252_32, S_252_35, S_252_38, S_252_40, S_252_41, S_252_42, S_252_43, S_252_44, S_252_45, S_252_47, S_252_48, S_252_49, S_252_50, S_252_53, S_252_54, S_252_55, S_252_58, S_252_59, S_252_62, S_252_63, S_252_64, S_252_65, S_252_68, S_252_69, S_252_71, S_252_72, S_252_73, S_252_76, S_252_78, S_252_80, S_252_83, S_252_85, S_252_86, S_252_88, S_252_90, S_252_93, S_252_96, S_252_97, S_252_100, S_252_103, S_252_105, S_252_106, S_252_107, S_252_108, S_252_109, S_252_110, S_252_111, S_252_112, S_252_113, H_122, H_147, m_offerOf, hA3, e0, e4, c2]))
            exact kk2
        · rw [if_neg c] at kk2
          have c1 : ¬ B.1 = -1 := fun q => c (Or.inl q)
          have c2 : iI (eHou A l o z) ≤ iI B.2 := Classical.byContradiction fun q => c (Or.inr q)
          repeat' (first | (with_reducible refine Br_i ?_ ?_ <;> (intro hbr; first | exact False.elim hbr | skip)) | (with_reducible refine Wl_i ?_) | (simp (disch := first | omega | exact okF _ | exact okI _ | exact okR _ | assumption | exact okN) only [u_at, iI_zero, iI_31, iI_add, iI_sub, iI_mul, iI_neg, ↓iI_max, ↓iI_min, iI_div, emod_f, iI_lt, iI_le, iI_inj, iI_toInt, ↓ii01, ↓ii11, ↓bI_b, bI_0, bI_1, Kt_s, Kt_n, cat0, cat1, cat2, cat3, cat4, rfV, Nat.reduceAdd, Nat.reduceMul, Nat.reduceEqDiff, Int.reduceAdd, Int.reduceSub, Int.reduceMul, Int.reduceNeg, Int.reduceLT, Int.reduceLE, Int.reduceEq, Int.reduceDiv, ↓reduceIte, ↓ite_ww, ↓ite_wi, Br_n, Br_TW, Br_FW, Br_FP, Br_FB, nn_p, and_true, true_and, and_self, true_or, or_true, not_true_eq_false, not_false_eq_true, le_T, le_F, lt_T, lt_F, eq_T, eq_F, Int.add_zero, Int.zero_add, Int.one_mul, Int.mul_one, up_eq, up_ne, Int.add_assoc, Int.add_sub_cancel, Int.sub_zero, Int.sub_self, S_252_0, S_252_1, S_252_2, S_252_5, S_252_8, S_252_9, S_252_10, S_252_11, S_252_12, S_252_13, S_252_16, S_252_17, S_252_18, S_252_19, S_252_20, S_252_22, S_252_23, S_252_27, S_252_28, S_252_31, S_252_32, S_252_35, S_252_38, S_252_40, S_252_41, S_252_42, S_252_43, S_252_44, S_252_45, S_252_47, S_252_48, S_252_49, S_252_50, S_252_53, S_252_54, S_252_55, S_252_58, S_252_59, S_252_62, S_252_63, S_252_64, S_252_65, S_252_68, S_252_69, S_252_71, S_252_72, S_252_73, S_252_76, S_252_78, S_252_80, S_252_83, S_252_85, S_252_86, S_252_88, S_252_90, S_252_93, S_252_96, S_252_97, S_252_100, S_252_103, S_252_105, S_252_106, S_252_107, S_252_108, S_252_109, S_252_110, S_252_111, S_252_112, S_252_113, H_122, H_147, m_offerOf, hA3, e0, e4, c1, c2]))
          exact kk2
      · intro s1 ⟨z0, hf, a, ha⟩ v6 o6
        have ei : up A (180 + (13 * o + 1)) (A (180 + (13 * o + 1))) = A := up_id rfl
        repeat' (first | (with_reducible refine Br_i ?_ ?_ <;> (intro hbr; first | exact False.elim hbr | skip)) | (with_reducible refine Wl_i ?_) | (simp (disch := first | omega | exact okF _ | exact okI _ | exact okR _ | assumption | exact okN) only [u_at, iI_zero, iI_31, iI_add, iI_sub, iI_mul, iI_neg, ↓iI_max, ↓iI_min, iI_div, emod_f, iI_lt, iI_le, iI_inj, iI_toInt, ↓ii01, ↓ii11, ↓bI_b, bI_0, bI_1, Kt_s, Kt_n, cat0, cat1, cat2, cat3, cat4, rfV, Nat.reduceAdd, Nat.reduceMul, Nat.reduceEqDiff, Int.reduceAdd, Int.reduceSub, Int.reduceMul, Int.reduceNeg, Int.reduceLT, Int.reduceLE, Int.reduceEq, Int.reduceDiv, ↓reduceIte, ↓ite_ww, ↓ite_wi, Br_n, Br_TW, Br_FW, Br_FP, Br_FB, nn_p, and_true, true_and, and_self, true_or, or_true, not_true_eq_false, not_false_eq_true, le_T, le_F, lt_T, lt_F, eq_T, eq_F, Int.add_zero, Int.zero_add, Int.one_mul, Int.mul_one, up_eq, up_ne, Int.add_assoc, Int.add_sub_cancel, Int.sub_zero, Int.sub_self, S_252_0, S_252_1, S_252_2, S_252_5, S_252_8, S_252_9, S_252_10, S_252_11, S_252_12, S_252_13, S_252_16, S_252_17, S_252_18, S_252_19, S_252_20, S_252_22, S_252_23, S_252_25, S_252_27, S_252_28, S_252_31, S_252_32, S_252_35, S_252_38, S_252_40, S_252_41, S_252_42, S_252_43, S_252_44, S_252_45, S_252_47, S_252_48, S_252_49, S_252_50, S_252_53, S_252_54, S_252_55, S_252_58, S_252_59, S_252_62, S_252_63, S_252_64, S_252_65, S_252_68, S_252_69, S_252_71, S_252_72, S_252_73, S_252_76, S_252_78, S_252_80, S_252_83, S_252_85, S_252_86, S_252_88, S_252_90, S_252_93, S_252_96, S_252_97, S_252_100, S_252_103, S_252_105, S_252_106, S_252_107, S_252_108, S_252_109, S_252_110, S_252_111, S_252_112, S_252_113, H_122, H_123, ha, up_up, ei]))
        exact kk _ (hf.u rfl) (u_eq _ _ _)
    have l0 := loop 0 s (by omega) ⟨by omega, Fr.rf s, A (180 + (13 * o + 1)), by rw [up_id rfl]; exact hA⟩ (.float 0) rfl
    rw [bfd_0] at l0
    repeat' (first | (with_reducible refine Br_i ?_ ?_ <;> (intro hbr; first | exact False.elim hbr | skip)) | (with_reducible refine Wl_i ?_) | (simp (disch := first | omega | exact okF _ | exact okI _ | exact okR _ | assumption | exact okN) only [u_at, iI_zero, iI_31, iI_add, iI_sub, iI_mul, iI_neg, ↓iI_max, ↓iI_min, iI_div, emod_f, iI_lt, iI_le, iI_inj, iI_toInt, ↓ii01, ↓ii11, ↓bI_b, bI_0, bI_1, Kt_s, Kt_n, cat0, cat1, cat2, cat3, cat4, rfV, Nat.reduceAdd, Nat.reduceMul, Nat.reduceEqDiff, Int.reduceAdd, Int.reduceSub, Int.reduceMul, Int.reduceNeg, Int.reduceLT, Int.reduceLE, Int.reduceEq, Int.reduceDiv, ↓reduceIte, ↓ite_ww, ↓ite_wi, Br_n, Br_TW, Br_FW, Br_FP, Br_FB, nn_p, and_true, true_and, and_self, true_or, or_true, not_true_eq_false, not_false_eq_true, le_T, le_F, lt_T, lt_F, eq_T, eq_F, Int.add_zero, Int.zero_add, Int.one_mul, Int.mul_one, up_eq, up_ne, Int.add_assoc, Int.add_sub_cancel, Int.sub_zero, Int.sub_self, S_252_0, S_252_1, S_252_2, S_252_5, S_252_8, S_252_9, S_252_10, S_252_11, S_252_12, S_252_13, S_252_16, S_252_17, S_252_18, S_252_19, S_252_20, S_252_22, S_252_23, S_252_27, S_252_28, S_252_31, S_252_32, S_252_35, S_252_38, S_252_40, S_252_41, S_252_42, S_252_43, S_252_44, S_252_45, S_252_47, S_252_48, S_252_49, S_252_50, S_252_53, S_252_54, S_252_55, S_252_58, S_252_59, S_252_62, S_252_63, S_252_64, S_252_65, S_252_68, S_252_69, S_252_71, S_252_72, S_252_73, S_252_76, S_252_78, S_252_80, S_252_83, S_252_85, S_252_86, S_252_88, S_252_90, S_252_93, S_252_96, S_252_97, S_252_100, S_252_103, S_252_105, S_252_106, S_252_107, S_252_108, S_252_109, S_252_110, S_252_111, S_252_112, S_252_113, H_122, m_isOffer hA, m_offerOf, hA]))
    exact l0
  · rw [if_neg ho] at kk
    have kk := kk s (Fr.rf s) hA
    replace ho := Hd_i ho
    repeat' (first | (with_reducible refine Br_i ?_ ?_ <;> (intro hbr; first | exact False.elim hbr | skip)) | (with_reducible refine Wl_i ?_) | (simp (disch := first | omega | exact okF _ | exact okI _ | exact okR _ | assumption | exact okN) only [u_at, iI_zero, iI_31, iI_add, iI_sub, iI_mul, iI_neg, ↓iI_max, ↓iI_min, iI_div, emod_f, iI_lt, iI_le, iI_inj, iI_toInt, ↓ii01, ↓ii11, ↓bI_b, bI_0, bI_1, Kt_s, Kt_n, cat0, cat1, cat2, cat3, cat4, rfV, Nat.reduceAdd, Nat.reduceMul, Nat.reduceEqDiff, Int.reduceAdd, Int.reduceSub, Int.reduceMul, Int.reduceNeg, Int.reduceLT, Int.reduceLE, Int.reduceEq, Int.reduceDiv, ↓reduceIte, ↓ite_ww, ↓ite_wi, Br_n, Br_TW, Br_FW, Br_FP, Br_FB, nn_p, and_true, true_and, and_self, true_or, or_true, not_true_eq_false, not_false_eq_true, le_T, le_F, lt_T, lt_F, eq_T, eq_F, Int.add_zero, Int.zero_add, Int.one_mul, Int.mul_one, up_eq, up_ne, Int.add_assoc, Int.add_sub_cancel, Int.sub_zero, Int.sub_self, S_252_0, S_252_1, S_252_2, S_252_5, S_252_8, S_252_9, S_252_10, S_252_11, S_252_12, S_252_13, S_252_16, S_252_17, S_252_18, S_252_19, S_252_20, S_252_22, S_252_23, S_252_25, S_252_27, S_252_28, S_252_31, S_252_32, S_252_35, S_252_38, S_252_40, S_252_41, S_252_42, S_252_43, S_252_44, S_252_45, S_252_47, S_252_48, S_252_49, S_252_50, S_252_53, S_252_54, S_252_55, S_252_58, S_252_59, S_252_62, S_252_63, S_252_64, S_252_65, S_252_68, S_252_69, S_252_71, S_252_72, S_252_73, S_252_76, S_252_78, S_252_80, S_252_83, S_252_85, S_252_86, S_252_88, S_252_90, S_252_93, S_252_96, S_252_97, S_252_100, S_252_103, S_252_105, S_252_106, S_252_107, S_252_108, S_252_109, S_252_110, S_252_111, S_252_112, S_252_113, H_122, m_isOffer hA, hA]))
    all_goals first | exact kk | (exfalso; have ho := Hd_o ho; omega)
theorem c_bestHouse (hI : IC0 0 s A) (hc : curC s l) (hl : lawOK l) (W : WF0 A) (hw : ∀ o, 0 ≤ o → o < A 3 → WO A o) (hm : ∀ o, 0 ≤ o → o < A 3 → CO A l o s) (hO' : ∀ o, 0 ≤ o → o < A 3 → cO 0 s A o) (ho : 0 ≤ o ∧ o < A 3) (kk : ∀ s', Fr [105002, 56, 85, 86, 88, 89, 90, 91, 92, 93, 95, 96, 97, 98, 99, 100, 101, 102, 103, 104, 113, 114, 115, 116, 117] s s' → s' 56 = s 56 → Q (some (.int (iI (bfd (eHou A l o) 0 0 4).1))) (hp X s')) : Wp (d + 8) 115 0 [.ref 105, .int (iI o), .float 0, .float 0, .float 0, .float 0, .float 0, .float 0] [] (hp X s) Q := by
  have w0 := W.1
  unfold W0 at w0
  have hO := hw o ho.1 ho.2
  have hO1 := hO.1
  have hO3 := hO.2.2.1
  have c := hO' o ho.1 ho.2
  have n3 : s 55004 0 = A 3 := hI.1.2.2.2.1
  have p0 : s 56 (o * 12) = A (180 + 13 * o) := c.1
  have p1 : s 56 (o * 12 + 1) = A (180 + (13 * o + 1)) := c.2.1
  have loop : ∀ z s1, z ≤ 4 → (0 ≤ z ∧ Fr [105002, 56, 85, 86, 88, 89, 90, 91, 92, 93, 95, 96, 97, 98, 99, 100, 101, 102, 103, 104, 113, 114, 115, 116, 117] s s1 ∧ (∃ a, s1 56 = up (s 56) (o * 12 + 1) a) ∧ (∀ p, 0 ≤ p → p < A 3 → ¬ p = o → CO A l p s1) ∧ (0 < z → s1 105002 0 = (bfd (eHou A l o) 0 0 z).2)) → ∀ v7, okO v7 = true → Wp (d + 8) 115 44 [.ref 105, .int (iI o), .int (iI (A 3)), .int (iI (A (180 + 13 * o))), .int (iI (A (180 + (13 * o + 1)))), .int (iI (bfd (eHou A l o) 0 0 z).1), .int (iI z), v7] [] (hp X s1) Q := by
    refine lp ?_ ?_
    · intro z s1 hi ⟨z0, hf, ⟨a, ha⟩, hm1, hb⟩ kk2 v7 o7
      rw [S_115_44]
      repeat' (first | (with_reducible refine Br_i ?_ ?_ <;> (intro hbr; first | exact False.elim hbr | skip)) | (with_reducible refine Wl_i ?_) | (simp (disch := first | omega | exact okF _ | exact okI _ | exact okR _ | assumption | exact okN) only [u_at, iI_zero, iI_31, iI_add, iI_sub, iI_mul, iI_neg, ↓iI_max, ↓iI_min, iI_div, emod_f, iI_lt, iI_le, iI_inj, iI_toInt, ↓ii01, ↓ii11, ↓bI_b, bI_0, bI_1, Kt_s, Kt_n, cat0, cat1, cat2, cat3, cat4, rfV, Nat.reduceAdd, Nat.reduceMul, Nat.reduceEqDiff, Int.reduceAdd, Int.reduceSub, Int.reduceMul, Int.reduceNeg, Int.reduceLT, Int.reduceLE, Int.reduceEq, Int.reduceDiv, ↓reduceIte, ↓ite_ww, ↓ite_wi, Br_n, Br_TW, Br_FW, Br_FP, Br_FB, nn_p, and_true, true_and, and_self, true_or, or_true, not_true_eq_false, not_false_eq_true, le_T, le_F, lt_T, lt_F, eq_T, eq_F, Int.add_zero, Int.zero_add, Int.one_mul, Int.mul_one, up_eq, up_ne, Int.add_assoc, Int.add_sub_cancel, Int.sub_zero, Int.sub_self, S_115_0, S_115_1, S_115_4, S_115_7, S_115_10, S_115_11, S_115_12, S_115_15, S_115_18, S_115_19, S_115_20, S_115_23, S_115_24, S_115_25, S_115_28, S_115_31, S_115_32, S_115_33, S_115_36, S_115_38, S_115_39, S_115_41, S_115_42, S_115_46, S_115_47, S_115_50, S_115_51, S_115_54, S_115_57, S_115_58, S_115_59, S_115_61, S_115_64, S_115_65, S_115_66, S_115_67, S_115_68, S_115_71, S_115_73, S_115_75, S_115_76, S_115_79, S_115_81, S_115_82, S_115_85, S_115_88, S_115_90, S_115_92, S_115_93, S_115_95, S_115_98, S_115_101, S_115_104, S_115_105, S_115_108, S_115_111, S_115_112, S_115_113, S_115_115, S_115_118, S_115_120, H_105, H_48, H_55, c_set_55, ha, up_up]))
      generalize es2 : u s1 56 _ = s2
      have f2 : Fr [56] s1 s2 := by rw [← es2]; exact (by repeat (first | exact Fr.rf _ | refine Fr.u ?_ rfl))
      have h56 : s2 56 = up (s 56) (o * 12 + 1) z := by rw [← es2, u_eq]
      have hfs := hf.to f2 rfl
      have zz := upH_0 (A := A) (h := z) (o := o) (by omega)
      have zw := upH_ws (A := A) (h := z) (by omega) ho W.1 hw
      refine c_earnedWith (A := up A (180 + (13 * o + 1)) z) (IC0_cgA W.1 zz (IC0_fr hfs rfl hI)) (curC_fr hfs rfl hc) hl (WF0_cg zz W) zw ?_ ?_ (by omega) ho (by rw [zz 1 (by omega)]; exact hO.1) ?_
      · obtain ⟨c0, c1, c2, c3⟩ := c
        show s2 56 (o * 12) = _ ∧ s2 56 (o * 12 + 1) = _ ∧ s2 56 (o * 12 + 2) = _ ∧ _
        rw [h56, up_ne (by omega), up_ne (by omega), up_eq rfl, up_eq rfl, up_ne (by omega), up_ne (by omega)]
        refine ⟨c0, rfl, c2, fun i i0 i1 => ?_⟩
        have q := c3 i i0 i1
        show s2 56 (o * 12 + (3 + 3 * i)) = _ ∧ s2 56 (o * 12 + (3 + (3 * i + 1))) = _ ∧ s2 56 (o * 12 + (3 + (3 * i + 2))) = _
        rw [h56, up_ne (by omega), up_ne (by omega), up_ne (by omega), up_ne (by omega), up_ne (by omega), up_ne (by omega)]
        exact q
      · intro p p0 p1 pn
        exact CO_cg W.1 zz (upH_o pn) (hw p p0 p1) (CO_fr f2 (by omega) rfl (hm1 p p0 p1 pn))
      · intro s3 f3 hm3
        have F := hfs.to f3 rfl
        have M3 : ∀ p, 0 ≤ p → p < A 3 → ¬ p = o → CO A l p s3 := fun p p0 p1 pn => CO_cg (W0_cg zz W.1) zz.sy (upH_o pn).sy (zw p p0 p1) (hm3 p p0 p1)
        have b3 : 0 < z → s3 105002 0 = (bfd (eHou A l o) 0 0 z).2 := fun q => by
          rw [f3.g 105002 rfl, f2.g 105002 rfl]; exact hb q
        have ee : (year (up A (180 + (13 * o + 1)) z) l (A 3)).2.1 (A (180 + 13 * o)) = eHou A l o z := rfl
        have e56 := (f3.g 56 rfl).trans h56
        rw [ee]
        have rr := bfd_r (e := eHou A l o) (v := 0) (by omega) z0
        have st := bfd_s (e := eHou A l o) (v := 0) z0
        unfold bst at st
        generalize bfd (eHou A l o) 0 0 z = B at *
        have rb : -1 ≤ B.1 ∧ B.1 ≤ 41 := by omega
        by_cases c : B.1 = -1 ∨ lt32 B.2 (eHou A l o z)
        · rw [if_pos c] at st
          have kk2 := kk2 (u s3 105002 (fun _ => eHou A l o z)) ⟨by omega, F.u rfl, ⟨z, e56⟩, fun p p0 p1 pn => CO_fr ((by repeat (first | exact Fr.rf _ | refine Fr.u ?_ rfl)) : Fr [105002] s3 _) (by omega) rfl (M3 p p0 p1 pn), fun _ => by rw [st, u_eq]⟩ (.int (iI (eHou A l o z))) rfl
          rw [st] at kk2
          by_cases c1 : B.1 = -1
          · repeat' (first | (with_reducible refine Br_i ?_ ?_ <;> (intro hbr; first | exact False.elim hbr | skip)) | (with_reducible refine Wl_i ?_) | (simp (disch := first | omega | exact okF _ | exact okI _ | exact okR _ | assumption | exact okN) only [u_at, iI_zero, iI_31, iI_add, iI_sub, iI_mul, iI_neg, ↓iI_max, ↓iI_min, iI_div, emod_f, iI_lt, iI_le, iI_inj, iI_toInt, ↓ii01, ↓ii11, ↓bI_b, bI_0, bI_1, Kt_s, Kt_n, cat0, cat1, cat2, cat3, cat4, rfV, Nat.reduceAdd, Nat.reduceMul, Nat.reduceEqDiff, Int.reduceAdd, Int.reduceSub, Int.reduceMul, Int.reduceNeg, Int.reduceLT, Int.reduceLE, Int.reduceEq, Int.reduceDiv, ↓reduceIte, ↓ite_ww, ↓ite_wi, Br_n, Br_TW, Br_FW, Br_FP, Br_FB, nn_p, and_true, true_and, and_self, true_or, or_true, not_true_eq_false, not_false_eq_true, le_T, le_F, lt_T, lt_F, eq_T, eq_F, Int.add_zero, Int.zero_add, Int.one_mul, Int.mul_one, up_eq, up_ne, Int.add_assoc, Int.add_sub_cancel, Int.sub_zero, Int.sub_self, S_115_0, S_115_1, S_115_4, S_115_7, S_115_10, S_115_11, S_115_12, S_115_15, S_115_18, S_115_19, S_115_20, S_115_23, S_115_24, S_115_25, S_115_28, S_115_31, S_115_32, S_115_33, S_115_36, S_115_38, S_115_39, S_115_41, S_115_42, S_115_46, S_115_47, S_115_50, S_115_51, S_115_54, S_115_57, S_115_58, S_115_59, S_115_61, S_115_64, S_115_65, S_115_66, S_115_67, S_115_68, S_115_71, S_115_73, S_115_75, S_115_76, S_115_79, S_115_81, S_115_82, S_115_85, S_115_88, S_115_90, S_115_92, S_115_93, S_115_95, S_115_98, S_115_101, S_115_104, S_115_105, S_115_108, S_115_111, S_115_112, S_115_113, S_115_115, S_115_118, S_115_120, H_105, c1]))
            exact kk2
          · have c2 := c.resolve_left c1
            unfold lt32 at c2
            have b3 := b3 (by omega)
            repeat' (first | (with_reducible refine Br_i ?_ ?_ <;> (intro hbr; first | exact False.elim hbr | skip)) | (with_reducible refine Wl_i ?_) | (simp (disch := first | omega | exact okF _ | exact okI _ | exact okR _ | assumption | exact okN) only [u_at, iI_zero, iI_31, iI_add, iI_sub, iI_mul, iI_neg, ↓iI_max, ↓iI_min, iI_div, emod_f, iI_lt, iI_le, iI_inj, iI_toInt, ↓ii01, ↓ii11, ↓bI_b, bI_0, bI_1, Kt_s, Kt_n, cat0, cat1, cat2, cat3, cat4, rfV, Nat.reduceAdd, Nat.reduceMul, Nat.reduceEqDiff, Int.reduceAdd, Int.reduceSub, Int.reduceMul, Int.reduceNeg, Int.reduceLT, Int.reduceLE, Int.reduceEq, Int.reduceDiv, ↓reduceIte, ↓ite_ww, ↓ite_wi, Br_n, Br_TW, Br_FW, Br_FP, Br_FB, nn_p, and_true, true_and, and_self, true_or, or_true, not_true_eq_false, not_false_eq_true, le_T, le_F, lt_T, lt_F, eq_T, eq_F, Int.add_zero, Int.zero_add, Int.one_mul, Int.mul_one, up_eq, up_ne, Int.add_assoc, Int.add_sub_cancel, Int.sub_zero, Int.sub_self, S_115_0, S_115_1, S_115_4, S_115_7, S_115_10, S_115_11, S_115_12, S_115_15, S_115_18, S_115_19, S_115_20, S_115_23, S_115_24, S_115_25, S_115_28, S_115_31, S_115_32, S_115_33, S_115_36, S_115_38, S_115_39, S_115_41, S_115_42, S_115_46, S_115_47, S_115_50, S_115_51, S_115_54, S_115_57, S_115_58, S_115_59, S_115_61, S_115_64, S_115_65, S_115_66, S_115_67, S_115_68, S_115_71, S_115_73, S_115_75, S_115_76, S_115_79, S_115_81, S_115_82, S_115_85, S_115_88, S_115_90, S_115_92, S_115_93, S_115_95, S_115_98, S_115_101, S_115_104, S_115_105, S_115_108, S_115_111, S_115_112, S_115_113, S_115_115, S_115_118, S_115_120, H_105, b3, c2]))
            exact kk2
        · rw [if_neg c] at st
          have c1 : ¬ B.1 = -1 := fun q => c (Or.inl q)
          have b3 := b3 (by omega)
          have kk2 := kk2 s3 ⟨by omega, F, ⟨z, e56⟩, M3, fun _ => by rw [st]; exact b3⟩ (.int (iI (eHou A l o z))) rfl
          rw [st] at kk2
          have c2 : iI (eHou A l o z) ≤ iI B.2 := Classical.byContradiction fun q => c (Or.inr q)
          repeat' (first | (with_reducible refine Br_i ?_ ?_ <;> (intro hbr; first | exact False.elim hbr | skip)) | (with_reducible refine Wl_i ?_) | (simp (disch := first | omega | exact okF _ | exact okI _ | exact okR _ | assumption | exact okN) only [u_at, iI_zero, iI_31, iI_add, iI_sub, iI_mul, iI_neg, ↓iI_max, ↓iI_min, iI_div, emod_f, iI_lt, iI_le, iI_inj, iI_toInt, ↓ii01, ↓ii11, ↓bI_b, bI_0, bI_1, Kt_s, Kt_n, cat0, cat1, cat2, cat3, cat4, rfV, Nat.reduceAdd, Nat.reduceMul, Nat.reduceEqDiff, Int.reduceAdd, Int.reduceSub, Int.reduceMul, Int.reduceNeg, Int.reduceLT, Int.reduceLE, Int.reduceEq, Int.reduceDiv, ↓reduceIte, ↓ite_ww, ↓ite_wi, Br_n, Br_TW, Br_FW, Br_FP, Br_FB, nn_p, and_true, true_and, and_self, true_or, or_true, not_true_eq_false, not_false_eq_true, le_T, le_F, lt_T, lt_F, eq_T, eq_F, Int.add_zero, Int.zero_add, Int.one_mul, Int.mul_one, up_eq, up_ne, Int.add_assoc, Int.add_sub_cancel, Int.sub_zero, Int.sub_self, S_115_0, S_115_1, S_115_4, S_115_7, S_115_10, S_115_11, S_115_12, S_115_15, S_115_18, S_115_19, S_115_20, S_115_23, S_115_24, S_115_25, S_115_28, S_115_31, S_115_32, S_115_33, S_115_36, S_115_38, S_115_39, S_115_41, S_115_42, S_115_46, S_115_47, S_115_50, S_115_51, S_115_54, S_115_57, S_115_58, S_115_59, S_115_61, S_115_64, S_115_65, S_115_66, S_115_67, S_115_68, S_115_71, S_115_73, S_115_75, S_115_76, S_115_79, S_115_81, S_115_82, S_115_85, S_115_88, S_115_90, S_115_92, S_115_93, S_115_95, S_115_98, S_115_101, S_115_104, S_115_105, S_115_108, S_115_111, S_115_112, S_115_113, S_115_115, S_115_118, S_115_120, H_105, b3, c1, c2]))
          exact kk2
    · intro s1 ⟨z0, hf, ⟨a, ha⟩, hm1, hb⟩ v7 o7
      have ei : up (s 56) (o * 12 + 1) (A (180 + (13 * o + 1))) = s 56 := up_id p1.symm
      repeat' (first | (with_reducible refine Br_i ?_ ?_ <;> (intro hbr; first | exact False.elim hbr | skip)) | (with_reducible refine Wl_i ?_) | (simp (disch := first | omega | exact okF _ | exact okI _ | exact okR _ | assumption | exact okN) only [u_at, iI_zero, iI_31, iI_add, iI_sub, iI_mul, iI_neg, ↓iI_max, ↓iI_min, iI_div, emod_f, iI_lt, iI_le, iI_inj, iI_toInt, ↓ii01, ↓ii11, ↓bI_b, bI_0, bI_1, Kt_s, Kt_n, cat0, cat1, cat2, cat3, cat4, rfV, Nat.reduceAdd, Nat.reduceMul, Nat.reduceEqDiff, Int.reduceAdd, Int.reduceSub, Int.reduceMul, Int.reduceNeg, Int.reduceLT, Int.reduceLE, Int.reduceEq, Int.reduceDiv, ↓reduceIte, ↓ite_ww, ↓ite_wi, Br_n, Br_TW, Br_FW, Br_FP, Br_FB, nn_p, and_true, true_and, and_self, true_or, or_true, not_true_eq_false, not_false_eq_true, le_T, le_F, lt_T, lt_F, eq_T, eq_F, Int.add_zero, Int.zero_add, Int.one_mul, Int.mul_one, up_eq, up_ne, Int.add_assoc, Int.add_sub_cancel, Int.sub_zero, Int.sub_self, S_115_0, S_115_1, S_115_4, S_115_7, S_115_10, S_115_11, S_115_12, S_115_15, S_115_18, S_115_19, S_115_20, S_115_23, S_115_24, S_115_25, S_115_28, S_115_31, S_115_32, S_115_33, S_115_36, S_115_38, S_115_39, S_115_41, S_115_42, S_115_44, S_115_46, S_115_47, S_115_50, S_115_51, S_115_54, S_115_57, S_115_58, S_115_59, S_115_61, S_115_64, S_115_65, S_115_66, S_115_67, S_115_68, S_115_71, S_115_73, S_115_75, S_115_76, S_115_79, S_115_81, S_115_82, S_115_85, S_115_88, S_115_90, S_115_92, S_115_93, S_115_95, S_115_98, S_115_101, S_115_104, S_115_105, S_115_108, S_115_111, S_115_112, S_115_113, S_115_115, S_115_118, S_115_120, H_105, H_48, H_55, c_set_55, ha, up_up, ei]))
      exact kk _ (hf.u rfl) (u_eq _ _ _)
  have l0 := loop 0 s (by omega) ⟨by omega, Fr.rf s, ⟨s 56 (o * 12 + 1), by rw [up_id rfl]⟩, fun p p0 p1 pn => hm p p0 p1, fun q => by omega⟩ (.float 0) rfl
  rw [bfd_0] at l0
  repeat' (first | (with_reducible refine Br_i ?_ ?_ <;> (intro hbr; first | exact False.elim hbr | skip)) | (with_reducible refine Wl_i ?_) | (simp (disch := first | omega | exact okF _ | exact okI _ | exact okR _ | assumption | exact okN) only [u_at, iI_zero, iI_31, iI_add, iI_sub, iI_mul, iI_neg, ↓iI_max, ↓iI_min, iI_div, emod_f, iI_lt, iI_le, iI_inj, iI_toInt, ↓ii01, ↓ii11, ↓bI_b, bI_0, bI_1, Kt_s, Kt_n, cat0, cat1, cat2, cat3, cat4, rfV, Nat.reduceAdd, Nat.reduceMul, Nat.reduceEqDiff, Int.reduceAdd, Int.reduceSub, Int.reduceMul, Int.reduceNeg, Int.reduceLT, Int.reduceLE, Int.reduceEq, Int.reduceDiv, ↓reduceIte, ↓ite_ww, ↓ite_wi, Br_n, Br_TW, Br_FW, Br_FP, Br_FB, nn_p, and_true, true_and, and_self, true_or, or_true, not_true_eq_false, not_false_eq_true, le_T, le_F, lt_T, lt_F, eq_T, eq_F, Int.add_zero, Int.zero_add, Int.one_mul, Int.mul_one, up_eq, up_ne, Int.add_assoc, Int.add_sub_cancel, Int.sub_zero, Int.sub_self, S_115_0, S_115_1, S_115_4, S_115_7, S_115_10, S_115_11, S_115_12, S_115_15, S_115_18, S_115_19, S_115_20, S_115_23, S_115_24, S_115_25, S_115_28, S_115_31, S_115_32, S_115_33, S_115_36, S_115_38, S_115_39, S_115_41, S_115_42, S_115_46, S_115_47, S_115_50, S_115_51, S_115_54, S_115_57, S_115_58, S_115_59, S_115_61, S_115_64, S_115_65, S_115_66, S_115_67, S_115_68, S_115_71, S_115_73, S_115_75, S_115_76, S_115_79, S_115_81, S_115_82, S_115_85, S_115_88, S_115_90, S_115_92, S_115_93, S_115_95, S_115_98, S_115_101, S_115_104, S_115_105, S_115_108, S_115_111, S_115_112, S_115_113, S_115_115, S_115_118, S_115_120, H_105, H_48, H_55, c_at_55, n3, p0, p1]))
  exact l0
end WH
