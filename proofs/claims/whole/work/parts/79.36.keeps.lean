/-! A TEXT is kept, the reference -/
section KT
variable {d : Nat} {X : hX} {s s1 s2 : sg} {Q : Option Value → aH → Prop} {t nc no k i a : Int} {l : lawT}
/-- after k clauses -/
def KA (s s1 : sg) (t nc k : Int) : Prop := Fr [126, 127, 128, 129, 130] s s1 ∧ s1 126 = up (s 126) t nc ∧ (∀ i : Int, 0 ≤ i → i < k → s1 127 (10 * t + i) = s 135 i ∧ s1 128 (10 * t + i) = 400 * t + s 136 i) ∧ (∀ z : Int, z < 10 * t ∨ 10 * t + 10 ≤ z → s1 127 z = s 127 z ∧ s1 128 z = s 128 z)
/-- after k operators -/
def KB (s s1 : sg) (t k : Int) : Prop := (∀ i : Int, 0 ≤ i → i < k → s1 129 (400 * t + i) = s 137 i ∧ s1 130 (400 * t + i) = s 138 i) ∧ (∀ z : Int, z < 400 * t ∨ 400 * t + 400 ≤ z → s1 129 z = s 129 z ∧ s1 130 z = s 130 z)
theorem seg_sh {f g : Int → Int} {b : Int} : ∀ {l : List Int} {p : Int}, seg f p l → (∀ z, p ≤ z → z < p + l.length → g (b + z) = f z) → seg g (b + p) l
  | [], _, _, _ => trivial
  | x :: r, p, h, e => by
    have el : ((x :: r).length : Int) = r.length + 1 := by simp
    refine ⟨(e p (by omega) (by omega)).trans h.1, ?_⟩
    rw [Int.add_assoc]
    exact seg_sh h.2 (fun z z0 z1 => e z (by omega) (by omega))
theorem KA_go (h : KA s s1 t nc k) (hk : 0 ≤ k ∧ k < 10) : KA s (u (u s1 127 (up (s1 127) (10 * t + k) (s 135 k))) 128 (up (s1 128) (10 * t + k) (400 * t + s 136 k))) t nc (k + 1) := by
  obtain ⟨f, h1, h2, h3⟩ := h
  refine ⟨(f.u rfl).u rfl, h1, fun i i0 i1 => ?_, fun z hz => ?_⟩
  · show up (s1 127) (10 * t + k) (s 135 k) (10 * t + i) = s 135 i ∧ up (s1 128) (10 * t + k) (400 * t + s 136 k) (10 * t + i) = 400 * t + s 136 i
    by_cases e : i = k
    · rw [up_eq (by omega), up_eq (by omega), e]
      exact ⟨rfl, rfl⟩
    · rw [up_ne (by omega), up_ne (by omega)]
      exact h2 i i0 (by omega)
  · show up (s1 127) (10 * t + k) (s 135 k) z = s 127 z ∧ up (s1 128) (10 * t + k) (400 * t + s 136 k) z = s 128 z
    rw [up_ne (by omega), up_ne (by omega)]
    exact h3 z hz
theorem KB_go (h : KB s s1 t k) (hk : 0 ≤ k ∧ k < 400) : KB s (u (u s1 129 (up (s1 129) (400 * t + k) (s 137 k))) 130 (up (s1 130) (400 * t + k) (s 138 k))) t (k + 1) := by
  obtain ⟨h2, h3⟩ := h
  refine ⟨fun i i0 i1 => ?_, fun z hz => ?_⟩
  · show up (s1 129) (400 * t + k) (s 137 k) (400 * t + i) = s 137 i ∧ up (s1 130) (400 * t + k) (s 138 k) (400 * t + i) = s 138 i
    by_cases e : i = k
    · rw [up_eq (by omega), up_eq (by omega), e]
      exact ⟨rfl, rfl⟩
    · rw [up_ne (by omega), up_ne (by omega)]
      exact h2 i i0 (by omega)
  · show up (s1 129) (400 * t + k) (s 137 k) z = s 129 z ∧ up (s1 130) (400 * t + k) (s 138 k) z = s 130 z
    rw [up_ne (by omega), up_ne (by omega)]
    exact h3 z hz
theorem m_keeps (h26 : s 122026 0 = nc) (h30 : s 122030 0 = no) (ht : 0 ≤ t ∧ t < 6) (hn : 0 ≤ nc ∧ nc ≤ 10) (ho : 0 ≤ no ∧ no ≤ 300) (kk : ∀ s', KA s s' t nc nc → KB s s' t no → Q none (hp X s')) : Wp d 211 0 [.ref 122, .int (iI t), .float 0] [] (hp X s) Q := by
  obtain ⟨sA, esA⟩ : ∃ sA, sA = u s 126 (up (s 126) t nc) := ⟨_, rfl⟩
  have l2 : ∀ k, 0 ≤ k → k ≤ no → ∀ s1, KA s s1 t nc nc → KB s s1 t k → Wp d 211 68 [.ref 122, .int (iI t), .int (iI k)] [] (hp X s1) Q := by
    refine lp0 ?_ ?_
    · intro k k0 k1 ih s1 A1 B1
      have B2 := KB_go B1 ⟨k0, by omega⟩
      have A2 : KA s (u (u s1 129 (up (s1 129) (400 * t + k) (s 137 k))) 130 (up (s1 130) (400 * t + k) (s 138 k))) t nc nc := ⟨(A1.1.u rfl).u rfl, A1.2.1, A1.2.2.1, A1.2.2.2⟩
      have ih := ih _ A2 B2
      have g30 : s1 122030 0 = no := by rw [A1.1.g 122030 rfl]; exact h30
      have g137 := A1.1.g 137 rfl
      have g138 := A1.1.g 138 rfl
      clear A1 A2 B1 B2 kk
      rw [S_211_68]
      repeat' (first | (with_reducible refine Br_i ?_ ?_ <;> (intro hbr; first | exact False.elim hbr | skip)) | (with_reducible refine Wl_i ?_) | (simp (disch := first | omega | exact okF _ | exact okI _ | exact okR _ | assumption | exact okN) only [u_at, iI_zero, iI_31, iI_add, iI_sub, iI_mul, iI_neg, ↓iI_max, ↓iI_min, iI_div, emod_f, iI_lt, iI_le, iI_inj, iI_toInt, ↓ii01, ↓ii11, ↓bI_b, bI_0, bI_1, Kt_s, Kt_n, cat0, cat1, cat2, cat3, cat4, rfV, Nat.reduceAdd, Nat.reduceMul, Nat.reduceEqDiff, Int.reduceAdd, Int.reduceSub, Int.reduceMul, Int.reduceNeg, Int.reduceLT, Int.reduceLE, Int.reduceEq, Int.reduceDiv, ↓reduceIte, ↓ite_ww, ↓ite_wi, Br_n, Br_TW, Br_FW, Br_FP, Br_FB, nn_p, and_true, true_and, and_self, true_or, or_true, not_true_eq_false, not_false_eq_true, le_T, le_F, lt_T, lt_F, eq_T, eq_F, Int.add_zero, Int.zero_add, Int.one_mul, Int.mul_one, up_eq, up_ne, Int.add_assoc, Int.add_sub_cancel, Int.sub_zero, Int.sub_self, S_211_0, S_211_1, S_211_4, S_211_5, S_211_6, S_211_9, S_211_10, S_211_11, S_211_13, S_211_14, S_211_17, S_211_20, S_211_21, S_211_24, S_211_26, S_211_27, S_211_28, S_211_29, S_211_30, S_211_31, S_211_34, S_211_35, S_211_36, S_211_37, S_211_38, S_211_41, S_211_43, S_211_44, S_211_45, S_211_46, S_211_47, S_211_50, S_211_51, S_211_52, S_211_53, S_211_56, S_211_57, S_211_58, S_211_59, S_211_60, S_211_63, S_211_66, S_211_67, S_211_69, S_211_70, S_211_73, S_211_76, S_211_77, S_211_80, S_211_83, S_211_84, S_211_85, S_211_86, S_211_87, S_211_88, S_211_91, S_211_92, S_211_93, S_211_94, S_211_95, S_211_98, S_211_101, S_211_102, S_211_103, S_211_104, S_211_105, S_211_106, S_211_109, S_211_110, S_211_111, S_211_112, S_211_115, S_211_118, H_122, H_129, H_130, H_137, H_138, g30, g137, g138]))
      exact ih
    · intro s1 A1 B1
      have g30 : s1 122030 0 = no := by rw [A1.1.g 122030 rfl]; exact h30
      rw [S_211_68]
      repeat' (first | (with_reducible refine Br_i ?_ ?_ <;> (intro hbr; first | exact False.elim hbr | skip)) | (with_reducible refine Wl_i ?_) | (simp (disch := first | omega | exact okF _ | exact okI _ | exact okR _ | assumption | exact okN) only [u_at, iI_zero, iI_31, iI_add, iI_sub, iI_mul, iI_neg, ↓iI_max, ↓iI_min, iI_div, emod_f, iI_lt, iI_le, iI_inj, iI_toInt, ↓ii01, ↓ii11, ↓bI_b, bI_0, bI_1, Kt_s, Kt_n, cat0, cat1, cat2, cat3, cat4, rfV, Nat.reduceAdd, Nat.reduceMul, Nat.reduceEqDiff, Int.reduceAdd, Int.reduceSub, Int.reduceMul, Int.reduceNeg, Int.reduceLT, Int.reduceLE, Int.reduceEq, Int.reduceDiv, ↓reduceIte, ↓ite_ww, ↓ite_wi, Br_n, Br_TW, Br_FW, Br_FP, Br_FB, nn_p, and_true, true_and, and_self, true_or, or_true, not_true_eq_false, not_false_eq_true, le_T, le_F, lt_T, lt_F, eq_T, eq_F, Int.add_zero, Int.zero_add, Int.one_mul, Int.mul_one, up_eq, up_ne, Int.add_assoc, Int.add_sub_cancel, Int.sub_zero, Int.sub_self, S_211_0, S_211_1, S_211_4, S_211_5, S_211_6, S_211_9, S_211_10, S_211_11, S_211_13, S_211_14, S_211_17, S_211_20, S_211_21, S_211_24, S_211_26, S_211_27, S_211_28, S_211_29, S_211_30, S_211_31, S_211_34, S_211_35, S_211_36, S_211_37, S_211_38, S_211_41, S_211_43, S_211_44, S_211_45, S_211_46, S_211_47, S_211_50, S_211_51, S_211_52, S_211_53, S_211_56, S_211_57, S_211_58, S_211_59, S_211_60, S_211_63, S_211_66, S_211_67, S_211_69, S_211_70, S_211_73, S_211_76, S_211_77, S_211_80, S_211_83, S_211_84, S_211_85, S_211_86, S_211_87, S_211_88, S_211_91, S_211_92, S_211_93, S_211_94, S_211_95, S_211_98, S_211_101, S_211_102, S_211_103, S_211_104, S_211_105, S_211_106, S_211_109, S_211_110, S_211_111, S_211_112, S_211_115, S_211_118, H_122, g30]))
      exact kk s1 A1 B1
  have l1 : ∀ k, 0 ≤ k → k ≤ nc → ∀ s1, KA s s1 t nc k → (s1 129 = s 129 ∧ s1 130 = s 130) → Wp d 211 12 [.ref 122, .int (iI t), .int (iI k)] [] (hp X s1) Q := by
    refine lp0 ?_ ?_
    · intro k k0 k1 ih s1 A1 B1
      have A2 := KA_go A1 ⟨k0, by omega⟩
      have ih := ih _ A2 B1
      have g26 : s1 122026 0 = nc := by rw [A1.1.g 122026 rfl]; exact h26
      have g135 := A1.1.g 135 rfl
      have g136 := A1.1.g 136 rfl
      clear A1 A2 B1 kk l2
      rw [S_211_12]
      repeat' (first | (with_reducible refine Br_i ?_ ?_ <;> (intro hbr; first | exact False.elim hbr | skip)) | (with_reducible refine Wl_i ?_) | (simp (disch := first | omega | exact okF _ | exact okI _ | exact okR _ | assumption | exact okN) only [u_at, iI_zero, iI_31, iI_add, iI_sub, iI_mul, iI_neg, ↓iI_max, ↓iI_min, iI_div, emod_f, iI_lt, iI_le, iI_inj, iI_toInt, ↓ii01, ↓ii11, ↓bI_b, bI_0, bI_1, Kt_s, Kt_n, cat0, cat1, cat2, cat3, cat4, rfV, Nat.reduceAdd, Nat.reduceMul, Nat.reduceEqDiff, Int.reduceAdd, Int.reduceSub, Int.reduceMul, Int.reduceNeg, Int.reduceLT, Int.reduceLE, Int.reduceEq, Int.reduceDiv, ↓reduceIte, ↓ite_ww, ↓ite_wi, Br_n, Br_TW, Br_FW, Br_FP, Br_FB, nn_p, and_true, true_and, and_self, true_or, or_true, not_true_eq_false, not_false_eq_true, le_T, le_F, lt_T, lt_F, eq_T, eq_F, Int.add_zero, Int.zero_add, Int.one_mul, Int.mul_one, up_eq, up_ne, Int.add_assoc, Int.add_sub_cancel, Int.sub_zero, Int.sub_self, S_211_0, S_211_1, S_211_4, S_211_5, S_211_6, S_211_9, S_211_10, S_211_11, S_211_13, S_211_14, S_211_17, S_211_20, S_211_21, S_211_24, S_211_26, S_211_27, S_211_28, S_211_29, S_211_30, S_211_31, S_211_34, S_211_35, S_211_36, S_211_37, S_211_38, S_211_41, S_211_43, S_211_44, S_211_45, S_211_46, S_211_47, S_211_50, S_211_51, S_211_52, S_211_53, S_211_56, S_211_57, S_211_58, S_211_59, S_211_60, S_211_63, S_211_66, S_211_67, S_211_69, S_211_70, S_211_73, S_211_76, S_211_77, S_211_80, S_211_83, S_211_84, S_211_85, S_211_86, S_211_87, S_211_88, S_211_91, S_211_92, S_211_93, S_211_94, S_211_95, S_211_98, S_211_101, S_211_102, S_211_103, S_211_104, S_211_105, S_211_106, S_211_109, S_211_110, S_211_111, S_211_112, S_211_115, S_211_118, H_122, H_127, H_128, H_135, H_136, g26, g135, g136]))
      exact ih
    · intro s1 A1 B1
      have g26 : s1 122026 0 = nc := by rw [A1.1.g 122026 rfl]; exact h26
      have l3 := l2 0 (by omega) (by omega) s1 A1 ⟨fun i i0 i1 => by omega, fun z _ => ⟨by rw [B1.1], by rw [B1.2]⟩⟩
      clear l2
      rw [S_211_12]
      repeat' (first | (with_reducible refine Br_i ?_ ?_ <;> (intro hbr; first | exact False.elim hbr | skip)) | (with_reducible refine Wl_i ?_) | (simp (disch := first | omega | exact okF _ | exact okI _ | exact okR _ | assumption | exact okN) only [u_at, iI_zero, iI_31, iI_add, iI_sub, iI_mul, iI_neg, ↓iI_max, ↓iI_min, iI_div, emod_f, iI_lt, iI_le, iI_inj, iI_toInt, ↓ii01, ↓ii11, ↓bI_b, bI_0, bI_1, Kt_s, Kt_n, cat0, cat1, cat2, cat3, cat4, rfV, Nat.reduceAdd, Nat.reduceMul, Nat.reduceEqDiff, Int.reduceAdd, Int.reduceSub, Int.reduceMul, Int.reduceNeg, Int.reduceLT, Int.reduceLE, Int.reduceEq, Int.reduceDiv, ↓reduceIte, ↓ite_ww, ↓ite_wi, Br_n, Br_TW, Br_FW, Br_FP, Br_FB, nn_p, and_true, true_and, and_self, true_or, or_true, not_true_eq_false, not_false_eq_true, le_T, le_F, lt_T, lt_F, eq_T, eq_F, Int.add_zero, Int.zero_add, Int.one_mul, Int.mul_one, up_eq, up_ne, Int.add_assoc, Int.add_sub_cancel, Int.sub_zero, Int.sub_self, S_211_0, S_211_1, S_211_4, S_211_5, S_211_6, S_211_9, S_211_10, S_211_11, S_211_13, S_211_14, S_211_17, S_211_20, S_211_21, S_211_24, S_211_26, S_211_27, S_211_28, S_211_29, S_211_30, S_211_31, S_211_34, S_211_35, S_211_36, S_211_37, S_211_38, S_211_41, S_211_43, S_211_44, S_211_45, S_211_46, S_211_47, S_211_50, S_211_51, S_211_52, S_211_53, S_211_56, S_211_57, S_211_58, S_211_59, S_211_60, S_211_63, S_211_66, S_211_67, S_211_69, S_211_70, S_211_73, S_211_76, S_211_77, S_211_80, S_211_83, S_211_84, S_211_85, S_211_86, S_211_87, S_211_88, S_211_91, S_211_92, S_211_93, S_211_94, S_211_95, S_211_98, S_211_101, S_211_102, S_211_103, S_211_104, S_211_105, S_211_106, S_211_109, S_211_110, S_211_111, S_211_112, S_211_115, S_211_118, H_122, g26]))
      exact l3
  have l0 := l1 0 (by omega) (by omega) sA (by rw [esA]; exact ⟨(Fr.rf s).u rfl, rfl, fun i i0 i1 => by omega, fun z _ => ⟨rfl, rfl⟩⟩) (by rw [esA]; exact ⟨rfl, rfl⟩)
  rw [esA] at l0
  clear l1 l2
  repeat' (first | (with_reducible refine Br_i ?_ ?_ <;> (intro hbr; first | exact False.elim hbr | skip)) | (with_reducible refine Wl_i ?_) | (simp (disch := first | omega | exact okF _ | exact okI _ | exact okR _ | assumption | exact okN) only [u_at, iI_zero, iI_31, iI_add, iI_sub, iI_mul, iI_neg, ↓iI_max, ↓iI_min, iI_div, emod_f, iI_lt, iI_le, iI_inj, iI_toInt, ↓ii01, ↓ii11, ↓bI_b, bI_0, bI_1, Kt_s, Kt_n, cat0, cat1, cat2, cat3, cat4, rfV, Nat.reduceAdd, Nat.reduceMul, Nat.reduceEqDiff, Int.reduceAdd, Int.reduceSub, Int.reduceMul, Int.reduceNeg, Int.reduceLT, Int.reduceLE, Int.reduceEq, Int.reduceDiv, ↓reduceIte, ↓ite_ww, ↓ite_wi, Br_n, Br_TW, Br_FW, Br_FP, Br_FB, nn_p, and_true, true_and, and_self, true_or, or_true, not_true_eq_false, not_false_eq_true, le_T, le_F, lt_T, lt_F, eq_T, eq_F, Int.add_zero, Int.zero_add, Int.one_mul, Int.mul_one, up_eq, up_ne, Int.add_assoc, Int.add_sub_cancel, Int.sub_zero, Int.sub_self, S_211_0, S_211_1, S_211_4, S_211_5, S_211_6, S_211_9, S_211_10, S_211_11, S_211_13, S_211_14, S_211_17, S_211_20, S_211_21, S_211_24, S_211_26, S_211_27, S_211_28, S_211_29, S_211_30, S_211_31, S_211_34, S_211_35, S_211_36, S_211_37, S_211_38, S_211_41, S_211_43, S_211_44, S_211_45, S_211_46, S_211_47, S_211_50, S_211_51, S_211_52, S_211_53, S_211_56, S_211_57, S_211_58, S_211_59, S_211_60, S_211_63, S_211_66, S_211_67, S_211_69, S_211_70, S_211_73, S_211_76, S_211_77, S_211_80, S_211_83, S_211_84, S_211_85, S_211_86, S_211_87, S_211_88, S_211_91, S_211_92, S_211_93, S_211_94, S_211_95, S_211_98, S_211_101, S_211_102, S_211_103, S_211_104, S_211_105, S_211_106, S_211_109, S_211_110, S_211_111, S_211_112, S_211_115, S_211_118, H_122, H_126, h26]))
  exact l0
/-- what is kept is the text -/
theorem lM_keeps (A1 : KA s s1 t nc nc) (B1 : KB s s1 t no) (ht : 0 ≤ t ∧ t < 6) (hn : nc ≤ 10) (ho : no ≤ 300) : ∀ {i a : Int} {l : lawT}, NWs s i a l → seg (s 137) a ((tot l).map (fun q => q.1)) → seg (s 138) a ((tot l).map (fun q => q.2)) → 0 ≤ i → i + l.length = nc → 0 ≤ a → a + (tot l).length = no → lM s1 t i l
  | i, a, [], h, g1, g2, i0, hi, a0, ha => by
    show s1 126 t = i
    rw [A1.2.1, up_eq rfl]
    simp at hi
    omega
  | i, a, c :: r, h, g1, g2, i0, hi, a0, ha => by
    have el : ((c :: r).length : Int) = r.length + 1 := by simp
    have et : ((tot (c :: r)).length : Int) = c.2.length + 1 + (tot r).length := by simp [tot]; omega
    obtain ⟨n1, n2, n3⟩ := h
    obtain ⟨p1, p2⟩ := A1.2.2.1 i i0 (by omega)
    have e1 : (tot (c :: r)).map (fun q => q.1) = c.2.map (fun q => q.1) ++ [408] ++ (tot r).map (fun q => q.1) := by simp [tot]
    have e2 : (tot (c :: r)).map (fun q => q.2) = c.2.map (fun q => q.2) ++ ([0] ++ (tot r).map (fun q => q.2)) := by simp [tot]
    rw [e1, seg_app] at g1
    rw [e2, seg_app, seg_app] at g2
    obtain ⟨g11, g12⟩ := g1
    obtain ⟨g21, g22, g23⟩ := g2
    have l1 : ((c.2.map (fun q : Int × Int => q.1) ++ [408]).length : Int) = c.2.length + 1 := by simp
    have l2 : ((c.2.map (fun q : Int × Int => q.2)).length : Int) = c.2.length := by simp
    have l3 : ((([0] : List Int)).length : Int) = 1 := rfl
    rw [l1] at g12
    rw [l2] at g22 g23
    rw [l3] at g23
    have hz : ∀ z : Int, a ≤ z → z < a + c.2.length + 1 → s1 129 (400 * t + z) = s 137 z ∧ s1 130 (400 * t + z) = s 138 z := fun z z0 z1 => B1.1 z (by omega) (by omega)
    refine ⟨⟨by rw [p1]; exact n1, by omega, ⟨?_, by omega, by omega⟩, ?_, ?_⟩, ?_⟩
    · omega
    · rw [p2, n2]
      exact seg_sh (f := s 137) g11 (fun z z0 z1 => (hz z z0 (by omega)).1)
    · rw [p2, n2]
      exact seg_sh (f := s 138) g21 (fun z z0 z1 => (hz z z0 (by omega)).2)
    · refine lM_keeps A1 B1 ht hn ho n3 (by rw [show a + c.2.length + 1 = a + (c.2.length + 1) by omega]; exact g12) ?_ (by omega) (by omega) (by omega) (by omega)
      rw [show a + (c.2.length : Int) + 1 = a + c.2.length + 1 by omega]
      exact g23
/-- the other texts are as before -/
theorem lM_other {t2 : Int} (A1 : KA s s1 t nc nc) (B1 : KB s s1 t no) (ht : 0 ≤ t) (h2 : 0 ≤ t2 ∧ ¬ t2 = t) : ∀ {i : Int} {l : lawT}, lM s t2 i l → 0 ≤ i → i + l.length ≤ 10 → lM s1 t2 i l
  | i, [], h, i0, hi => by
    show s1 126 t2 = i
    rw [A1.2.1, up_ne (by omega)]
    exact h
  | i, c :: r, h, i0, hi => by
    have el : ((c :: r).length : Int) = r.length + 1 := by simp
    obtain ⟨⟨q1, q2, q3, q4, q5⟩, qr⟩ := h
    obtain ⟨p1, p2⟩ := A1.2.2.2 (10 * t2 + i) (by omega)
    have ll : ((c.2.map (fun q : Int × Int => q.1) ++ [408]).length : Int) = c.2.length + 1 := by simp
    have ll2 : ((c.2.map (fun q : Int × Int => q.2)).length : Int) = c.2.length := by simp
    refine ⟨⟨by rw [p1]; exact q1, by rw [p2]; exact q2, by rw [p2]; exact q3, ?_, ?_⟩, lM_other A1 B1 ht h2 qr (by omega) (by omega)⟩
    · rw [p2]
      exact seg_cg (fun z z0 z1 => (B1.2 z (by omega)).1) q4
    · rw [p2]
      exact seg_cg (fun z z0 z1 => (B1.2 z (by omega)).2) q5
end KT
