/-! PARSING, the reference follows clauses, the whole text -/
def MLC : List Nat := [122026, 122027, 135, 136, 122012, 122013, 122014, 122015, 122016, 122017, 122018, 122019, 122022, 122025, 122030, 131, 132, 133, 134, 137, 138]
def NWs (s : sg) : Int → Int → lawT → Prop
  | i, _, [] => s 122026 0 = i
  | i, a, c :: r => s 135 i = c.1 ∧ s 136 i = a ∧ NWs s (i + 1) (a + c.2.length + 1) r
def tot : lawT → opl
  | [] => []
  | c :: r => c.2 ++ [(408, 0)] ++ tot r
section SC
variable {d : Nat} {X : hX} {s s1 s2 : sg} {Q : Option Value → aH → Prop} {n w T j : Int} {B : Int → Int} {l : lawT} {c : opl}
theorem tot_app {c : Int × opl} : ∀ {l : lawT}, tot (l ++ [c]) = tot l ++ c.2 ++ [(408, 0)]
  | [] => by simp [tot]
  | a :: r => by
    have ih := tot_app (c := c) (l := r)
    show a.2 ++ [(408, 0)] ++ tot (r ++ [c]) = a.2 ++ [(408, 0)] ++ tot r ++ c.2 ++ [(408, 0)]
    rw [ih]
    simp
theorem NWs_n : ∀ {i a : Int} {l : lawT}, NWs s i a l → s 122026 0 = i + l.length
  | i, a, [], h => by have h : s 122026 0 = i := h; simp [h]
  | i, a, c :: r, h => by have e := NWs_n h.2.2; simp only [List.length_cons]; omega
theorem NWs_snoc {c : Int × opl} : ∀ {i a : Int} {l : lawT}, NWs s i a l → (∀ z, i ≤ z → z < i + l.length → s2 135 z = s 135 z ∧ s2 136 z = s 136 z) → s2 135 (i + l.length) = c.1 → s2 136 (i + l.length) = a + (tot l).length → s2 122026 0 = i + l.length + 1 → NWs s2 i a (l ++ [c])
  | i, a, [], h, h1, h2, h3, h4 => by
    have e : i + (([] : lawT).length : Int) = i := by simp
    rw [e] at h2 h3 h4
    exact ⟨h2, by rw [h3]; simp [tot], h4⟩
  | i, a, b :: r, h, h1, h2, h3, h4 => by
    have el : ((b :: r).length : Int) = r.length + 1 := by simp
    have et : ((tot (b :: r)).length : Int) = b.2.length + 1 + (tot r).length := by simp [tot]; omega
    obtain ⟨q1, q2, q3⟩ := h
    obtain ⟨p1, p2⟩ := h1 i (by omega) (by omega)
    have e : i + ((b :: r).length : Int) = i + 1 + r.length := by omega
    rw [e] at h2 h3 h4
    exact ⟨by rw [p1]; exact q1, by rw [p2]; exact q2, NWs_snoc q3 (fun z z0 z1 => h1 z (by omega) (by omega)) h2 (by rw [h3]; omega) h4⟩
theorem NWs_fr {K : List Nat} (f : Fr K s s2) (w : ninA [135, 136, 122026] K = true) : ∀ {i a : Int} {l : lawT}, NWs s i a l → NWs s2 i a l
  | i, a, [], h => by show s2 122026 0 = i; rw [f 122026 (ninA_1 w rfl)]; exact h
  | i, a, c :: r, h => ⟨by rw [f 135 (ninA_1 w rfl)]; exact h.1, by rw [f 136 (ninA_1 w rfl)]; exact h.2.1, NWs_fr f w h.2.2⟩
theorem NWs_in {x : Int} : ∀ {i a : Int} {l : lawT}, NWs s i a l → ((∃ z, i ≤ z ∧ z < i + l.length ∧ s 135 z = x) ↔ ∃ c ∈ l, c.1 = x)
  | i, a, [], h => by
    constructor
    · intro ⟨z, z0, z1, _⟩
      simp at z1
      omega
    · intro ⟨c, hc, _⟩
      cases hc
  | i, a, b :: r, h => by
    have el : ((b :: r).length : Int) = r.length + 1 := by simp
    have ih := NWs_in (x := x) h.2.2
    constructor
    · intro ⟨z, z0, z1, z2⟩
      by_cases e : z = i
      · exact ⟨b, List.mem_cons_self, by rw [← h.1, ← e]; exact z2⟩
      · obtain ⟨c, hc, e2⟩ := ih.mp ⟨z, by omega, by omega, z2⟩
        exact ⟨c, List.mem_cons_of_mem _ hc, e2⟩
    · intro ⟨c, hc, e⟩
      rcases List.mem_cons.mp hc with y | y
      · exact ⟨i, Int.le_refl _, by omega, by rw [h.1, ← y]; exact e⟩
      · obtain ⟨z, z0, z1, z2⟩ := ih.mpr ⟨c, y, e⟩
        exact ⟨z, by omega, by omega, z2⟩
theorem m_wasTold {x : Int} (h : NWs s 0 0 l) (hl : l.length ≤ 10) (hx : (-2147483648 ≤ x ∧ x < 2147483648)) (hr : ∀ z : Int, 0 ≤ z → z < (l.length : Int) → 0 ≤ s 135 z ∧ s 135 z ≤ 4) : Wp d 208 0 [.ref 122, .int (iI x), .float 0, .float 0] [] (hp X s) Q = Q (some (.int (iI (bZ (∃ c ∈ l, c.1 = x))))) (hp X s) := by
  have hn := NWs_n h
  rw [Int.zero_add] at hn
  have fin : bZ (∃ z, 0 ≤ z ∧ z < (l.length : Int) ∧ s 135 z = x) = bZ (∃ c ∈ l, c.1 = x) := by
    refine bZ_cg ?_
    have q := NWs_in (x := x) h
    simp only [Int.zero_add] at q
    exact q
  have loop : ∀ k, 0 ≤ k → k ≤ (l.length : Int) → Wp d 208 4 [.ref 122, .int (iI x), .int (iI (bZ (∃ z, 0 ≤ z ∧ z < k ∧ s 135 z = x))), .int (iI k)] [] (hp X s) Q = Q (some (.int (iI (bZ (∃ c ∈ l, c.1 = x))))) (hp X s) := by
    refine lp0 ?_ ?_
    · intro k k0 k1 ih
      have rr := hr k k0 k1
      rw [← ih, S_208_4]
      by_cases c1 : ∃ z, 0 ≤ z ∧ z < k ∧ s 135 z = x
      · have c2 : ∃ z, 0 ≤ z ∧ z < k + 1 ∧ s 135 z = x := by
          obtain ⟨z, z0, z1, z2⟩ := c1
          exact ⟨z, z0, by omega, z2⟩
        rw [bZ_T c1, bZ_T c2]
        simp (disch := first | omega | exact okF _ | exact okI _ | exact okR _ | assumption | exact okN) only [S_208_0, S_208_1, S_208_2, S_208_3, S_208_5, S_208_6, S_208_9, S_208_12, S_208_13, S_208_16, S_208_17, S_208_20, S_208_21, S_208_22, S_208_23, S_208_26, S_208_27, S_208_30, S_208_31, S_208_32, S_208_35, S_208_38, S_208_39, u_at, iI_zero, iI_31, iI_add, iI_sub, iI_mul, iI_neg, ↓iI_max, ↓iI_min, iI_div, emod_f, iI_lt, iI_le, iI_inj, iI_toInt, ↓ii01, ↓ii11, ↓bI_b, bI_0, bI_1, Kt_s, Kt_n, cat0, cat1, cat2, cat3, cat4, rfV, Nat.reduceAdd, Nat.reduceMul, Nat.reduceEqDiff, Int.reduceAdd, Int.reduceSub, Int.reduceMul, Int.reduceNeg, Int.reduceLT, Int.reduceLE, Int.reduceEq, Int.reduceDiv, ↓reduceIte, ↓ite_ww, ↓ite_wi, Br_n, Br_TW, Br_FW, Br_FP, Br_FB, nn_p, and_true, true_and, and_self, true_or, or_true, not_true_eq_false, not_false_eq_true, le_T, le_F, lt_T, lt_F, eq_T, eq_F, Int.add_zero, Int.zero_add, Int.one_mul, Int.mul_one, up_eq, up_ne, Int.add_assoc, Int.add_sub_cancel, Int.sub_zero, Int.sub_self, H_122, H_135, hn]
      · rw [bZ_F c1]
        by_cases c3 : s 135 k = x
        · rw [bZ_T (⟨k, k0, by omega, c3⟩ : ∃ z, 0 ≤ z ∧ z < k + 1 ∧ s 135 z = x)]
          simp (disch := first | omega | exact okF _ | exact okI _ | exact okR _ | assumption | exact okN) only [S_208_0, S_208_1, S_208_2, S_208_3, S_208_5, S_208_6, S_208_9, S_208_12, S_208_13, S_208_16, S_208_17, S_208_20, S_208_21, S_208_22, S_208_23, S_208_26, S_208_27, S_208_30, S_208_31, S_208_32, S_208_35, S_208_38, S_208_39, u_at, iI_zero, iI_31, iI_add, iI_sub, iI_mul, iI_neg, ↓iI_max, ↓iI_min, iI_div, emod_f, iI_lt, iI_le, iI_inj, iI_toInt, ↓ii01, ↓ii11, ↓bI_b, bI_0, bI_1, Kt_s, Kt_n, cat0, cat1, cat2, cat3, cat4, rfV, Nat.reduceAdd, Nat.reduceMul, Nat.reduceEqDiff, Int.reduceAdd, Int.reduceSub, Int.reduceMul, Int.reduceNeg, Int.reduceLT, Int.reduceLE, Int.reduceEq, Int.reduceDiv, ↓reduceIte, ↓ite_ww, ↓ite_wi, Br_n, Br_TW, Br_FW, Br_FP, Br_FB, nn_p, and_true, true_and, and_self, true_or, or_true, not_true_eq_false, not_false_eq_true, le_T, le_F, lt_T, lt_F, eq_T, eq_F, Int.add_zero, Int.zero_add, Int.one_mul, Int.mul_one, up_eq, up_ne, Int.add_assoc, Int.add_sub_cancel, Int.sub_zero, Int.sub_self, H_122, H_135, hn, c3]
        · have c2 : ¬ ∃ z, 0 ≤ z ∧ z < k + 1 ∧ s 135 z = x := by
            intro ⟨z, z0, z1, z2⟩
            by_cases e : z = k
            · rw [e] at z2; exact c3 z2
            · exact c1 ⟨z, z0, by omega, z2⟩
          rw [bZ_F c2]
          simp (disch := first | omega | exact okF _ | exact okI _ | exact okR _ | assumption | exact okN) only [S_208_0, S_208_1, S_208_2, S_208_3, S_208_5, S_208_6, S_208_9, S_208_12, S_208_13, S_208_16, S_208_17, S_208_20, S_208_21, S_208_22, S_208_23, S_208_26, S_208_27, S_208_30, S_208_31, S_208_32, S_208_35, S_208_38, S_208_39, u_at, iI_zero, iI_31, iI_add, iI_sub, iI_mul, iI_neg, ↓iI_max, ↓iI_min, iI_div, emod_f, iI_lt, iI_le, iI_inj, iI_toInt, ↓ii01, ↓ii11, ↓bI_b, bI_0, bI_1, Kt_s, Kt_n, cat0, cat1, cat2, cat3, cat4, rfV, Nat.reduceAdd, Nat.reduceMul, Nat.reduceEqDiff, Int.reduceAdd, Int.reduceSub, Int.reduceMul, Int.reduceNeg, Int.reduceLT, Int.reduceLE, Int.reduceEq, Int.reduceDiv, ↓reduceIte, ↓ite_ww, ↓ite_wi, Br_n, Br_TW, Br_FW, Br_FP, Br_FB, nn_p, and_true, true_and, and_self, true_or, or_true, not_true_eq_false, not_false_eq_true, le_T, le_F, lt_T, lt_F, eq_T, eq_F, Int.add_zero, Int.zero_add, Int.one_mul, Int.mul_one, up_eq, up_ne, Int.add_assoc, Int.add_sub_cancel, Int.sub_zero, Int.sub_self, H_122, H_135, hn, c3]
    · rw [fin, S_208_4]
      simp (disch := first | omega | exact okF _ | exact okI _ | exact okR _ | assumption | exact okN) only [S_208_0, S_208_1, S_208_2, S_208_3, S_208_5, S_208_6, S_208_9, S_208_12, S_208_13, S_208_16, S_208_17, S_208_20, S_208_21, S_208_22, S_208_23, S_208_26, S_208_27, S_208_30, S_208_31, S_208_32, S_208_35, S_208_38, S_208_39, u_at, iI_zero, iI_31, iI_add, iI_sub, iI_mul, iI_neg, ↓iI_max, ↓iI_min, iI_div, emod_f, iI_lt, iI_le, iI_inj, iI_toInt, ↓ii01, ↓ii11, ↓bI_b, bI_0, bI_1, Kt_s, Kt_n, cat0, cat1, cat2, cat3, cat4, rfV, Nat.reduceAdd, Nat.reduceMul, Nat.reduceEqDiff, Int.reduceAdd, Int.reduceSub, Int.reduceMul, Int.reduceNeg, Int.reduceLT, Int.reduceLE, Int.reduceEq, Int.reduceDiv, ↓reduceIte, ↓ite_ww, ↓ite_wi, Br_n, Br_TW, Br_FW, Br_FP, Br_FB, nn_p, and_true, true_and, and_self, true_or, or_true, not_true_eq_false, not_false_eq_true, le_T, le_F, lt_T, lt_F, eq_T, eq_F, Int.add_zero, Int.zero_add, Int.one_mul, Int.mul_one, up_eq, up_ne, Int.add_assoc, Int.add_sub_cancel, Int.sub_zero, Int.sub_self, H_122, H_135, hn]
  have l0 := loop 0 (by omega) (by omega)
  rw [bZ_F (show ¬ ∃ z, 0 ≤ z ∧ z < (0 : Int) ∧ s 135 z = x from fun ⟨z, z0, z1, _⟩ => by omega)] at l0
  rw [← l0]
  simp (disch := first | omega | exact okF _ | exact okI _ | exact okR _ | assumption | exact okN) only [S_208_0, S_208_1, S_208_2, S_208_3, S_208_5, S_208_6, S_208_9, S_208_12, S_208_13, S_208_16, S_208_17, S_208_20, S_208_21, S_208_22, S_208_23, S_208_26, S_208_27, S_208_30, S_208_31, S_208_32, S_208_35, S_208_38, S_208_39, u_at, iI_zero, iI_31, iI_add, iI_sub, iI_mul, iI_neg, ↓iI_max, ↓iI_min, iI_div, emod_f, iI_lt, iI_le, iI_inj, iI_toInt, ↓ii01, ↓ii11, ↓bI_b, bI_0, bI_1, Kt_s, Kt_n, cat0, cat1, cat2, cat3, cat4, rfV, Nat.reduceAdd, Nat.reduceMul, Nat.reduceEqDiff, Int.reduceAdd, Int.reduceSub, Int.reduceMul, Int.reduceNeg, Int.reduceLT, Int.reduceLE, Int.reduceEq, Int.reduceDiv, ↓reduceIte, ↓ite_ww, ↓ite_wi, Br_n, Br_TW, Br_FW, Br_FP, Br_FB, nn_p, and_true, true_and, and_self, true_or, or_true, not_true_eq_false, not_false_eq_true, le_T, le_F, lt_T, lt_F, eq_T, eq_F, Int.add_zero, Int.zero_add, Int.one_mul, Int.mul_one, up_eq, up_ne, Int.add_assoc, Int.add_sub_cancel, Int.sub_zero, Int.sub_self]
theorem TK_nz {kap v : Int} (h : TK s kap v) (hk : ¬ kap = 16) : 1 ≤ s 122014 0 ∧ s 122014 0 ≤ 4 := by
  rcases h with ⟨q1, q2⟩ | ⟨q1, q2, _⟩ | ⟨q1, q2, q3⟩ | ⟨q1, q2⟩ | ⟨q1, q2, q3⟩
  · omega
  · omega
  · omega
  · omega
  · omega
theorem TK_z {v : Int} (h : TK s 16 v) : s 122014 0 = 0 := by
  rcases h with ⟨_, q2⟩ | ⟨q1, q2, _⟩ | ⟨q1, q2, q3⟩ | ⟨q1, q2⟩ | ⟨q1, q2, q3⟩
  · exact q2
  · omega
  · omega
  · omega
  · omega
theorem at_4 (h16 : s 122016 0 = 0) (h25 : s 122025 0 = 4) (h14 : 1 ≤ s 122014 0 ∧ s 122014 0 ≤ 4) (g : ∀ Q', (∀ s', At X d Q s' → Q' none (hp X s')) → Wp (d + 4) 209 0 [.ref 122] [] (hp X s) Q') : At X d Q s := by
  have g := g (Kt (d + 4 + 1) 210 164 [.ref 122] [] Q) (fun s' h => by
    unfold At at h
    repeat' (first | (with_reducible refine Br_i ?_ ?_ <;> (intro hbr; first | exact False.elim hbr | skip)) | (with_reducible refine Wl_i ?_) | (simp (disch := first | omega | exact okF _ | exact okI _ | exact okR _ | assumption | exact okN) only [u_at, iI_zero, iI_31, iI_add, iI_sub, iI_mul, iI_neg, ↓iI_max, ↓iI_min, iI_div, emod_f, iI_lt, iI_le, iI_inj, iI_toInt, ↓ii01, ↓ii11, ↓bI_b, bI_0, bI_1, Kt_s, Kt_n, cat0, cat1, cat2, cat3, cat4, rfV, Nat.reduceAdd, Nat.reduceMul, Nat.reduceEqDiff, Int.reduceAdd, Int.reduceSub, Int.reduceMul, Int.reduceNeg, Int.reduceLT, Int.reduceLE, Int.reduceEq, Int.reduceDiv, ↓reduceIte, ↓ite_ww, ↓ite_wi, Br_n, Br_TW, Br_FW, Br_FP, Br_FB, nn_p, and_true, true_and, and_self, true_or, or_true, not_true_eq_false, not_false_eq_true, le_T, le_F, lt_T, lt_F, eq_T, eq_F, Int.add_zero, Int.zero_add, Int.one_mul, Int.mul_one, up_eq, up_ne, Int.add_assoc, Int.add_sub_cancel, Int.sub_zero, Int.sub_self, S_210_0, S_210_1, S_210_4, S_210_5, S_210_6, S_210_8, S_210_11, S_210_12, S_210_13, S_210_14, S_210_15, S_210_18, S_210_21, S_210_22, S_210_23, S_210_26, S_210_27, S_210_28, S_210_31, S_210_32, S_210_33, S_210_36, S_210_37, S_210_38, S_210_41, S_210_42, S_210_43, S_210_46, S_210_47, S_210_48, S_210_51, S_210_52, S_210_53, S_210_56, S_210_57, S_210_58, S_210_61, S_210_62, S_210_63, S_210_66, S_210_67, S_210_68, S_210_71, S_210_72, S_210_76, S_210_79, S_210_82, S_210_83, S_210_86, S_210_87, S_210_90, S_210_91, S_210_94, S_210_97, S_210_98, S_210_101, S_210_132, S_210_133, S_210_136, S_210_139, S_210_140, S_210_143, S_210_146, S_210_147, S_210_150, S_210_153, S_210_154, S_210_157, S_210_160, S_210_161, S_210_164, S_210_167, S_210_168, S_210_169, S_210_172, S_210_175, S_210_176, S_210_177, S_210_180, S_210_183, S_210_184, S_210_187, S_210_190, S_210_191, S_210_192, S_210_193, S_210_194, S_210_197, S_210_198, S_210_199, S_210_202, S_210_203, S_210_206, S_210_207, S_210_208, S_210_209, S_210_210, S_210_211, S_210_212, S_210_213, S_210_216, S_210_217, S_210_218, S_210_219, S_210_220]))
    exact h)
  unfold At
  rw [S_210_75]
  repeat' (first | (with_reducible refine Br_i ?_ ?_ <;> (intro hbr; first | exact False.elim hbr | skip)) | (with_reducible refine Wl_i ?_) | (simp (disch := first | omega | exact okF _ | exact okI _ | exact okR _ | assumption | exact okN) only [u_at, iI_zero, iI_31, iI_add, iI_sub, iI_mul, iI_neg, ↓iI_max, ↓iI_min, iI_div, emod_f, iI_lt, iI_le, iI_inj, iI_toInt, ↓ii01, ↓ii11, ↓bI_b, bI_0, bI_1, Kt_s, Kt_n, cat0, cat1, cat2, cat3, cat4, rfV, Nat.reduceAdd, Nat.reduceMul, Nat.reduceEqDiff, Int.reduceAdd, Int.reduceSub, Int.reduceMul, Int.reduceNeg, Int.reduceLT, Int.reduceLE, Int.reduceEq, Int.reduceDiv, ↓reduceIte, ↓ite_ww, ↓ite_wi, Br_n, Br_TW, Br_FW, Br_FP, Br_FB, nn_p, and_true, true_and, and_self, true_or, or_true, not_true_eq_false, not_false_eq_true, le_T, le_F, lt_T, lt_F, eq_T, eq_F, Int.add_zero, Int.zero_add, Int.one_mul, Int.mul_one, up_eq, up_ne, Int.add_assoc, Int.add_sub_cancel, Int.sub_zero, Int.sub_self, S_210_0, S_210_1, S_210_4, S_210_5, S_210_6, S_210_8, S_210_11, S_210_12, S_210_13, S_210_14, S_210_15, S_210_18, S_210_21, S_210_22, S_210_23, S_210_26, S_210_27, S_210_28, S_210_31, S_210_32, S_210_33, S_210_36, S_210_37, S_210_38, S_210_41, S_210_42, S_210_43, S_210_46, S_210_47, S_210_48, S_210_51, S_210_52, S_210_53, S_210_56, S_210_57, S_210_58, S_210_61, S_210_62, S_210_63, S_210_66, S_210_67, S_210_68, S_210_71, S_210_72, S_210_76, S_210_79, S_210_82, S_210_83, S_210_86, S_210_87, S_210_90, S_210_91, S_210_94, S_210_97, S_210_98, S_210_101, S_210_132, S_210_133, S_210_136, S_210_139, S_210_140, S_210_143, S_210_146, S_210_147, S_210_150, S_210_153, S_210_154, S_210_157, S_210_160, S_210_161, S_210_164, S_210_167, S_210_168, S_210_169, S_210_172, S_210_175, S_210_176, S_210_177, S_210_180, S_210_183, S_210_184, S_210_187, S_210_190, S_210_191, S_210_192, S_210_193, S_210_194, S_210_197, S_210_198, S_210_199, S_210_202, S_210_203, S_210_206, S_210_207, S_210_208, S_210_209, S_210_210, S_210_211, S_210_212, S_210_213, S_210_216, S_210_217, S_210_218, S_210_219, S_210_220, H_122, h16, h25]))
  exact g
theorem at_x (h : (s 122016 0 = 0 ∧ s 122025 0 = 4 ∧ s 122014 0 = 0) ∨ (1 ≤ s 122016 0 ∧ s 122016 0 ≤ 6)) (g : Wp (d + 5) 210 167 [.ref 122] [] (hp X s) Q) : At X d Q s := by
  unfold At
  rw [S_210_75]
  rcases h with ⟨h16, h25, h14⟩ | h16
  · repeat' (first | (with_reducible refine Br_i ?_ ?_ <;> (intro hbr; first | exact False.elim hbr | skip)) | (with_reducible refine Wl_i ?_) | (simp (disch := first | omega | exact okF _ | exact okI _ | exact okR _ | assumption | exact okN) only [u_at, iI_zero, iI_31, iI_add, iI_sub, iI_mul, iI_neg, ↓iI_max, ↓iI_min, iI_div, emod_f, iI_lt, iI_le, iI_inj, iI_toInt, ↓ii01, ↓ii11, ↓bI_b, bI_0, bI_1, Kt_s, Kt_n, cat0, cat1, cat2, cat3, cat4, rfV, Nat.reduceAdd, Nat.reduceMul, Nat.reduceEqDiff, Int.reduceAdd, Int.reduceSub, Int.reduceMul, Int.reduceNeg, Int.reduceLT, Int.reduceLE, Int.reduceEq, Int.reduceDiv, ↓reduceIte, ↓ite_ww, ↓ite_wi, Br_n, Br_TW, Br_FW, Br_FP, Br_FB, nn_p, and_true, true_and, and_self, true_or, or_true, not_true_eq_false, not_false_eq_true, le_T, le_F, lt_T, lt_F, eq_T, eq_F, Int.add_zero, Int.zero_add, Int.one_mul, Int.mul_one, up_eq, up_ne, Int.add_assoc, Int.add_sub_cancel, Int.sub_zero, Int.sub_self, S_210_0, S_210_1, S_210_4, S_210_5, S_210_6, S_210_8, S_210_11, S_210_12, S_210_13, S_210_14, S_210_15, S_210_18, S_210_21, S_210_22, S_210_23, S_210_26, S_210_27, S_210_28, S_210_31, S_210_32, S_210_33, S_210_36, S_210_37, S_210_38, S_210_41, S_210_42, S_210_43, S_210_46, S_210_47, S_210_48, S_210_51, S_210_52, S_210_53, S_210_56, S_210_57, S_210_58, S_210_61, S_210_62, S_210_63, S_210_66, S_210_67, S_210_68, S_210_71, S_210_72, S_210_76, S_210_79, S_210_82, S_210_83, S_210_86, S_210_87, S_210_90, S_210_91, S_210_94, S_210_97, S_210_98, S_210_101, S_210_132, S_210_133, S_210_136, S_210_139, S_210_140, S_210_143, S_210_146, S_210_147, S_210_150, S_210_153, S_210_154, S_210_157, S_210_160, S_210_161, S_210_164, S_210_168, S_210_169, S_210_172, S_210_175, S_210_176, S_210_177, S_210_180, S_210_183, S_210_184, S_210_187, S_210_190, S_210_191, S_210_192, S_210_193, S_210_194, S_210_197, S_210_198, S_210_199, S_210_202, S_210_203, S_210_206, S_210_207, S_210_208, S_210_209, S_210_210, S_210_211, S_210_212, S_210_213, S_210_216, S_210_217, S_210_218, S_210_219, S_210_220, H_122, h16, h25, h14]))
    exact g
  · repeat' (first | (with_reducible refine Br_i ?_ ?_ <;> (intro hbr; first | exact False.elim hbr | skip)) | (with_reducible refine Wl_i ?_) | (simp (disch := first | omega | exact okF _ | exact okI _ | exact okR _ | assumption | exact okN) only [u_at, iI_zero, iI_31, iI_add, iI_sub, iI_mul, iI_neg, ↓iI_max, ↓iI_min, iI_div, emod_f, iI_lt, iI_le, iI_inj, iI_toInt, ↓ii01, ↓ii11, ↓bI_b, bI_0, bI_1, Kt_s, Kt_n, cat0, cat1, cat2, cat3, cat4, rfV, Nat.reduceAdd, Nat.reduceMul, Nat.reduceEqDiff, Int.reduceAdd, Int.reduceSub, Int.reduceMul, Int.reduceNeg, Int.reduceLT, Int.reduceLE, Int.reduceEq, Int.reduceDiv, ↓reduceIte, ↓ite_ww, ↓ite_wi, Br_n, Br_TW, Br_FW, Br_FP, Br_FB, nn_p, and_true, true_and, and_self, true_or, or_true, not_true_eq_false, not_false_eq_true, le_T, le_F, lt_T, lt_F, eq_T, eq_F, Int.add_zero, Int.zero_add, Int.one_mul, Int.mul_one, up_eq, up_ne, Int.add_assoc, Int.add_sub_cancel, Int.sub_zero, Int.sub_self, S_210_0, S_210_1, S_210_4, S_210_5, S_210_6, S_210_8, S_210_11, S_210_12, S_210_13, S_210_14, S_210_15, S_210_18, S_210_21, S_210_22, S_210_23, S_210_26, S_210_27, S_210_28, S_210_31, S_210_32, S_210_33, S_210_36, S_210_37, S_210_38, S_210_41, S_210_42, S_210_43, S_210_46, S_210_47, S_210_48, S_210_51, S_210_52, S_210_53, S_210_56, S_210_57, S_210_58, S_210_61, S_210_62, S_210_63, S_210_66, S_210_67, S_210_68, S_210_71, S_210_72, S_210_76, S_210_79, S_210_82, S_210_83, S_210_86, S_210_87, S_210_90, S_210_91, S_210_94, S_210_97, S_210_98, S_210_101, S_210_132, S_210_133, S_210_136, S_210_139, S_210_140, S_210_143, S_210_146, S_210_147, S_210_150, S_210_153, S_210_154, S_210_157, S_210_160, S_210_161, S_210_164, S_210_168, S_210_169, S_210_172, S_210_175, S_210_176, S_210_177, S_210_180, S_210_183, S_210_184, S_210_187, S_210_190, S_210_191, S_210_192, S_210_193, S_210_194, S_210_197, S_210_198, S_210_199, S_210_202, S_210_203, S_210_206, S_210_207, S_210_208, S_210_209, S_210_210, S_210_211, S_210_212, S_210_213, S_210_216, S_210_217, S_210_218, S_210_219, S_210_220, H_122]))
    exact g
/-- the law being read in the reference -/
def MCL (s : sg) (l : lawT) : Prop := MR s [] [] 0 (tot l) ∧ NWs s 0 0 l ∧ l.length ≤ 10 ∧ (∀ z, 0 ≤ z → z < (l.length : Int) → 0 ≤ s 135 z ∧ s 135 z ≤ 4) ∧ s 122025 0 = 4
theorem cl_pre (T0 : MTK s B n j) (C : MCL s l) (hk : ¬ kd B n j = 16) (hk4 : 0 ≤ kd B n j ∧ kd B n j ≤ 4) (hc : ¬ (¬ kd B n j = 4 ∧ ∃ c ∈ l, c.1 = kd B n j)) (w : Wp (d + 3 + 1) 209 57 [.ref 122] [] (hp X (u s 122027 (fun _ => kd B n j))) Q) : Wp (d + 4) 209 0 [.ref 122] [] (hp X s) Q := by
  obtain ⟨M, N, hl, hr, h25⟩ := C
  obtain ⟨t1, t2⟩ := TK_word T0.2.2.2.1 (by omega)
  have mi := mwd_iff (k := kd B n j) (by omega)
  have t3 : s 122015 0 = kd B n j := by rw [t2]; exact mi.2.2.2.2.2.2.1 (by omega)
  have N2 : NWs (u s 122027 (fun _ => kd B n j)) 0 0 l := NWs_fr ((Fr.rf s).u rfl : Fr [122027] s _) rfl N
  have wt := fun (d : Nat) (Q : Option Value → aH → Prop) => m_wasTold (d := d) (X := X) (Q := Q) (x := kd B n j) N2 hl (by omega) hr
  by_cases c4 : kd B n j = 4
  · rw [c4] at w
    repeat' (first | (with_reducible refine Br_i ?_ ?_ <;> (intro hbr; first | exact False.elim hbr | skip)) | (with_reducible refine Wl_i ?_) | (simp (disch := first | omega | exact okF _ | exact okI _ | exact okR _ | assumption | exact okN) only [u_at, iI_zero, iI_31, iI_add, iI_sub, iI_mul, iI_neg, ↓iI_max, ↓iI_min, iI_div, emod_f, iI_lt, iI_le, iI_inj, iI_toInt, ↓ii01, ↓ii11, ↓bI_b, bI_0, bI_1, Kt_s, Kt_n, cat0, cat1, cat2, cat3, cat4, rfV, Nat.reduceAdd, Nat.reduceMul, Nat.reduceEqDiff, Int.reduceAdd, Int.reduceSub, Int.reduceMul, Int.reduceNeg, Int.reduceLT, Int.reduceLE, Int.reduceEq, Int.reduceDiv, ↓reduceIte, ↓ite_ww, ↓ite_wi, Br_n, Br_TW, Br_FW, Br_FP, Br_FB, nn_p, and_true, true_and, and_self, true_or, or_true, not_true_eq_false, not_false_eq_true, le_T, le_F, lt_T, lt_F, eq_T, eq_F, Int.add_zero, Int.zero_add, Int.one_mul, Int.mul_one, up_eq, up_ne, Int.add_assoc, Int.add_sub_cancel, Int.sub_zero, Int.sub_self, S_209_0, S_209_1, S_209_4, S_209_5, S_209_8, S_209_9, S_209_12, S_209_13, S_209_16, S_209_17, S_209_18, S_209_21, S_209_22, S_209_23, S_209_24, S_209_27, S_209_30, S_209_31, S_209_34, S_209_35, S_209_38, S_209_39, S_209_40, S_209_43, S_209_46, S_209_49, S_209_50, S_209_51, S_209_54, S_209_58, S_209_61, S_209_63, S_209_66, S_209_67, S_209_69, S_209_72, S_209_73, S_209_76, S_209_79, S_209_80, S_209_81, S_209_84, S_209_85, S_209_88, S_209_89, S_209_92, S_209_93, S_209_94, S_209_97, S_209_98, S_209_101, S_209_102, S_209_105, S_209_106, S_209_107, S_209_110, S_209_111, S_209_112, S_209_115, S_209_116, S_209_119, S_209_120, S_209_123, S_209_124, S_209_127, S_209_128, S_209_129, S_209_132, S_209_133, S_209_136, S_209_137, S_209_140, S_209_141, S_209_144, H_122, t1, t3, c4]))
    exact w
  · have c5 : ¬ ∃ c ∈ l, c.1 = kd B n j := fun x => hc ⟨c4, x⟩
    replace hc := Hd_i hc
    have b0 := bZ_F c5
    rw [b0] at wt
    replace c5 := Hd_i c5
    repeat' (first | (with_reducible refine Br_i ?_ ?_ <;> (intro hbr; first | exact False.elim hbr | skip)) | (with_reducible refine Wl_i ?_) | (simp (disch := first | omega | exact okF _ | exact okI _ | exact okR _ | assumption | exact okN) only [u_at, iI_zero, iI_31, iI_add, iI_sub, iI_mul, iI_neg, ↓iI_max, ↓iI_min, iI_div, emod_f, iI_lt, iI_le, iI_inj, iI_toInt, ↓ii01, ↓ii11, ↓bI_b, bI_0, bI_1, Kt_s, Kt_n, cat0, cat1, cat2, cat3, cat4, rfV, Nat.reduceAdd, Nat.reduceMul, Nat.reduceEqDiff, Int.reduceAdd, Int.reduceSub, Int.reduceMul, Int.reduceNeg, Int.reduceLT, Int.reduceLE, Int.reduceEq, Int.reduceDiv, ↓reduceIte, ↓ite_ww, ↓ite_wi, Br_n, Br_TW, Br_FW, Br_FP, Br_FB, nn_p, and_true, true_and, and_self, true_or, or_true, not_true_eq_false, not_false_eq_true, le_T, le_F, lt_T, lt_F, eq_T, eq_F, Int.add_zero, Int.zero_add, Int.one_mul, Int.mul_one, up_eq, up_ne, Int.add_assoc, Int.add_sub_cancel, Int.sub_zero, Int.sub_self, S_209_0, S_209_1, S_209_4, S_209_5, S_209_8, S_209_9, S_209_12, S_209_13, S_209_16, S_209_17, S_209_18, S_209_21, S_209_22, S_209_23, S_209_24, S_209_27, S_209_30, S_209_31, S_209_34, S_209_35, S_209_38, S_209_39, S_209_40, S_209_43, S_209_46, S_209_49, S_209_50, S_209_51, S_209_54, S_209_58, S_209_61, S_209_63, S_209_66, S_209_67, S_209_69, S_209_72, S_209_73, S_209_76, S_209_79, S_209_80, S_209_81, S_209_84, S_209_85, S_209_88, S_209_89, S_209_92, S_209_93, S_209_94, S_209_97, S_209_98, S_209_101, S_209_102, S_209_105, S_209_106, S_209_107, S_209_110, S_209_111, S_209_112, S_209_115, S_209_116, S_209_119, S_209_120, S_209_123, S_209_124, S_209_127, S_209_128, S_209_129, S_209_132, S_209_133, S_209_136, S_209_137, S_209_140, S_209_141, S_209_144, H_122, t1, t3, c4, wt]))
    exact w
theorem sim_clause (hnn : 0 ≤ n) (hT : kd B n T = 16 ∧ 0 ≤ T ∧ T ≤ 300) (T0 : MTK s B n j) (jT : j ≤ T) (C : MCL s l) (hk : ¬ kd B n j = 16) (hb : ((tot l).length : Int) ≤ j)
    (kS : (pCl (kd B n) (nu B n) l j).1 = 0 → ∀ s', Fr MLC s s' → MTK s' B n (pCl (kd B n) (nu B n) l j).2.1 → MCL s' (l ++ [(pCl (kd B n) (nu B n) l j).2.2]) → (pCl (kd B n) (nu B n) l j).2.1 ≤ T → ((tot (l ++ [(pCl (kd B n) (nu B n) l j).2.2])).length : Int) ≤ (pCl (kd B n) (nu B n) l j).2.1 → At X d Q s')
    (kE : ¬ (pCl (kd B n) (nu B n) l j).1 = 0 → ∀ s', Fr MLC s s' → s' 122016 0 = (pCl (kd B n) (nu B n) l j).1 → s' 122017 0 = pla B n (pCl (kd B n) (nu B n) l j).2.1 → At X d Q s') : At X d Q s := by
  have C0 := C
  obtain ⟨M, N, hl, hr, h25⟩ := C
  have j0 := T0.2.2.2.2
  have kr := (kd_r (B := B) (n := n) (j := j) hnn j0).1
  have t := T0.2.2.2.1
  have h13 := T0.2.2.1
  have h16 := M.1
  have hn := NWs_n N
  rw [Int.zero_add] at hn
  have er := fun (d : Nat) (Q : Option Value → aH → Prop) (x : Int) => m_errs (d := d) (X := X) (Q := Q) (x := x) h16
  have er2 := fun (d : Nat) (Q : Option Value → aH → Prop) (x : Int) => m_errs (d := d) (X := X) (Q := Q) (s := u s 122027 (fun _ => kd B n j)) (x := x) h16
  have jT2 : j < T := by
    by_cases x : j = T
    · rw [x] at hk; exact absurd hT.1 hk
    · omega
  refine at_4 h16 h25 (TK_nz t hk) fun Q' hQ => ?_
  by_cases c1 : 4 < kd B n j
  · have ep : pCl (kd B n) (nu B n) l j = (1, j, (0, [])) := by unfold pCl; rw [if_pos c1]
    have hq := hQ (u (u s 122016 (fun _ => 1)) 122017 (fun _ => pla B n j)) (kE (by rw [ep]; show ¬ (1 : Int) = 0; omega) _ (((Fr.rf s).u rfl).u rfl) (by rw [ep]; rfl) (by rw [ep]; rfl))
    rcases t with ⟨q1, q2⟩ | ⟨q1, q2, _⟩ | ⟨q1, q2, q3⟩ | ⟨q1, q2⟩ | ⟨q1, q2, q3⟩
    · exact absurd q1 hk
    · repeat' (first | (with_reducible refine Br_i ?_ ?_ <;> (intro hbr; first | exact False.elim hbr | skip)) | (with_reducible refine Wl_i ?_) | (simp (disch := first | omega | exact okF _ | exact okI _ | exact okR _ | assumption | exact okN) only [u_at, iI_zero, iI_31, iI_add, iI_sub, iI_mul, iI_neg, ↓iI_max, ↓iI_min, iI_div, emod_f, iI_lt, iI_le, iI_inj, iI_toInt, ↓ii01, ↓ii11, ↓bI_b, bI_0, bI_1, Kt_s, Kt_n, cat0, cat1, cat2, cat3, cat4, rfV, Nat.reduceAdd, Nat.reduceMul, Nat.reduceEqDiff, Int.reduceAdd, Int.reduceSub, Int.reduceMul, Int.reduceNeg, Int.reduceLT, Int.reduceLE, Int.reduceEq, Int.reduceDiv, ↓reduceIte, ↓ite_ww, ↓ite_wi, Br_n, Br_TW, Br_FW, Br_FP, Br_FB, nn_p, and_true, true_and, and_self, true_or, or_true, not_true_eq_false, not_false_eq_true, le_T, le_F, lt_T, lt_F, eq_T, eq_F, Int.add_zero, Int.zero_add, Int.one_mul, Int.mul_one, up_eq, up_ne, Int.add_assoc, Int.add_sub_cancel, Int.sub_zero, Int.sub_self, S_209_0, S_209_1, S_209_4, S_209_5, S_209_8, S_209_9, S_209_12, S_209_13, S_209_16, S_209_17, S_209_18, S_209_21, S_209_22, S_209_23, S_209_24, S_209_27, S_209_30, S_209_31, S_209_34, S_209_35, S_209_38, S_209_39, S_209_40, S_209_43, S_209_46, S_209_49, S_209_50, S_209_51, S_209_54, S_209_57, S_209_58, S_209_61, S_209_63, S_209_66, S_209_67, S_209_69, S_209_72, S_209_73, S_209_76, S_209_79, S_209_80, S_209_81, S_209_84, S_209_85, S_209_88, S_209_89, S_209_92, S_209_93, S_209_94, S_209_97, S_209_98, S_209_101, S_209_102, S_209_105, S_209_106, S_209_107, S_209_110, S_209_111, S_209_112, S_209_115, S_209_116, S_209_119, S_209_120, S_209_123, S_209_124, S_209_127, S_209_128, S_209_129, S_209_132, S_209_133, S_209_136, S_209_137, S_209_140, S_209_141, S_209_144, H_122, q2, er, h13]))
      exact hq
    · have mi := mwd_iff q1
      have nm : ¬ mwd (kd B n j) ≤ 4 := by omega
      repeat' (first | (with_reducible refine Br_i ?_ ?_ <;> (intro hbr; first | exact False.elim hbr | skip)) | (with_reducible refine Wl_i ?_) | (simp (disch := first | omega | exact okF _ | exact okI _ | exact okR _ | assumption | exact okN) only [u_at, iI_zero, iI_31, iI_add, iI_sub, iI_mul, iI_neg, ↓iI_max, ↓iI_min, iI_div, emod_f, iI_lt, iI_le, iI_inj, iI_toInt, ↓ii01, ↓ii11, ↓bI_b, bI_0, bI_1, Kt_s, Kt_n, cat0, cat1, cat2, cat3, cat4, rfV, Nat.reduceAdd, Nat.reduceMul, Nat.reduceEqDiff, Int.reduceAdd, Int.reduceSub, Int.reduceMul, Int.reduceNeg, Int.reduceLT, Int.reduceLE, Int.reduceEq, Int.reduceDiv, ↓reduceIte, ↓ite_ww, ↓ite_wi, Br_n, Br_TW, Br_FW, Br_FP, Br_FB, nn_p, and_true, true_and, and_self, true_or, or_true, not_true_eq_false, not_false_eq_true, le_T, le_F, lt_T, lt_F, eq_T, eq_F, Int.add_zero, Int.zero_add, Int.one_mul, Int.mul_one, up_eq, up_ne, Int.add_assoc, Int.add_sub_cancel, Int.sub_zero, Int.sub_self, S_209_0, S_209_1, S_209_4, S_209_5, S_209_8, S_209_9, S_209_12, S_209_13, S_209_16, S_209_17, S_209_18, S_209_21, S_209_22, S_209_23, S_209_24, S_209_27, S_209_30, S_209_31, S_209_34, S_209_35, S_209_38, S_209_39, S_209_40, S_209_43, S_209_46, S_209_49, S_209_50, S_209_51, S_209_54, S_209_57, S_209_58, S_209_61, S_209_63, S_209_66, S_209_67, S_209_69, S_209_72, S_209_73, S_209_76, S_209_79, S_209_80, S_209_81, S_209_84, S_209_85, S_209_88, S_209_89, S_209_92, S_209_93, S_209_94, S_209_97, S_209_98, S_209_101, S_209_102, S_209_105, S_209_106, S_209_107, S_209_110, S_209_111, S_209_112, S_209_115, S_209_116, S_209_119, S_209_120, S_209_123, S_209_124, S_209_127, S_209_128, S_209_129, S_209_132, S_209_133, S_209_136, S_209_137, S_209_140, S_209_141, S_209_144, H_122, q2, q3, er, h13]))
      exact hq
    · rcases q2 with q2 | ⟨q2, q3⟩
      · repeat' (first | (with_reducible refine Br_i ?_ ?_ <;> (intro hbr; first | exact False.elim hbr | skip)) | (with_reducible refine Wl_i ?_) | (simp (disch := first | omega | exact okF _ | exact okI _ | exact okR _ | assumption | exact okN) only [u_at, iI_zero, iI_31, iI_add, iI_sub, iI_mul, iI_neg, ↓iI_max, ↓iI_min, iI_div, emod_f, iI_lt, iI_le, iI_inj, iI_toInt, ↓ii01, ↓ii11, ↓bI_b, bI_0, bI_1, Kt_s, Kt_n, cat0, cat1, cat2, cat3, cat4, rfV, Nat.reduceAdd, Nat.reduceMul, Nat.reduceEqDiff, Int.reduceAdd, Int.reduceSub, Int.reduceMul, Int.reduceNeg, Int.reduceLT, Int.reduceLE, Int.reduceEq, Int.reduceDiv, ↓reduceIte, ↓ite_ww, ↓ite_wi, Br_n, Br_TW, Br_FW, Br_FP, Br_FB, nn_p, and_true, true_and, and_self, true_or, or_true, not_true_eq_false, not_false_eq_true, le_T, le_F, lt_T, lt_F, eq_T, eq_F, Int.add_zero, Int.zero_add, Int.one_mul, Int.mul_one, up_eq, up_ne, Int.add_assoc, Int.add_sub_cancel, Int.sub_zero, Int.sub_self, S_209_0, S_209_1, S_209_4, S_209_5, S_209_8, S_209_9, S_209_12, S_209_13, S_209_16, S_209_17, S_209_18, S_209_21, S_209_22, S_209_23, S_209_24, S_209_27, S_209_30, S_209_31, S_209_34, S_209_35, S_209_38, S_209_39, S_209_40, S_209_43, S_209_46, S_209_49, S_209_50, S_209_51, S_209_54, S_209_57, S_209_58, S_209_61, S_209_63, S_209_66, S_209_67, S_209_69, S_209_72, S_209_73, S_209_76, S_209_79, S_209_80, S_209_81, S_209_84, S_209_85, S_209_88, S_209_89, S_209_92, S_209_93, S_209_94, S_209_97, S_209_98, S_209_101, S_209_102, S_209_105, S_209_106, S_209_107, S_209_110, S_209_111, S_209_112, S_209_115, S_209_116, S_209_119, S_209_120, S_209_123, S_209_124, S_209_127, S_209_128, S_209_129, S_209_132, S_209_133, S_209_136, S_209_137, S_209_140, S_209_141, S_209_144, H_122, q2, er, h13]))
        exact hq
      · repeat' (first | (with_reducible refine Br_i ?_ ?_ <;> (intro hbr; first | exact False.elim hbr | skip)) | (with_reducible refine Wl_i ?_) | (simp (disch := first | omega | exact okF _ | exact okI _ | exact okR _ | assumption | exact okN) only [u_at, iI_zero, iI_31, iI_add, iI_sub, iI_mul, iI_neg, ↓iI_max, ↓iI_min, iI_div, emod_f, iI_lt, iI_le, iI_inj, iI_toInt, ↓ii01, ↓ii11, ↓bI_b, bI_0, bI_1, Kt_s, Kt_n, cat0, cat1, cat2, cat3, cat4, rfV, Nat.reduceAdd, Nat.reduceMul, Nat.reduceEqDiff, Int.reduceAdd, Int.reduceSub, Int.reduceMul, Int.reduceNeg, Int.reduceLT, Int.reduceLE, Int.reduceEq, Int.reduceDiv, ↓reduceIte, ↓ite_ww, ↓ite_wi, Br_n, Br_TW, Br_FW, Br_FP, Br_FB, nn_p, and_true, true_and, and_self, true_or, or_true, not_true_eq_false, not_false_eq_true, le_T, le_F, lt_T, lt_F, eq_T, eq_F, Int.add_zero, Int.zero_add, Int.one_mul, Int.mul_one, up_eq, up_ne, Int.add_assoc, Int.add_sub_cancel, Int.sub_zero, Int.sub_self, S_209_0, S_209_1, S_209_4, S_209_5, S_209_8, S_209_9, S_209_12, S_209_13, S_209_16, S_209_17, S_209_18, S_209_21, S_209_22, S_209_23, S_209_24, S_209_27, S_209_30, S_209_31, S_209_34, S_209_35, S_209_38, S_209_39, S_209_40, S_209_43, S_209_46, S_209_49, S_209_50, S_209_51, S_209_54, S_209_57, S_209_58, S_209_61, S_209_63, S_209_66, S_209_67, S_209_69, S_209_72, S_209_73, S_209_76, S_209_79, S_209_80, S_209_81, S_209_84, S_209_85, S_209_88, S_209_89, S_209_92, S_209_93, S_209_94, S_209_97, S_209_98, S_209_101, S_209_102, S_209_105, S_209_106, S_209_107, S_209_110, S_209_111, S_209_112, S_209_115, S_209_116, S_209_119, S_209_120, S_209_123, S_209_124, S_209_127, S_209_128, S_209_129, S_209_132, S_209_133, S_209_136, S_209_137, S_209_140, S_209_141, S_209_144, H_122, q2, er, h13]))
        exact hq
    · repeat' (first | (with_reducible refine Br_i ?_ ?_ <;> (intro hbr; first | exact False.elim hbr | skip)) | (with_reducible refine Wl_i ?_) | (simp (disch := first | omega | exact okF _ | exact okI _ | exact okR _ | assumption | exact okN) only [u_at, iI_zero, iI_31, iI_add, iI_sub, iI_mul, iI_neg, ↓iI_max, ↓iI_min, iI_div, emod_f, iI_lt, iI_le, iI_inj, iI_toInt, ↓ii01, ↓ii11, ↓bI_b, bI_0, bI_1, Kt_s, Kt_n, cat0, cat1, cat2, cat3, cat4, rfV, Nat.reduceAdd, Nat.reduceMul, Nat.reduceEqDiff, Int.reduceAdd, Int.reduceSub, Int.reduceMul, Int.reduceNeg, Int.reduceLT, Int.reduceLE, Int.reduceEq, Int.reduceDiv, ↓reduceIte, ↓ite_ww, ↓ite_wi, Br_n, Br_TW, Br_FW, Br_FP, Br_FB, nn_p, and_true, true_and, and_self, true_or, or_true, not_true_eq_false, not_false_eq_true, le_T, le_F, lt_T, lt_F, eq_T, eq_F, Int.add_zero, Int.zero_add, Int.one_mul, Int.mul_one, up_eq, up_ne, Int.add_assoc, Int.add_sub_cancel, Int.sub_zero, Int.sub_self, S_209_0, S_209_1, S_209_4, S_209_5, S_209_8, S_209_9, S_209_12, S_209_13, S_209_16, S_209_17, S_209_18, S_209_21, S_209_22, S_209_23, S_209_24, S_209_27, S_209_30, S_209_31, S_209_34, S_209_35, S_209_38, S_209_39, S_209_40, S_209_43, S_209_46, S_209_49, S_209_50, S_209_51, S_209_54, S_209_57, S_209_58, S_209_61, S_209_63, S_209_66, S_209_67, S_209_69, S_209_72, S_209_73, S_209_76, S_209_79, S_209_80, S_209_81, S_209_84, S_209_85, S_209_88, S_209_89, S_209_92, S_209_93, S_209_94, S_209_97, S_209_98, S_209_101, S_209_102, S_209_105, S_209_106, S_209_107, S_209_110, S_209_111, S_209_112, S_209_115, S_209_116, S_209_119, S_209_120, S_209_123, S_209_124, S_209_127, S_209_128, S_209_129, S_209_132, S_209_133, S_209_136, S_209_137, S_209_140, S_209_141, S_209_144, H_122, q2, er, h13]))
      exact hq
  · obtain ⟨t1, t2⟩ := TK_word t (by omega)
    have mi := mwd_iff (k := kd B n j) (by omega)
    have t3 : s 122015 0 = kd B n j := by rw [t2]; exact mi.2.2.2.2.2.2.1 (by omega)
    by_cases c2 : ¬ kd B n j = 4 ∧ ∃ c ∈ l, c.1 = kd B n j
    · have ep : pCl (kd B n) (nu B n) l j = (4, j, (0, [])) := by unfold pCl; rw [if_neg c1, if_pos c2]
      have hq := hQ (u (u (u s 122027 (fun _ => kd B n j)) 122016 (fun _ => 4)) 122017 (fun _ => pla B n j)) (kE (by rw [ep]; show ¬ (4 : Int) = 0; omega) _ ((((Fr.rf s).u rfl).u rfl).u rfl) (by rw [ep]; rfl) (by rw [ep]; rfl))
      have N2 : NWs (u s 122027 (fun _ => kd B n j)) 0 0 l := NWs_fr ((Fr.rf s).u rfl : Fr [122027] s _) rfl N
      have wt := fun (d : Nat) (Q : Option Value → aH → Prop) => m_wasTold (d := d) (X := X) (Q := Q) (x := kd B n j) N2 hl (by omega) hr
      obtain ⟨c21, c22⟩ := c2
      rw [bZ_T c22] at wt
      clear c22
      repeat' (first | (with_reducible refine Br_i ?_ ?_ <;> (intro hbr; first | exact False.elim hbr | skip)) | (with_reducible refine Wl_i ?_) | (simp (disch := first | omega | exact okF _ | exact okI _ | exact okR _ | assumption | exact okN) only [u_at, iI_zero, iI_31, iI_add, iI_sub, iI_mul, iI_neg, ↓iI_max, ↓iI_min, iI_div, emod_f, iI_lt, iI_le, iI_inj, iI_toInt, ↓ii01, ↓ii11, ↓bI_b, bI_0, bI_1, Kt_s, Kt_n, cat0, cat1, cat2, cat3, cat4, rfV, Nat.reduceAdd, Nat.reduceMul, Nat.reduceEqDiff, Int.reduceAdd, Int.reduceSub, Int.reduceMul, Int.reduceNeg, Int.reduceLT, Int.reduceLE, Int.reduceEq, Int.reduceDiv, ↓reduceIte, ↓ite_ww, ↓ite_wi, Br_n, Br_TW, Br_FW, Br_FP, Br_FB, nn_p, and_true, true_and, and_self, true_or, or_true, not_true_eq_false, not_false_eq_true, le_T, le_F, lt_T, lt_F, eq_T, eq_F, Int.add_zero, Int.zero_add, Int.one_mul, Int.mul_one, up_eq, up_ne, Int.add_assoc, Int.add_sub_cancel, Int.sub_zero, Int.sub_self, S_209_0, S_209_1, S_209_4, S_209_5, S_209_8, S_209_9, S_209_12, S_209_13, S_209_16, S_209_17, S_209_18, S_209_21, S_209_22, S_209_23, S_209_24, S_209_27, S_209_30, S_209_31, S_209_34, S_209_35, S_209_38, S_209_39, S_209_40, S_209_43, S_209_46, S_209_49, S_209_50, S_209_51, S_209_54, S_209_57, S_209_58, S_209_61, S_209_63, S_209_66, S_209_67, S_209_69, S_209_72, S_209_73, S_209_76, S_209_79, S_209_80, S_209_81, S_209_84, S_209_85, S_209_88, S_209_89, S_209_92, S_209_93, S_209_94, S_209_97, S_209_98, S_209_101, S_209_102, S_209_105, S_209_106, S_209_107, S_209_110, S_209_111, S_209_112, S_209_115, S_209_116, S_209_119, S_209_120, S_209_123, S_209_124, S_209_127, S_209_128, S_209_129, S_209_132, S_209_133, S_209_136, S_209_137, S_209_140, S_209_141, S_209_144, H_122, t1, t3, c21, wt, er2, h13]))
      exact hq
    · by_cases c3 : 10 ≤ l.length
      · have ep : pCl (kd B n) (nu B n) l j = (6, j, (0, [])) := by unfold pCl; rw [if_neg c1, if_neg c2, if_pos c3]
        have hq := hQ (u (u (u s 122027 (fun _ => kd B n j)) 122016 (fun _ => 6)) 122017 (fun _ => pla B n j)) (kE (by rw [ep]; show ¬ (6 : Int) = 0; omega) _ ((((Fr.rf s).u rfl).u rfl).u rfl) (by rw [ep]; rfl) (by rw [ep]; rfl))
        refine cl_pre (d := d) T0 C0 hk (by omega) c2 ?_
        replace c2 := Hd_i c2
        have e10 : (l.length : Int) = 10 := by omega
        repeat' (first | (with_reducible refine Br_i ?_ ?_ <;> (intro hbr; first | exact False.elim hbr | skip)) | (with_reducible refine Wl_i ?_) | (simp (disch := first | omega | exact okF _ | exact okI _ | exact okR _ | assumption | exact okN) only [u_at, iI_zero, iI_31, iI_add, iI_sub, iI_mul, iI_neg, ↓iI_max, ↓iI_min, iI_div, emod_f, iI_lt, iI_le, iI_inj, iI_toInt, ↓ii01, ↓ii11, ↓bI_b, bI_0, bI_1, Kt_s, Kt_n, cat0, cat1, cat2, cat3, cat4, rfV, Nat.reduceAdd, Nat.reduceMul, Nat.reduceEqDiff, Int.reduceAdd, Int.reduceSub, Int.reduceMul, Int.reduceNeg, Int.reduceLT, Int.reduceLE, Int.reduceEq, Int.reduceDiv, ↓reduceIte, ↓ite_ww, ↓ite_wi, Br_n, Br_TW, Br_FW, Br_FP, Br_FB, nn_p, and_true, true_and, and_self, true_or, or_true, not_true_eq_false, not_false_eq_true, le_T, le_F, lt_T, lt_F, eq_T, eq_F, Int.add_zero, Int.zero_add, Int.one_mul, Int.mul_one, up_eq, up_ne, Int.add_assoc, Int.add_sub_cancel, Int.sub_zero, Int.sub_self, S_209_0, S_209_1, S_209_4, S_209_5, S_209_8, S_209_9, S_209_12, S_209_13, S_209_16, S_209_17, S_209_18, S_209_21, S_209_22, S_209_23, S_209_24, S_209_27, S_209_30, S_209_31, S_209_34, S_209_35, S_209_38, S_209_39, S_209_40, S_209_43, S_209_46, S_209_49, S_209_50, S_209_51, S_209_54, S_209_57, S_209_58, S_209_61, S_209_63, S_209_66, S_209_67, S_209_69, S_209_72, S_209_73, S_209_76, S_209_79, S_209_80, S_209_81, S_209_84, S_209_85, S_209_88, S_209_89, S_209_92, S_209_93, S_209_94, S_209_97, S_209_98, S_209_101, S_209_102, S_209_105, S_209_106, S_209_107, S_209_110, S_209_111, S_209_112, S_209_115, S_209_116, S_209_119, S_209_120, S_209_123, S_209_124, S_209_127, S_209_128, S_209_129, S_209_132, S_209_133, S_209_136, S_209_137, S_209_140, S_209_141, S_209_144, H_122, hn, e10, er2, h13]))
        exact hq
      · have nx : pCl (kd B n) (nu B n) l j = if (pBody (kd B n) (nu B n) (kd B n j) (j + 1)).1 = 0 then (if kd B n (pBody (kd B n) (nu B n) (kd B n j) (j + 1)).2.1 = 30 then (0, (pBody (kd B n) (nu B n) (kd B n j) (j + 1)).2.1 + 1, (kd B n j, (pBody (kd B n) (nu B n) (kd B n j) (j + 1)).2.2)) else (1, (pBody (kd B n) (nu B n) (kd B n j) (j + 1)).2.1, (0, []))) else ((pBody (kd B n) (nu B n) (kd B n j) (j + 1)).1, (pBody (kd B n) (nu B n) (kd B n j) (j + 1)).2.1, (0, [])) := by unfold pCl; rw [if_neg c1, if_neg c2, if_neg c3]
        have gB := pBody_g (K := kd B n) (kd B n j) (nu_p (B := B) hnn)
        obtain ⟨g1, g2, g3⟩ := gB (j + 1) (by omega)
        have gT := Gd_T gB (show 0 ≤ j + 1 by omega) hT.1 (by omega)
        refine cl_pre (d := d) T0 C0 hk (by omega) c2 ?_
        replace c2 := Hd_i c2
        obtain ⟨sA, esA⟩ : ∃ sA, sA = u (u (u s 122027 (fun _ => kd B n j)) 135 (up (s 135) l.length (kd B n j))) 136 (up (s 136) l.length (tot l).length) := ⟨_, rfl⟩
        have fA : Fr [122027, 135, 136] s sA := by rw [esA]; exact (((Fr.rf s).u rfl).u rfl).u rfl
        have M30 : s 122030 0 = ((tot l).length : Int) := M.2.2.2.2.1
        -- behind next and opensFrame
        have body : ∀ (x st : Int), ((kd B n j = 4 ∧ x = 2 ∧ st = 0) ∨ (¬ kd B n j = 4 ∧ x = 1 ∧ st = 1)) → ∀ s2, Fr MLC s s2 → s2 135 = sA 135 → s2 136 = sA 136 → s2 122026 0 = l.length → s2 122027 0 = kd B n j → MTK s2 B n (j + 1) → MR s2 [(x, 0)] [] 0 (tot l) → s2 122025 0 = st → At X d Q s2 := by
          intro x st hx s2 f2 h135 h136 h26 h27 T2 M2 h252
          have kE' : ∀ s0, Fr MLC s s0 → ¬ (pBody (kd B n) (nu B n) (kd B n j) (j + 1)).1 = 0 → ∀ s', Fr ML s0 s' → s' 122016 0 = (pBody (kd B n) (nu B n) (kd B n j) (j + 1)).1 → s' 122017 0 = pla B n (pBody (kd B n) (nu B n) (kd B n j) (j + 1)).2.1 → At X d Q s' := by
            intro s0 f0 z s' f' h16 h17
            rw [if_neg z] at nx
            exact kE (by rw [nx]; exact z) s' (f0.tr (f'.up rfl)) (by rw [nx]; exact h16) (by rw [nx]; exact h17)
          have good : ∀ s4, (pBody (kd B n) (nu B n) (kd B n j) (j + 1)).1 = 0 → kd B n (pBody (kd B n) (nu B n) (kd B n j) (j + 1)).2.1 = 30 → Fr ML s2 s4 → ∀ s5, Fr (122026 :: ML) s4 s5 → MTK s5 B n ((pBody (kd B n) (nu B n) (kd B n j) (j + 1)).2.1 + 1) → MR s5 [] [] 0 (tot l ++ (pBody (kd B n) (nu B n) (kd B n j) (j + 1)).2.2 ++ [(408, 0)]) → s5 122025 0 = 4 → s5 122026 0 = l.length + 1 → At X d Q s5 := by
            intro s4 z c30 f4 s5 f5 T5 M5 h255 h265
            rw [if_pos z, if_pos c30] at nx
            obtain ⟨g4, g5, _⟩ := g2 z
            have rT : (pBody (kd B n) (nu B n) (kd B n j) (j + 1)).2.1 < T := by
              by_cases y : (pBody (kd B n) (nu B n) (kd B n j) (j + 1)).2.1 = T
              · rw [y, hT.1] at c30; omega
              · omega
            rw [nx] at kS
            generalize pBody (kd B n) (nu B n) (kd B n j) (j + 1) = r at *
            have e135 : s5 135 = sA 135 := by rw [f5.g 135 rfl, f4.g 135 rfl]; exact h135
            have e136 : s5 136 = sA 136 := by rw [f5.g 136 rfl, f4.g 136 rfl]; exact h136
            have a135 : sA 135 = up (s 135) l.length (kd B n j) := by rw [esA]; rfl
            have a136 : sA 136 = up (s 136) l.length (tot l).length := by rw [esA]; rfl
            refine kS rfl s5 ((f2.tr (f4.up rfl)).tr (f5.up rfl)) T5 ⟨?_, ?_, by simp; omega, fun z z0 z1 => ?_, h255⟩ (by show r.2.1 + 1 ≤ T; omega) (by rw [tot_app]; simp; omega)
            · rw [tot_app]
              exact M5
            · refine NWs_snoc N (fun z z0 z1 => ?_) ?_ ?_ (by rw [h265]; omega)
              · rw [e135, e136, a135, a136, up_ne (by omega), up_ne (by omega)]
                exact ⟨rfl, rfl⟩
              · rw [e135, a135, up_eq (by omega)]
              · rw [e136, a136, up_eq (by omega)]
                omega
            · simp at z1
              rw [e135, a135]
              by_cases y : z = l.length
              · rw [up_eq y]
                omega
              · rw [up_ne y]
                exact hr z z0 (by omega)
          have bad1 : (pBody (kd B n) (nu B n) (kd B n j) (j + 1)).1 = 0 → ¬ kd B n (pBody (kd B n) (nu B n) (kd B n j) (j + 1)).2.1 = 30 → ∀ s4, Fr ML s2 s4 → ∀ s5, Fr ML s4 s5 → s5 122016 0 = 1 → s5 122017 0 = pla B n (pBody (kd B n) (nu B n) (kd B n j) (j + 1)).2.1 → At X d Q s5 := by
            intro z c30 s4 f4 s5 f5 h16 h17
            rw [if_pos z, if_neg c30] at nx
            exact kE (by rw [nx]; show ¬ (1 : Int) = 0; omega) s5 ((f2.tr (f4.up rfl)).tr (f5.up rfl)) (by rw [nx]; exact h16) (by rw [nx]; exact h17)
          have h26b : ∀ s4, Fr ML s2 s4 → s4 122026 0 = (l.length : Int) ∧ 0 ≤ (l.length : Int) ∧ (l.length : Int) ≤ 20 := fun s4 f4 => ⟨by rw [f4.g 122026 rfl]; exact h26, by omega, by omega⟩
          have kEb := kE' s2 f2
          rcases hx with ⟨x1, x2, x3⟩ | ⟨x1, x2, x3⟩
          · subst x2
            subst x3
            have eb : pBody (kd B n) (nu B n) (kd B n j) = pEith (kd B n) (nu B n) (kd B n j) := if_pos x1
            rw [eb] at good bad1 kEb g2
            have SE := sim_eith (X := X) (d := d) (Q := Q) (w := kd B n j) hnn hT (by omega)
            refine SE [] s2 (tot l) (j + 1) T2 (by omega) M2 h252 h27 (by simp) (fun x hx => by cases hx) trivial (by simp; omega) (fun z s4 p4 e4 f4 T4 M4 he4 hp4 hl4 hx4 h254 => ?_) kEb
            obtain ⟨g4, g5, _⟩ := g2 z
            rw [List.append_nil] at M4
            have lc4 : (e4.length : Int) + p4.length = (tot l).length + (pEith (kd B n) (nu B n) (kd B n j) (j + 1)).2.2.length := by
              have q := congrArg List.length he4
              simp at q
              omega
            have gT4 := Gd_T (K := kd B n) (pEith_g (K := kd B n) (kd B n j) (nu_p (B := B) hnn)) (show 0 ≤ j + 1 by omega) hT.1 (by omega)
            refine at_3 M4.1 h254 fun Q' hQ => ?_
            by_cases c30 : kd B n (pEith (kd B n) (nu B n) (kd B n j) (j + 1)).2.1 = 30
            · refine a_end T4 c30 M4 hp4 ⟨by omega, by omega⟩ (h26b s4 f4) fun s5 f5 T5 M5 h255 h265 => hQ s5 ?_
              rw [he4] at M5
              exact good s4 z c30 f4 s5 f5 T5 M5 h255 h265
            · refine a_err T4 ⟨hx4.1, hx4.2, c30⟩ M4 fun s5 f5 h16 h17 => hQ s5 ?_
              exact bad1 z c30 s4 f4 s5 f5 h16 h17
          · subst x2
            subst x3
            have eb : pBody (kd B n) (nu B n) (kd B n j) = pSum (kd B n) (pOne (kd B n) (nu B n) (kd B n j) 8) := if_neg x1
            rw [eb] at good bad1 kEb g2
            have SE : SimL X d Q B n (kd B n j) T 8 (pSum (kd B n) (pOne (kd B n) (nu B n) (kd B n j) 8)) 3 2 (fun k => ¬ isOp k) 1 2 := sim_sum hnn hT (sim_prod hnn hT (sim_one hnn hT (w := kd B n j) (by omega) 8 (by omega)))
            have e8 : (8 : Int) - ((8 : Nat) : Int) = 0 := rfl
            refine SE (1, 0) [] [] s2 (tot l) (j + 1) T2 (by omega) M2 h252 h27 (by show ¬ (1 : Int) = 7 ∧ ¬ (1 : Int) = 3 ∧ 1 ≤ (1 : Int) ∧ (1 : Int) ≤ 7; omega) (by simp) (by simp) (fun x hx => by cases hx) trivial (by simp; omega) (fun z s4 p4 e4 f4 T4 M4 he4 hp4 hl4 hx4 h254 => ?_) kEb
            obtain ⟨g4, g5, _⟩ := g2 z
            rw [List.append_nil, e8] at M4
            have lc4 : (e4.length : Int) + p4.length = (tot l).length + (pSum (kd B n) (pOne (kd B n) (nu B n) (kd B n j) 8) (j + 1)).2.2.length := by
              have q := congrArg List.length he4
              simp at q
              omega
            have gT4 := Gd_T (K := kd B n) (pSum_g (K := kd B n) (pOne_g (K := kd B n) (kd B n j) (nu_p (B := B) hnn) 8)) (show 0 ≤ j + 1 by omega) hT.1 (by omega)
            refine at_2 M4.1 h254 fun Q' hQ => ?_
            by_cases c30 : kd B n (pSum (kd B n) (pOne (kd B n) (nu B n) (kd B n j) 8) (j + 1)).2.1 = 30
            · refine g_end T4 c30 M4 (fun o ho => by have := hp4 o ho; omega) ⟨by omega, by omega⟩ (h26b s4 f4) fun s5 f5 T5 M5 h255 h265 => hQ s5 ?_
              rw [he4] at M5
              exact good s4 z c30 f4 s5 f5 T5 M5 h255 h265
            · refine g_err T4 hx4 M4 (by simp) (Or.inr (Or.inr ⟨rfl, c30⟩)) fun s5 f5 h16 h17 => hQ s5 ?_
              exact bad1 z c30 s4 f4 s5 f5 h16 h17
        have nxt : Wp (d + 1 + 2) 189 0 [.ref 122, .float 0, .float 0, .float 0, .float 0] [] (hp X sA) (Kt (d + 3 + 1) 209 110 [.ref 122] [] Q') := by
          refine m_next2 (MTK_fr fA rfl T0) fun s3 f3 T3 => ?_
          have M3 := MR_fr (fA.up (L2 := [122027, 135, 136, 122012, 122013, 122014, 122015]) rfl |>.tr (f3.up rfl)) rfl M
          have h19 := M3.2.2.1.1
          have h19 : s3 122019 0 = 0 := h19
          have h27 : s3 122027 0 = kd B n j := by rw [f3.g 122027 rfl, esA]; rfl
          have of := fun (d : Nat) (Q : Option Value → aH → Prop) (x : Int) => m_opensFrame (d := d) (X := X) (Q := Q) (s := s3) (f := 0) (x := x) h19 (by omega)
          have fin : ∀ (x st : Int), ((kd B n j = 4 ∧ x = 2 ∧ st = 0) ∨ (¬ kd B n j = 4 ∧ x = 1 ∧ st = 1)) → Q' none (hp X (u (opf s3 0 x) 122025 (fun _ => st))) := by
            intro x st hx
            refine hQ _ (body x st hx _ ?_ ?_ ?_ ?_ ?_ ?_ ?_ rfl)
            · exact (((fA.up rfl).tr (f3.up rfl)).tr ((((Fr.rf s3).u rfl).u rfl : Fr [131, 122019] s3 (opf s3 0 x)).up rfl)).u rfl
            · show s3 135 = _
              rw [f3.g 135 rfl]
            · show s3 136 = _
              rw [f3.g 136 rfl]
            · show s3 122026 0 = _
              rw [f3.g 122026 rfl, fA.g 122026 rfl]
              exact hn
            · exact h27
            · exact MTK_fr ((((Fr.rf s3).u rfl).u rfl).u rfl : Fr [131, 122019, 122025] s3 _) rfl T3
            · exact MR_st (MR_opf (F := []) M3 (by omega))
          by_cases c4 : kd B n j = 4
          · have fn := fin 2 0 (Or.inl ⟨c4, rfl, rfl⟩)
            have o27 : opf s3 0 2 122027 0 = kd B n j := h27
            rw [c4] at h27 o27
            repeat' (first | (with_reducible refine Br_i ?_ ?_ <;> (intro hbr; first | exact False.elim hbr | skip)) | (with_reducible refine Wl_i ?_) | (simp (disch := first | omega | exact okF _ | exact okI _ | exact okR _ | assumption | exact okN) only [u_at, iI_zero, iI_31, iI_add, iI_sub, iI_mul, iI_neg, ↓iI_max, ↓iI_min, iI_div, emod_f, iI_lt, iI_le, iI_inj, iI_toInt, ↓ii01, ↓ii11, ↓bI_b, bI_0, bI_1, Kt_s, Kt_n, cat0, cat1, cat2, cat3, cat4, rfV, Nat.reduceAdd, Nat.reduceMul, Nat.reduceEqDiff, Int.reduceAdd, Int.reduceSub, Int.reduceMul, Int.reduceNeg, Int.reduceLT, Int.reduceLE, Int.reduceEq, Int.reduceDiv, ↓reduceIte, ↓ite_ww, ↓ite_wi, Br_n, Br_TW, Br_FW, Br_FP, Br_FB, nn_p, and_true, true_and, and_self, true_or, or_true, not_true_eq_false, not_false_eq_true, le_T, le_F, lt_T, lt_F, eq_T, eq_F, Int.add_zero, Int.zero_add, Int.one_mul, Int.mul_one, up_eq, up_ne, Int.add_assoc, Int.add_sub_cancel, Int.sub_zero, Int.sub_self, S_209_0, S_209_1, S_209_4, S_209_5, S_209_8, S_209_9, S_209_12, S_209_13, S_209_16, S_209_17, S_209_18, S_209_21, S_209_22, S_209_23, S_209_24, S_209_27, S_209_30, S_209_31, S_209_34, S_209_35, S_209_38, S_209_39, S_209_40, S_209_43, S_209_46, S_209_49, S_209_50, S_209_51, S_209_54, S_209_57, S_209_58, S_209_61, S_209_63, S_209_66, S_209_67, S_209_69, S_209_72, S_209_73, S_209_76, S_209_79, S_209_80, S_209_81, S_209_84, S_209_85, S_209_88, S_209_89, S_209_92, S_209_93, S_209_94, S_209_97, S_209_98, S_209_101, S_209_102, S_209_105, S_209_106, S_209_107, S_209_110, S_209_111, S_209_112, S_209_115, S_209_116, S_209_119, S_209_120, S_209_123, S_209_124, S_209_127, S_209_128, S_209_129, S_209_132, S_209_133, S_209_136, S_209_137, S_209_140, S_209_141, S_209_144, H_122, h27, of, o27]))
            exact fn
          · have fn := fin 1 1 (Or.inr ⟨c4, rfl, rfl⟩)
            have o27 : opf s3 0 1 122027 0 = kd B n j := h27
            repeat' (first | (with_reducible refine Br_i ?_ ?_ <;> (intro hbr; first | exact False.elim hbr | skip)) | (with_reducible refine Wl_i ?_) | (simp (disch := first | omega | exact okF _ | exact okI _ | exact okR _ | assumption | exact okN) only [u_at, iI_zero, iI_31, iI_add, iI_sub, iI_mul, iI_neg, ↓iI_max, ↓iI_min, iI_div, emod_f, iI_lt, iI_le, iI_inj, iI_toInt, ↓ii01, ↓ii11, ↓bI_b, bI_0, bI_1, Kt_s, Kt_n, cat0, cat1, cat2, cat3, cat4, rfV, Nat.reduceAdd, Nat.reduceMul, Nat.reduceEqDiff, Int.reduceAdd, Int.reduceSub, Int.reduceMul, Int.reduceNeg, Int.reduceLT, Int.reduceLE, Int.reduceEq, Int.reduceDiv, ↓reduceIte, ↓ite_ww, ↓ite_wi, Br_n, Br_TW, Br_FW, Br_FP, Br_FB, nn_p, and_true, true_and, and_self, true_or, or_true, not_true_eq_false, not_false_eq_true, le_T, le_F, lt_T, lt_F, eq_T, eq_F, Int.add_zero, Int.zero_add, Int.one_mul, Int.mul_one, up_eq, up_ne, Int.add_assoc, Int.add_sub_cancel, Int.sub_zero, Int.sub_self, S_209_0, S_209_1, S_209_4, S_209_5, S_209_8, S_209_9, S_209_12, S_209_13, S_209_16, S_209_17, S_209_18, S_209_21, S_209_22, S_209_23, S_209_24, S_209_27, S_209_30, S_209_31, S_209_34, S_209_35, S_209_38, S_209_39, S_209_40, S_209_43, S_209_46, S_209_49, S_209_50, S_209_51, S_209_54, S_209_57, S_209_58, S_209_61, S_209_63, S_209_66, S_209_67, S_209_69, S_209_72, S_209_73, S_209_76, S_209_79, S_209_80, S_209_81, S_209_84, S_209_85, S_209_88, S_209_89, S_209_92, S_209_93, S_209_94, S_209_97, S_209_98, S_209_101, S_209_102, S_209_105, S_209_106, S_209_107, S_209_110, S_209_111, S_209_112, S_209_115, S_209_116, S_209_119, S_209_120, S_209_123, S_209_124, S_209_127, S_209_128, S_209_129, S_209_132, S_209_133, S_209_136, S_209_137, S_209_140, S_209_141, S_209_144, H_122, h27, c4, of, o27]))
            exact fn
        rw [esA] at nxt
        repeat' (first | (with_reducible refine Br_i ?_ ?_ <;> (intro hbr; first | exact False.elim hbr | skip)) | (with_reducible refine Wl_i ?_) | (simp (disch := first | omega | exact okF _ | exact okI _ | exact okR _ | assumption | exact okN) only [u_at, iI_zero, iI_31, iI_add, iI_sub, iI_mul, iI_neg, ↓iI_max, ↓iI_min, iI_div, emod_f, iI_lt, iI_le, iI_inj, iI_toInt, ↓ii01, ↓ii11, ↓bI_b, bI_0, bI_1, Kt_s, Kt_n, cat0, cat1, cat2, cat3, cat4, rfV, Nat.reduceAdd, Nat.reduceMul, Nat.reduceEqDiff, Int.reduceAdd, Int.reduceSub, Int.reduceMul, Int.reduceNeg, Int.reduceLT, Int.reduceLE, Int.reduceEq, Int.reduceDiv, ↓reduceIte, ↓ite_ww, ↓ite_wi, Br_n, Br_TW, Br_FW, Br_FP, Br_FB, nn_p, and_true, true_and, and_self, true_or, or_true, not_true_eq_false, not_false_eq_true, le_T, le_F, lt_T, lt_F, eq_T, eq_F, Int.add_zero, Int.zero_add, Int.one_mul, Int.mul_one, up_eq, up_ne, Int.add_assoc, Int.add_sub_cancel, Int.sub_zero, Int.sub_self, S_209_0, S_209_1, S_209_4, S_209_5, S_209_8, S_209_9, S_209_12, S_209_13, S_209_16, S_209_17, S_209_18, S_209_21, S_209_22, S_209_23, S_209_24, S_209_27, S_209_30, S_209_31, S_209_34, S_209_35, S_209_38, S_209_39, S_209_40, S_209_43, S_209_46, S_209_49, S_209_50, S_209_51, S_209_54, S_209_57, S_209_58, S_209_61, S_209_63, S_209_66, S_209_67, S_209_69, S_209_72, S_209_73, S_209_76, S_209_79, S_209_80, S_209_81, S_209_84, S_209_85, S_209_88, S_209_89, S_209_92, S_209_93, S_209_94, S_209_97, S_209_98, S_209_101, S_209_102, S_209_105, S_209_106, S_209_107, S_209_110, S_209_111, S_209_112, S_209_115, S_209_116, S_209_119, S_209_120, S_209_123, S_209_124, S_209_127, S_209_128, S_209_129, S_209_132, S_209_133, S_209_136, S_209_137, S_209_140, S_209_141, S_209_144, H_122, H_135, H_136, hn, h16, M30]))
        exact nxt
/-- the whole text -/
theorem sim_text (hnn : 0 ≤ n) (hT : kd B n T = 16 ∧ 0 ≤ T ∧ T ≤ 300) (T0 : MTK s B n 0) (C : MCL s [])
    (kS : (pTx (kd B n) (nu B n) 11 0 []).1 = 0 → ∀ s', Fr MLC s s' → MCL s' (pTx (kd B n) (nu B n) 11 0 []).2.2 → ((tot (pTx (kd B n) (nu B n) 11 0 []).2.2).length : Int) ≤ 300 → Wp (d + 5) 210 167 [.ref 122] [] (hp X s') Q)
    (kE : (1 ≤ (pTx (kd B n) (nu B n) 11 0 []).1 ∧ (pTx (kd B n) (nu B n) 11 0 []).1 ≤ 6) → ∀ s', Fr MLC s s' → s' 122016 0 = (pTx (kd B n) (nu B n) 11 0 []).1 → s' 122017 0 = pla B n (pTx (kd B n) (nu B n) 11 0 []).2.1 → Wp (d + 5) 210 167 [.ref 122] [] (hp X s') Q) : At X d Q s := by
  have loop : ∀ (f : Nat) (j : Int) (l : lawT) (s1 : sg), (f : Int) = 11 - l.length → j ≤ T → Fr MLC s s1 → MTK s1 B n j → MCL s1 l → ((tot l).length : Int) ≤ j → pTx (kd B n) (nu B n) f j l = pTx (kd B n) (nu B n) 11 0 [] → At X d Q s1 := by
    intro f
    induction f with
    | zero =>
      intro j l s1 hf jT fr T1 C1 hb hr
      have := C1.2.2.1
      omega
    | succ f ih =>
      intro j l s1 hf jT fr T1 C1 hb hr
      rw [pTx] at hr
      by_cases c : kd B n j = 16
      · rw [if_pos c] at hr
        rw [← hr] at kS
        have t := T1.2.2.2.1
        rw [c] at t
        exact at_x (Or.inl ⟨C1.1.1, C1.2.2.2.2, TK_z t⟩) (kS rfl s1 fr C1 (by show ((tot l).length : Int) ≤ 300; omega))
      · rw [if_neg c] at hr
        refine sim_clause hnn hT T1 jT C1 c hb (fun z s' f' T' C' jT' hb' => ?_) (fun z s' f' h16 h17 => ?_)
        · rw [if_pos z] at hr
          exact ih _ _ s' (by simp; omega) jT' (fr.tr f') T' C' hb' hr
        · rw [if_neg z] at hr
          have rng : 0 ≤ (pCl (kd B n) (nu B n) l j).1 ∧ (pCl (kd B n) (nu B n) l j).1 ≤ 6 := by
            have gB := (pBody_g (K := kd B n) (kd B n j) (nu_p (B := B) hnn)) (j + 1) (by have := T1.2.2.2.2; omega)
            unfold pCl
            (repeat' split) <;> first | (show (0 : Int) ≤ 1 ∧ (1 : Int) ≤ 6; omega) | (show (0 : Int) ≤ 4 ∧ (4 : Int) ≤ 6; omega) | (show (0 : Int) ≤ 6 ∧ (6 : Int) ≤ 6; omega) | (show (0 : Int) ≤ 0 ∧ (0 : Int) ≤ 6; omega) | exact gB.2.2
          refine at_x (Or.inr (by rw [h16]; omega)) ?_
          rw [← hr] at kE
          exact kE (by show 1 ≤ (pCl (kd B n) (nu B n) l j).1 ∧ (pCl (kd B n) (nu B n) l j).1 ≤ 6; omega) s' (fr.tr f') h16 h17
  exact loop 11 0 [] s (by simp) hT.2.1 (Fr.rf s) T0 C (by simp [tot]) rfl
end SC
