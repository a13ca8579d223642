/-! THE REFERENCE: gifts -/
/-- the gift k in who's net, unless it is gone -/
def gv (A G : Int → Int) (w k : Int) : Int := if G k = 0 then (if A (480 + (3 * k + 1)) = w then A (480 + (3 * k + 2)) else if A (480 + 3 * k) = w then - A (480 + (3 * k + 2)) else 0) else 0
def nt (A G : Int → Int) (w : Int) : Int := sm (gv A G w) (A 6)
def lwst (A G : Int → Int) : Int := fd (fun p b => if nt A G p < nt A G b then p else b) 0 1 8
def dear (A G : Int → Int) (w : Int) : Int := fd (fun k b => if G k = 0 ∧ A (480 + 3 * k) = w ∧ (b = -1 ∨ A (480 + (3 * b + 2)) < A (480 + (3 * k + 2))) then k else b) (-1) 0 (A 6)
def stdy (A : Int → Int) : Nat → (Int → Int) → Int → Int
  | 0, _, t => t
  | f + 1, G, t => if 0 ≤ nt A G (lwst A G) then t else stdy A f (up G (dear A G (lwst A G)) 1) (t + 1)
def g01 (G : Int → Int) : Prop := ∀ k, 0 ≤ k → k < 30 → G k = 0 ∨ G k = 1
theorem gv_b {A G : Int → Int} (g : gOK A) (w : Int) {k : Int} (h0 : 0 ≤ k) (h1 : k < A 6) : -999 ≤ gv A G w k ∧ gv A G w k ≤ 999 := by
  have := g.2 k h0 h1
  unfold gv
  repeat' split
  all_goals omega
theorem nt_b' {A G : Int → Int} (g : gOK A) (w : Int) {n : Int} (hn : 0 ≤ n) (h : n ≤ A 6) : -(999 * n) ≤ sm (gv A G w) n ∧ sm (gv A G w) n ≤ 999 * n := by
  refine i_ind (P := fun z => z ≤ A 6 → -(999 * z) ≤ sm (gv A G w) z ∧ sm (gv A G w) z ≤ 999 * z) hn ?_ ?_ h
  · intro _
    rw [sm_0]
    omega
  · intro z z0 z1 ih q
    have := gv_b (G := G) g w z0 (by omega)
    have := ih (by omega)
    rw [sm_s z0]
    omega
theorem nt_b {A G : Int → Int} (g : gOK A) (w : Int) : -30000 ≤ nt A G w ∧ nt A G w ≤ 30000 := by
  have := nt_b' (G := G) g w g.1.1 (Int.le_refl _)
  have := g.1
  unfold nt
  omega
theorem lw_r {A G : Int → Int} {n : Int} (h : 1 ≤ n) (h8 : n ≤ 8) : 0 ≤ fd (fun p b => if nt A G p < nt A G b then p else b) 0 1 n ∧ fd (fun p b => if nt A G p < nt A G b then p else b) 0 1 n < n := by
  refine fd_ind (P := fun z b => 0 ≤ b ∧ b < z) (by omega) ?_ h
  intro z b z0 z1 hb
  show 0 ≤ (if nt A G z < nt A G b then z else b) ∧ (if nt A G z < nt A G b then z else b) < z + 1
  split <;> omega
theorem dr_r {A G : Int → Int} {w n : Int} (h : 0 ≤ n) : (fd (fun k b => if G k = 0 ∧ A (480 + 3 * k) = w ∧ (b = -1 ∨ A (480 + (3 * b + 2)) < A (480 + (3 * k + 2))) then k else b) (-1) 0 n = -1 ∧ ∀ k, 0 ≤ k → k < n → ¬ (G k = 0 ∧ A (480 + 3 * k) = w)) ∨ (0 ≤ fd (fun k b => if G k = 0 ∧ A (480 + 3 * k) = w ∧ (b = -1 ∨ A (480 + (3 * b + 2)) < A (480 + (3 * k + 2))) then k else b) (-1) 0 n ∧ fd (fun k b => if G k = 0 ∧ A (480 + 3 * k) = w ∧ (b = -1 ∨ A (480 + (3 * b + 2)) < A (480 + (3 * k + 2))) then k else b) (-1) 0 n < n ∧ G (fd (fun k b => if G k = 0 ∧ A (480 + 3 * k) = w ∧ (b = -1 ∨ A (480 + (3 * b + 2)) < A (480 + (3 * k + 2))) then k else b) (-1) 0 n) = 0) := by
  refine fd_ind (P := fun z b => (b = -1 ∧ ∀ k, 0 ≤ k → k < z → ¬ (G k = 0 ∧ A (480 + 3 * k) = w)) ∨ (0 ≤ b ∧ b < z ∧ G b = 0)) (by left; exact ⟨rfl, fun k a b => by omega⟩) ?_ h
  intro z b z0 z1 hb
  show ((if G z = 0 ∧ A (480 + 3 * z) = w ∧ (b = -1 ∨ A (480 + (3 * b + 2)) < A (480 + (3 * z + 2))) then z else b) = -1 ∧ _) ∨ _
  by_cases c : G z = 0 ∧ A (480 + 3 * z) = w ∧ (b = -1 ∨ A (480 + (3 * b + 2)) < A (480 + (3 * z + 2)))
  · simp only [if_pos c]
    right
    exact ⟨z0, by omega, c.1⟩
  · simp only [if_neg c]
    rcases hb with ⟨e, k⟩ | ⟨a, b2, k⟩
    · left
      refine ⟨e, fun j j0 j1 => ?_⟩
      by_cases q : j = z
      · subst q
        intro q2
        exact c ⟨q2.1, q2.2, Or.inl e⟩
      · exact k j j0 (by omega)
    · right
      exact ⟨a, by omega, k⟩
theorem nt_dear {A G : Int → Int} (g : gOK A) {w : Int} (h : nt A G w < 0) : 0 ≤ dear A G w ∧ dear A G w < A 6 ∧ G (dear A G w) = 0 := by
  rcases dr_r (A := A) (G := G) (w := w) g.1.1 with ⟨_, k⟩ | k
  · exfalso
    have q : sm (fun _ => 0) (A 6) ≤ sm (gv A G w) (A 6) := by
      refine sm_le g.1.1 ?_
      intro z z0 z1
      have := g.2 z z0 z1
      have := k z z0 z1
      unfold gv
      repeat' split
      all_goals first | omega | (exfalso; exact this ⟨by assumption, by assumption⟩)
    rw [sm_zero g.1.1 (fun _ _ _ => rfl)] at q
    unfold nt at h
    omega
  · exact k
theorem nt_all {A G : Int → Int} (g : gOK A) (w : Int) (h : ∀ k, 0 ≤ k → k < A 6 → G k = 1) : nt A G w = 0 := by
  refine sm_zero g.1.1 ?_
  intro z z0 z1
  unfold gv
  rw [h z z0 z1]
  rfl
theorem nt_up {A G : Int → Int} (g : gOK A) {k : Int} (hk : 0 ≤ k ∧ k < A 6) (h0 : G k = 0) (w : Int) : nt A (up G k 1) w = nt A G w - (if A (480 + (3 * k + 1)) = w then A (480 + (3 * k + 2)) else if A (480 + 3 * k) = w then - A (480 + (3 * k + 2)) else 0) := by
  have e : nt A (up G k 1) w = sm (up (gv A G w) k 0) (A 6) := by
    refine sm_cg fun z z0 z1 => ?_
    by_cases c : z = k
    · rw [c, up_eq rfl]
      unfold gv
      rw [up_eq rfl, if_neg (by decide)]
    · rw [up_ne c]
      unfold gv
      rw [up_ne c]
  have e2 : gv A G w k = (if A (480 + (3 * k + 1)) = w then A (480 + (3 * k + 2)) else if A (480 + 3 * k) = w then - A (480 + (3 * k + 2)) else 0) := by
    unfold gv
    rw [if_pos h0]
  rw [e, sm_up hk.1 g.1.1, if_pos hk.2, e2]
  unfold nt
  omega
section MC
variable {d : Nat} {X : hX} {s : sg} {Q : Option Value → aH → Prop} {w : Int} {A G : Int → Int}
theorem m_allThere : Wp d 256 0 [.ref 122, .float 0] [] (hp X s) Q = Q none (hp X (u s 155 (fillF (s 155) 0 30))) := by
  have loop : ∀ i, 0 ≤ i → i ≤ 30 → Wp d 256 2 [.ref 122, .int (iI i)] [] (hp X (u s 155 (fillF (s 155) 0 i))) Q = Q none (hp X (u s 155 (fillF (s 155) 0 30))) := by
    refine lp0 ?_ ?_
    · intro i i0 i1 e
      rw [← e, S_256_2]
      simp (disch := first | omega | exact okF _ | exact okI _ | exact okR _ | assumption | exact okN) only [S_256_0, S_256_1, S_256_3, S_256_5, S_256_8, S_256_9, S_256_12, S_256_13, S_256_14, S_256_15, S_256_18, S_256_21, u_at, iI_zero, iI_31, iI_add, iI_sub, iI_mul, iI_neg, ↓iI_max, ↓iI_min, iI_div, emod_f, iI_lt, iI_le, iI_inj, iI_toInt, ↓ii01, ↓ii11, ↓bI_b, bI_0, bI_1, Kt_s, Kt_n, cat0, cat1, cat2, cat3, cat4, rfV, Nat.reduceAdd, Nat.reduceMul, Nat.reduceEqDiff, Int.reduceAdd, Int.reduceSub, Int.reduceMul, Int.reduceNeg, Int.reduceLT, Int.reduceLE, Int.reduceEq, Int.reduceDiv, ↓reduceIte, ↓ite_ww, ↓ite_wi, Br_n, Br_TW, Br_FW, Br_FP, Br_FB, nn_p, and_true, true_and, and_self, true_or, or_true, not_true_eq_false, not_false_eq_true, le_T, le_F, lt_T, lt_F, eq_T, eq_F, Int.add_zero, Int.zero_add, Int.one_mul, Int.mul_one, up_eq, up_ne, Int.add_assoc, Int.add_sub_cancel, Int.sub_zero, Int.sub_self, H_122, H_155, u_u, u_eq, fillF_s]
    · rw [S_256_2]
      simp (disch := first | omega | exact okF _ | exact okI _ | exact okR _ | assumption | exact okN) only [S_256_0, S_256_1, S_256_3, S_256_5, S_256_8, S_256_9, S_256_12, S_256_13, S_256_14, S_256_15, S_256_18, S_256_21, u_at, iI_zero, iI_31, iI_add, iI_sub, iI_mul, iI_neg, ↓iI_max, ↓iI_min, iI_div, emod_f, iI_lt, iI_le, iI_inj, iI_toInt, ↓ii01, ↓ii11, ↓bI_b, bI_0, bI_1, Kt_s, Kt_n, cat0, cat1, cat2, cat3, cat4, rfV, Nat.reduceAdd, Nat.reduceMul, Nat.reduceEqDiff, Int.reduceAdd, Int.reduceSub, Int.reduceMul, Int.reduceNeg, Int.reduceLT, Int.reduceLE, Int.reduceEq, Int.reduceDiv, ↓reduceIte, ↓ite_ww, ↓ite_wi, Br_n, Br_TW, Br_FW, Br_FP, Br_FB, nn_p, and_true, true_and, and_self, true_or, or_true, not_true_eq_false, not_false_eq_true, le_T, le_F, lt_T, lt_F, eq_T, eq_F, Int.add_zero, Int.zero_add, Int.one_mul, Int.mul_one, up_eq, up_ne, Int.add_assoc, Int.add_sub_cancel, Int.sub_zero, Int.sub_self]
  have l0 := loop 0 (by omega) (by omega)
  have e : u s 155 (s 155) = s := (u_id rfl).symm
  rw [fillF_0, e] at l0
  rw [← l0]
  simp (disch := first | omega | exact okF _ | exact okI _ | exact okR _ | assumption | exact okN) only [S_256_0, S_256_1, S_256_3, S_256_5, S_256_8, S_256_9, S_256_12, S_256_13, S_256_14, S_256_15, S_256_18, S_256_21, u_at, iI_zero, iI_31, iI_add, iI_sub, iI_mul, iI_neg, ↓iI_max, ↓iI_min, iI_div, emod_f, iI_lt, iI_le, iI_inj, iI_toInt, ↓ii01, ↓ii11, ↓bI_b, bI_0, bI_1, Kt_s, Kt_n, cat0, cat1, cat2, cat3, cat4, rfV, Nat.reduceAdd, Nat.reduceMul, Nat.reduceEqDiff, Int.reduceAdd, Int.reduceSub, Int.reduceMul, Int.reduceNeg, Int.reduceLT, Int.reduceLE, Int.reduceEq, Int.reduceDiv, ↓reduceIte, ↓ite_ww, ↓ite_wi, Br_n, Br_TW, Br_FW, Br_FP, Br_FB, nn_p, and_true, true_and, and_self, true_or, or_true, not_true_eq_false, not_false_eq_true, le_T, le_F, lt_T, lt_F, eq_T, eq_F, Int.add_zero, Int.zero_add, Int.one_mul, Int.mul_one, up_eq, up_ne, Int.add_assoc, Int.add_sub_cancel, Int.sub_zero, Int.sub_self]
theorem m_netOf (g : gOK A) (hA : s 123 = A) (h1 : g01 G) (hG : ∀ k, 0 ≤ k → k < 30 → s 155 k = G k) (hw : 0 ≤ w ∧ w < 8) : Wp d 255 0 [.ref 122, .int (iI w), .float 0, .float 0, .float 0] [] (hp X s) Q = Q (some (.int (iI (nt A G w)))) (hp X s) := by
  have g0 := g.1
  have loop : ∀ i, 0 ≤ i → i ≤ A 6 → ∀ v4, okO v4 = true → Wp d 255 4 [.ref 122, .int (iI w), .int (iI (sm (gv A G w) i)), .int (iI i), v4] [] (hp X s) Q = Q (some (.int (iI (nt A G w)))) (hp X s) := by
    refine lp0 ?_ ?_
    · intro i i0 i1 k v4 o4
      have gg := g.2 i i0 i1
      have e := sm_s (f := gv A G w) i0
      have eg := hG i i0 (by omega)
      rw [S_255_4]
      rcases h1 i i0 (by omega) with c | c
      · rw [c] at eg
        by_cases c1 : A (480 + (3 * i + 1)) = w
        · rw [gv, if_pos c, if_pos c1] at e
          rw [e] at k
          simp (disch := first | omega | exact okF _ | exact okI _ | exact okR _ | assumption | exact okN) only [S_255_0, S_255_1, S_255_2, S_255_3, S_255_5, S_255_6, S_255_9, S_255_11, S_255_12, S_255_15, S_255_18, S_255_19, S_255_20, S_255_21, S_255_22, S_255_24, S_255_25, S_255_28, S_255_29, S_255_30, S_255_33, S_255_34, S_255_35, S_255_38, S_255_40, S_255_41, S_255_42, S_255_43, S_255_44, S_255_47, S_255_48, S_255_51, S_255_53, S_255_54, S_255_55, S_255_56, S_255_59, S_255_60, S_255_63, S_255_65, S_255_66, S_255_67, S_255_70, S_255_71, S_255_74, S_255_76, S_255_77, S_255_78, S_255_79, S_255_80, S_255_83, S_255_84, S_255_85, S_255_86, S_255_89, S_255_92, S_255_93, u_at, iI_zero, iI_31, iI_add, iI_sub, iI_mul, iI_neg, ↓iI_max, ↓iI_min, iI_div, emod_f, iI_lt, iI_le, iI_inj, iI_toInt, ↓ii01, ↓ii11, ↓bI_b, bI_0, bI_1, Kt_s, Kt_n, cat0, cat1, cat2, cat3, cat4, rfV, Nat.reduceAdd, Nat.reduceMul, Nat.reduceEqDiff, Int.reduceAdd, Int.reduceSub, Int.reduceMul, Int.reduceNeg, Int.reduceLT, Int.reduceLE, Int.reduceEq, Int.reduceDiv, ↓reduceIte, ↓ite_ww, ↓ite_wi, Br_n, Br_TW, Br_FW, Br_FP, Br_FB, nn_p, and_true, true_and, and_self, true_or, or_true, not_true_eq_false, not_false_eq_true, le_T, le_F, lt_T, lt_F, eq_T, eq_F, Int.add_zero, Int.zero_add, Int.one_mul, Int.mul_one, up_eq, up_ne, Int.add_assoc, Int.add_sub_cancel, Int.sub_zero, Int.sub_self, H_122, H_123, H_155, hA, eg, c1]
          exact k _ (okI _)
        · by_cases c2 : A (480 + 3 * i) = w
          · rw [gv, if_pos c, if_neg c1, if_pos c2] at e
            rw [e] at k
            simp (disch := first | omega | exact okF _ | exact okI _ | exact okR _ | assumption | exact okN) only [S_255_0, S_255_1, S_255_2, S_255_3, S_255_5, S_255_6, S_255_9, S_255_11, S_255_12, S_255_15, S_255_18, S_255_19, S_255_20, S_255_21, S_255_22, S_255_24, S_255_25, S_255_28, S_255_29, S_255_30, S_255_33, S_255_34, S_255_35, S_255_38, S_255_40, S_255_41, S_255_42, S_255_43, S_255_44, S_255_47, S_255_48, S_255_51, S_255_53, S_255_54, S_255_55, S_255_56, S_255_59, S_255_60, S_255_63, S_255_65, S_255_66, S_255_67, S_255_70, S_255_71, S_255_74, S_255_76, S_255_77, S_255_78, S_255_79, S_255_80, S_255_83, S_255_84, S_255_85, S_255_86, S_255_89, S_255_92, S_255_93, u_at, iI_zero, iI_31, iI_add, iI_sub, iI_mul, iI_neg, ↓iI_max, ↓iI_min, iI_div, emod_f, iI_lt, iI_le, iI_inj, iI_toInt, ↓ii01, ↓ii11, ↓bI_b, bI_0, bI_1, Kt_s, Kt_n, cat0, cat1, cat2, cat3, cat4, rfV, Nat.reduceAdd, Nat.reduceMul, Nat.reduceEqDiff, Int.reduceAdd, Int.reduceSub, Int.reduceMul, Int.reduceNeg, Int.reduceLT, Int.reduceLE, Int.reduceEq, Int.reduceDiv, ↓reduceIte, ↓ite_ww, ↓ite_wi, Br_n, Br_TW, Br_FW, Br_FP, Br_FB, nn_p, and_true, true_and, and_self, true_or, or_true, not_true_eq_false, not_false_eq_true, le_T, le_F, lt_T, lt_F, eq_T, eq_F, Int.add_zero, Int.zero_add, Int.one_mul, Int.mul_one, up_eq, up_ne, Int.add_assoc, Int.add_sub_cancel, Int.sub_zero, Int.sub_self, H_122, H_123, H_155, hA, eg, c1, c2]
            exact k _ (okI _)
          · rw [gv, if_pos c, if_neg c1, if_neg c2] at e
            rw [e, Int.add_zero] at k
            simp (disch := first | omega | exact okF _ | exact okI _ | exact okR _ | assumption | exact okN) only [S_255_0, S_255_1, S_255_2, S_255_3, S_255_5, S_255_6, S_255_9, S_255_11, S_255_12, S_255_15, S_255_18, S_255_19, S_255_20, S_255_21, S_255_22, S_255_24, S_255_25, S_255_28, S_255_29, S_255_30, S_255_33, S_255_34, S_255_35, S_255_38, S_255_40, S_255_41, S_255_42, S_255_43, S_255_44, S_255_47, S_255_48, S_255_51, S_255_53, S_255_54, S_255_55, S_255_56, S_255_59, S_255_60, S_255_63, S_255_65, S_255_66, S_255_67, S_255_70, S_255_71, S_255_74, S_255_76, S_255_77, S_255_78, S_255_79, S_255_80, S_255_83, S_255_84, S_255_85, S_255_86, S_255_89, S_255_92, S_255_93, u_at, iI_zero, iI_31, iI_add, iI_sub, iI_mul, iI_neg, ↓iI_max, ↓iI_min, iI_div, emod_f, iI_lt, iI_le, iI_inj, iI_toInt, ↓ii01, ↓ii11, ↓bI_b, bI_0, bI_1, Kt_s, Kt_n, cat0, cat1, cat2, cat3, cat4, rfV, Nat.reduceAdd, Nat.reduceMul, Nat.reduceEqDiff, Int.reduceAdd, Int.reduceSub, Int.reduceMul, Int.reduceNeg, Int.reduceLT, Int.reduceLE, Int.reduceEq, Int.reduceDiv, ↓reduceIte, ↓ite_ww, ↓ite_wi, Br_n, Br_TW, Br_FW, Br_FP, Br_FB, nn_p, and_true, true_and, and_self, true_or, or_true, not_true_eq_false, not_false_eq_true, le_T, le_F, lt_T, lt_F, eq_T, eq_F, Int.add_zero, Int.zero_add, Int.one_mul, Int.mul_one, up_eq, up_ne, Int.add_assoc, Int.add_sub_cancel, Int.sub_zero, Int.sub_self, H_122, H_123, H_155, hA, eg, c1, c2]
            exact k _ (okI _)
      · rw [c] at eg
        rw [gv, if_neg (by omega), Int.add_zero] at e
        rw [e] at k
        simp (disch := first | omega | exact okF _ | exact okI _ | exact okR _ | assumption | exact okN) only [S_255_0, S_255_1, S_255_2, S_255_3, S_255_5, S_255_6, S_255_9, S_255_11, S_255_12, S_255_15, S_255_18, S_255_19, S_255_20, S_255_21, S_255_22, S_255_24, S_255_25, S_255_28, S_255_29, S_255_30, S_255_33, S_255_34, S_255_35, S_255_38, S_255_40, S_255_41, S_255_42, S_255_43, S_255_44, S_255_47, S_255_48, S_255_51, S_255_53, S_255_54, S_255_55, S_255_56, S_255_59, S_255_60, S_255_63, S_255_65, S_255_66, S_255_67, S_255_70, S_255_71, S_255_74, S_255_76, S_255_77, S_255_78, S_255_79, S_255_80, S_255_83, S_255_84, S_255_85, S_255_86, S_255_89, S_255_92, S_255_93, u_at, iI_zero, iI_31, iI_add, iI_sub, iI_mul, iI_neg, ↓iI_max, ↓iI_min, iI_div, emod_f, iI_lt, iI_le, iI_inj, iI_toInt, ↓ii01, ↓ii11, ↓bI_b, bI_0, bI_1, Kt_s, Kt_n, cat0, cat1, cat2, cat3, cat4, rfV, Nat.reduceAdd, Nat.reduceMul, Nat.reduceEqDiff, Int.reduceAdd, Int.reduceSub, Int.reduceMul, Int.reduceNeg, Int.reduceLT, Int.reduceLE, Int.reduceEq, Int.reduceDiv, ↓reduceIte, ↓ite_ww, ↓ite_wi, Br_n, Br_TW, Br_FW, Br_FP, Br_FB, nn_p, and_true, true_and, and_self, true_or, or_true, not_true_eq_false, not_false_eq_true, le_T, le_F, lt_T, lt_F, eq_T, eq_F, Int.add_zero, Int.zero_add, Int.one_mul, Int.mul_one, up_eq, up_ne, Int.add_assoc, Int.add_sub_cancel, Int.sub_zero, Int.sub_self, H_122, H_123, H_155, hA, eg]
        exact k _ (okI _)
    · intro v4 o4
      rw [S_255_4]
      simp (disch := first | omega | exact okF _ | exact okI _ | exact okR _ | assumption | exact okN) only [S_255_0, S_255_1, S_255_2, S_255_3, S_255_5, S_255_6, S_255_9, S_255_11, S_255_12, S_255_15, S_255_18, S_255_19, S_255_20, S_255_21, S_255_22, S_255_24, S_255_25, S_255_28, S_255_29, S_255_30, S_255_33, S_255_34, S_255_35, S_255_38, S_255_40, S_255_41, S_255_42, S_255_43, S_255_44, S_255_47, S_255_48, S_255_51, S_255_53, S_255_54, S_255_55, S_255_56, S_255_59, S_255_60, S_255_63, S_255_65, S_255_66, S_255_67, S_255_70, S_255_71, S_255_74, S_255_76, S_255_77, S_255_78, S_255_79, S_255_80, S_255_83, S_255_84, S_255_85, S_255_86, S_255_89, S_255_92, S_255_93, u_at, iI_zero, iI_31, iI_add, iI_sub, iI_mul, iI_neg, ↓iI_max, ↓iI_min, iI_div, emod_f, iI_lt, iI_le, iI_inj, iI_toInt, ↓ii01, ↓ii11, ↓bI_b, bI_0, bI_1, Kt_s, Kt_n, cat0, cat1, cat2, cat3, cat4, rfV, Nat.reduceAdd, Nat.reduceMul, Nat.reduceEqDiff, Int.reduceAdd, Int.reduceSub, Int.reduceMul, Int.reduceNeg, Int.reduceLT, Int.reduceLE, Int.reduceEq, Int.reduceDiv, ↓reduceIte, ↓ite_ww, ↓ite_wi, Br_n, Br_TW, Br_FW, Br_FP, Br_FB, nn_p, and_true, true_and, and_self, true_or, or_true, not_true_eq_false, not_false_eq_true, le_T, le_F, lt_T, lt_F, eq_T, eq_F, Int.add_zero, Int.zero_add, Int.one_mul, Int.mul_one, up_eq, up_ne, Int.add_assoc, Int.add_sub_cancel, Int.sub_zero, Int.sub_self, H_122, H_123, hA]
      rfl
  have l0 := loop 0 (by omega) g0.1
  rw [sm_0] at l0
  rw [← l0 (.float 0) rfl]
  simp (disch := first | omega | exact okF _ | exact okI _ | exact okR _ | assumption | exact okN) only [S_255_0, S_255_1, S_255_2, S_255_3, S_255_5, S_255_6, S_255_9, S_255_11, S_255_12, S_255_15, S_255_18, S_255_19, S_255_20, S_255_21, S_255_22, S_255_24, S_255_25, S_255_28, S_255_29, S_255_30, S_255_33, S_255_34, S_255_35, S_255_38, S_255_40, S_255_41, S_255_42, S_255_43, S_255_44, S_255_47, S_255_48, S_255_51, S_255_53, S_255_54, S_255_55, S_255_56, S_255_59, S_255_60, S_255_63, S_255_65, S_255_66, S_255_67, S_255_70, S_255_71, S_255_74, S_255_76, S_255_77, S_255_78, S_255_79, S_255_80, S_255_83, S_255_84, S_255_85, S_255_86, S_255_89, S_255_92, S_255_93, u_at, iI_zero, iI_31, iI_add, iI_sub, iI_mul, iI_neg, ↓iI_max, ↓iI_min, iI_div, emod_f, iI_lt, iI_le, iI_inj, iI_toInt, ↓ii01, ↓ii11, ↓bI_b, bI_0, bI_1, Kt_s, Kt_n, cat0, cat1, cat2, cat3, cat4, rfV, Nat.reduceAdd, Nat.reduceMul, Nat.reduceEqDiff, Int.reduceAdd, Int.reduceSub, Int.reduceMul, Int.reduceNeg, Int.reduceLT, Int.reduceLE, Int.reduceEq, Int.reduceDiv, ↓reduceIte, ↓ite_ww, ↓ite_wi, Br_n, Br_TW, Br_FW, Br_FP, Br_FB, nn_p, and_true, true_and, and_self, true_or, or_true, not_true_eq_false, not_false_eq_true, le_T, le_F, lt_T, lt_F, eq_T, eq_F, Int.add_zero, Int.zero_add, Int.one_mul, Int.mul_one, up_eq, up_ne, Int.add_assoc, Int.add_sub_cancel, Int.sub_zero, Int.sub_self]
theorem m_lowest (g : gOK A) (hA : s 123 = A) (h1 : g01 G) (hG : ∀ k, 0 ≤ k → k < 30 → s 155 k = G k) : Wp (d + 1) 258 0 [.ref 122, .float 0, .float 0] [] (hp X s) Q = Q (some (.int (iI (lwst A G)))) (hp X s) := by
  have loop : ∀ i, 1 ≤ i → i ≤ 8 → Wp (d + 1) 258 4 [.ref 122, .int (iI (fd (fun p b => if nt A G p < nt A G b then p else b) 0 1 i)), .int (iI i)] [] (hp X s) Q = Q (some (.int (iI (lwst A G)))) (hp X s) := by
    refine lp0 ?_ ?_
    · intro i i0 i1 k
      have r := lw_r (A := A) (G := G) i0 (by omega)
      have b1 := nt_b (G := G) g i
      have b2 := nt_b (G := G) g (fd (fun p b => if nt A G p < nt A G b then p else b) 0 1 i)
      have e := fd_s (g := fun p b => if nt A G p < nt A G b then p else b) (s := 0) i0
      rw [S_258_4]
      by_cases c : nt A G i < nt A G (fd (fun p b => if nt A G p < nt A G b then p else b) 0 1 i)
      · simp only [if_pos c] at e
        rw [e] at k
        simp (disch := first | omega | exact okF _ | exact okI _ | exact okR _ | assumption | exact okN) only [S_258_0, S_258_1, S_258_2, S_258_3, S_258_5, S_258_7, S_258_10, S_258_11, S_258_12, S_258_15, S_258_16, S_258_17, S_258_20, S_258_23, S_258_24, S_258_27, S_258_28, S_258_29, S_258_32, S_258_35, S_258_36, u_at, iI_zero, iI_31, iI_add, iI_sub, iI_mul, iI_neg, ↓iI_max, ↓iI_min, iI_div, emod_f, iI_lt, iI_le, iI_inj, iI_toInt, ↓ii01, ↓ii11, ↓bI_b, bI_0, bI_1, Kt_s, Kt_n, cat0, cat1, cat2, cat3, cat4, rfV, Nat.reduceAdd, Nat.reduceMul, Nat.reduceEqDiff, Int.reduceAdd, Int.reduceSub, Int.reduceMul, Int.reduceNeg, Int.reduceLT, Int.reduceLE, Int.reduceEq, Int.reduceDiv, ↓reduceIte, ↓ite_ww, ↓ite_wi, Br_n, Br_TW, Br_FW, Br_FP, Br_FB, nn_p, and_true, true_and, and_self, true_or, or_true, not_true_eq_false, not_false_eq_true, le_T, le_F, lt_T, lt_F, eq_T, eq_F, Int.add_zero, Int.zero_add, Int.one_mul, Int.mul_one, up_eq, up_ne, Int.add_assoc, Int.add_sub_cancel, Int.sub_zero, Int.sub_self, H_122, m_netOf g hA h1 hG]
        exact k
      · simp only [if_neg c] at e
        rw [e] at k
        simp (disch := first | omega | exact okF _ | exact okI _ | exact okR _ | assumption | exact okN) only [S_258_0, S_258_1, S_258_2, S_258_3, S_258_5, S_258_7, S_258_10, S_258_11, S_258_12, S_258_15, S_258_16, S_258_17, S_258_20, S_258_23, S_258_24, S_258_27, S_258_28, S_258_29, S_258_32, S_258_35, S_258_36, u_at, iI_zero, iI_31, iI_add, iI_sub, iI_mul, iI_neg, ↓iI_max, ↓iI_min, iI_div, emod_f, iI_lt, iI_le, iI_inj, iI_toInt, ↓ii01, ↓ii11, ↓bI_b, bI_0, bI_1, Kt_s, Kt_n, cat0, cat1, cat2, cat3, cat4, rfV, Nat.reduceAdd, Nat.reduceMul, Nat.reduceEqDiff, Int.reduceAdd, Int.reduceSub, Int.reduceMul, Int.reduceNeg, Int.reduceLT, Int.reduceLE, Int.reduceEq, Int.reduceDiv, ↓reduceIte, ↓ite_ww, ↓ite_wi, Br_n, Br_TW, Br_FW, Br_FP, Br_FB, nn_p, and_true, true_and, and_self, true_or, or_true, not_true_eq_false, not_false_eq_true, le_T, le_F, lt_T, lt_F, eq_T, eq_F, Int.add_zero, Int.zero_add, Int.one_mul, Int.mul_one, up_eq, up_ne, Int.add_assoc, Int.add_sub_cancel, Int.sub_zero, Int.sub_self, H_122, m_netOf g hA h1 hG]
        exact k
    · rw [S_258_4]
      simp (disch := first | omega | exact okF _ | exact okI _ | exact okR _ | assumption | exact okN) only [S_258_0, S_258_1, S_258_2, S_258_3, S_258_5, S_258_7, S_258_10, S_258_11, S_258_12, S_258_15, S_258_16, S_258_17, S_258_20, S_258_23, S_258_24, S_258_27, S_258_28, S_258_29, S_258_32, S_258_35, S_258_36, u_at, iI_zero, iI_31, iI_add, iI_sub, iI_mul, iI_neg, ↓iI_max, ↓iI_min, iI_div, emod_f, iI_lt, iI_le, iI_inj, iI_toInt, ↓ii01, ↓ii11, ↓bI_b, bI_0, bI_1, Kt_s, Kt_n, cat0, cat1, cat2, cat3, cat4, rfV, Nat.reduceAdd, Nat.reduceMul, Nat.reduceEqDiff, Int.reduceAdd, Int.reduceSub, Int.reduceMul, Int.reduceNeg, Int.reduceLT, Int.reduceLE, Int.reduceEq, Int.reduceDiv, ↓reduceIte, ↓ite_ww, ↓ite_wi, Br_n, Br_TW, Br_FW, Br_FP, Br_FB, nn_p, and_true, true_and, and_self, true_or, or_true, not_true_eq_false, not_false_eq_true, le_T, le_F, lt_T, lt_F, eq_T, eq_F, Int.add_zero, Int.zero_add, Int.one_mul, Int.mul_one, up_eq, up_ne, Int.add_assoc, Int.add_sub_cancel, Int.sub_zero, Int.sub_self]
      rfl
  have l0 := loop 1 (by omega) (by omega)
  rw [fd_0 (by omega)] at l0
  rw [← l0]
  simp (disch := first | omega | exact okF _ | exact okI _ | exact okR _ | assumption | exact okN) only [S_258_0, S_258_1, S_258_2, S_258_3, S_258_5, S_258_7, S_258_10, S_258_11, S_258_12, S_258_15, S_258_16, S_258_17, S_258_20, S_258_23, S_258_24, S_258_27, S_258_28, S_258_29, S_258_32, S_258_35, S_258_36, u_at, iI_zero, iI_31, iI_add, iI_sub, iI_mul, iI_neg, ↓iI_max, ↓iI_min, iI_div, emod_f, iI_lt, iI_le, iI_inj, iI_toInt, ↓ii01, ↓ii11, ↓bI_b, bI_0, bI_1, Kt_s, Kt_n, cat0, cat1, cat2, cat3, cat4, rfV, Nat.reduceAdd, Nat.reduceMul, Nat.reduceEqDiff, Int.reduceAdd, Int.reduceSub, Int.reduceMul, Int.reduceNeg, Int.reduceLT, Int.reduceLE, Int.reduceEq, Int.reduceDiv, ↓reduceIte, ↓ite_ww, ↓ite_wi, Br_n, Br_TW, Br_FW, Br_FP, Br_FB, nn_p, and_true, true_and, and_self, true_or, or_true, not_true_eq_false, not_false_eq_true, le_T, le_F, lt_T, lt_F, eq_T, eq_F, Int.add_zero, Int.zero_add, Int.one_mul, Int.mul_one, up_eq, up_ne, Int.add_assoc, Int.add_sub_cancel, Int.sub_zero, Int.sub_self]
theorem m_net (g : gOK A) (hA : s 123 = A) (hw : (-2147483648 ≤ w ∧ w < 2147483648)) (k : ∀ s', Fr [155] s s' → Q (some (.int (iI (if 0 ≤ w ∧ w ≤ 7 then nt A (fun _ => 0) w else -1000000)))) (hp X s')) : Wp (d + 1) 257 0 [.ref 122, .int (iI w)] [] (hp X s) Q := by
  have h0 : g01 (fun _ => 0) := fun _ _ _ => Or.inl rfl
  by_cases c : 0 ≤ w ∧ w ≤ 7
  · rw [if_pos c] at k
    have k := k (u s 155 (fillF (s 155) 0 30)) (by repeat (first | exact Fr.rf _ | refine Fr.u ?_ rfl))
    have no := fun (d : Nat) (Q : Option Value → aH → Prop) => m_netOf (d := d) (X := X) (Q := Q) (s := u s 155 (fillF (s 155) 0 30)) (w := w) g hA h0 (fun k a b => by rw [u_eq, fillF_i ⟨a, b⟩]) (by omega)
    repeat' (first | (with_reducible refine Br_i ?_ ?_ <;> (intro hbr; first | exact False.elim hbr | skip)) | (with_reducible refine Wl_i ?_) | (simp (disch := first | omega | exact okF _ | exact okI _ | exact okR _ | assumption | exact okN) only [u_at, iI_zero, iI_31, iI_add, iI_sub, iI_mul, iI_neg, ↓iI_max, ↓iI_min, iI_div, emod_f, iI_lt, iI_le, iI_inj, iI_toInt, ↓ii01, ↓ii11, ↓bI_b, bI_0, bI_1, Kt_s, Kt_n, cat0, cat1, cat2, cat3, cat4, rfV, Nat.reduceAdd, Nat.reduceMul, Nat.reduceEqDiff, Int.reduceAdd, Int.reduceSub, Int.reduceMul, Int.reduceNeg, Int.reduceLT, Int.reduceLE, Int.reduceEq, Int.reduceDiv, ↓reduceIte, ↓ite_ww, ↓ite_wi, Br_n, Br_TW, Br_FW, Br_FP, Br_FB, nn_p, and_true, true_and, and_self, true_or, or_true, not_true_eq_false, not_false_eq_true, le_T, le_F, lt_T, lt_F, eq_T, eq_F, Int.add_zero, Int.zero_add, Int.one_mul, Int.mul_one, up_eq, up_ne, Int.add_assoc, Int.add_sub_cancel, Int.sub_zero, Int.sub_self, S_257_0, S_257_1, S_257_2, S_257_4, S_257_7, S_257_10, S_257_13, S_257_14, S_257_15, S_257_18, S_257_19, S_257_20, S_257_23, H_122, m_in, m_allThere, no]))
    exact k
  · rw [if_neg c] at k
    have k := k s (Fr.rf s)
    repeat' (first | (with_reducible refine Br_i ?_ ?_ <;> (intro hbr; first | exact False.elim hbr | skip)) | (with_reducible refine Wl_i ?_) | (simp (disch := first | omega | exact okF _ | exact okI _ | exact okR _ | assumption | exact okN) only [u_at, iI_zero, iI_31, iI_add, iI_sub, iI_mul, iI_neg, ↓iI_max, ↓iI_min, iI_div, emod_f, iI_lt, iI_le, iI_inj, iI_toInt, ↓ii01, ↓ii11, ↓bI_b, bI_0, bI_1, Kt_s, Kt_n, cat0, cat1, cat2, cat3, cat4, rfV, Nat.reduceAdd, Nat.reduceMul, Nat.reduceEqDiff, Int.reduceAdd, Int.reduceSub, Int.reduceMul, Int.reduceNeg, Int.reduceLT, Int.reduceLE, Int.reduceEq, Int.reduceDiv, ↓reduceIte, ↓ite_ww, ↓ite_wi, Br_n, Br_TW, Br_FW, Br_FP, Br_FB, nn_p, and_true, true_and, and_self, true_or, or_true, not_true_eq_false, not_false_eq_true, le_T, le_F, lt_T, lt_F, eq_T, eq_F, Int.add_zero, Int.zero_add, Int.one_mul, Int.mul_one, up_eq, up_ne, Int.add_assoc, Int.add_sub_cancel, Int.sub_zero, Int.sub_self, S_257_0, S_257_1, S_257_2, S_257_4, S_257_7, S_257_10, S_257_13, S_257_14, S_257_15, S_257_18, S_257_19, S_257_20, S_257_23, m_in]))
    all_goals first | exact k | (exfalso; omega)
theorem m_steady (g : gOK A) (hA : s 123 = A) (k : ∀ s', Fr [155] s s' → Q (some (.int (iI (stdy A (A 6).toNat (fun _ => 0) 0)))) (hp X s')) : Wp (d + 2) 259 0 [.ref 122, .float 0, .float 0, .float 0, .float 0] [] (hp X s) Q := by
  have g0 := g.1
  have loop : ∀ (f : Nat) (G : Int → Int) (t : Int) (m1 : sg), Fr [155] s m1 → g01 G → (∀ k, 0 ≤ k → k < 30 → m1 155 k = G k) → sm G (A 6) = t → (f : Int) = A 6 - t → (stdy A f G t = stdy A (A 6).toNat (fun _ => 0) 0) → ∀ v3 v4, okO v3 = true → okO v4 = true → Wp (d + 2) 259 11 [.ref 122, .int (iI t), .int (iI (lwst A G)), v3, v4] [] (hp X m1) Q := by
    intro f
    induction f with
    | zero =>
      intro G t m1 hf h1 hG hs ht he v3 v4 o3 o4
      have hA1 : m1 123 = A := (hf.g 123 rfl).trans hA
      have z := nt_all (G := G) g (lwst A G) (fun k k0 k1 => by
        have := sm_full (f := G) (b := k) g0.1 (fun z z0 z1 => by have := h1 z z0 (by omega); omega) (by omega) k0 k1
        have := h1 k k0 (by omega)
        omega)
      have lr2 : 0 ≤ lwst A G ∧ lwst A G < 8 := lw_r (A := A) (G := G) (n := 8) (by omega) (by omega)
      rw [← he] at k
      have k := k m1 hf
      rw [S_259_11]
      repeat' (first | (with_reducible refine Br_i ?_ ?_ <;> (intro hbr; first | exact False.elim hbr | skip)) | (with_reducible refine Wl_i ?_) | (simp (disch := first | omega | exact okF _ | exact okI _ | exact okR _ | assumption | exact okN) only [u_at, iI_zero, iI_31, iI_add, iI_sub, iI_mul, iI_neg, ↓iI_max, ↓iI_min, iI_div, emod_f, iI_lt, iI_le, iI_inj, iI_toInt, ↓ii01, ↓ii11, ↓bI_b, bI_0, bI_1, Kt_s, Kt_n, cat0, cat1, cat2, cat3, cat4, rfV, Nat.reduceAdd, Nat.reduceMul, Nat.reduceEqDiff, Int.reduceAdd, Int.reduceSub, Int.reduceMul, Int.reduceNeg, Int.reduceLT, Int.reduceLE, Int.reduceEq, Int.reduceDiv, ↓reduceIte, ↓ite_ww, ↓ite_wi, Br_n, Br_TW, Br_FW, Br_FP, Br_FB, nn_p, and_true, true_and, and_self, true_or, or_true, not_true_eq_false, not_false_eq_true, le_T, le_F, lt_T, lt_F, eq_T, eq_F, Int.add_zero, Int.zero_add, Int.one_mul, Int.mul_one, up_eq, up_ne, Int.add_assoc, Int.add_sub_cancel, Int.sub_zero, Int.sub_self, S_259_0, S_259_1, S_259_4, S_259_5, S_259_6, S_259_7, S_259_10, S_259_12, S_259_13, S_259_16, S_259_19, S_259_20, S_259_21, S_259_22, S_259_24, S_259_26, S_259_27, S_259_30, S_259_32, S_259_33, S_259_36, S_259_37, S_259_40, S_259_42, S_259_43, S_259_46, S_259_47, S_259_50, S_259_53, S_259_54, S_259_56, S_259_57, S_259_58, S_259_59, S_259_60, S_259_63, S_259_64, S_259_65, S_259_68, S_259_69, S_259_72, S_259_75, S_259_76, S_259_78, S_259_79, S_259_80, S_259_81, S_259_82, S_259_83, S_259_84, S_259_87, S_259_90, S_259_91, S_259_92, S_259_93, S_259_94, S_259_95, S_259_96, S_259_97, S_259_100, S_259_102, S_259_103, S_259_106, S_259_109, S_259_110, S_259_113, S_259_114, S_259_115, S_259_116, S_259_119, S_259_120, S_259_123, S_259_124, S_259_127, S_259_128, H_122, m_netOf g hA1 h1 hG, z]))
      exact k
    | succ f ih =>
      intro G t m1 hf h1 hG hs ht he v3 v4 o3 o4
      have hA1 : m1 123 = A := (hf.g 123 rfl).trans hA
      have lr2 : 0 ≤ lwst A G ∧ lwst A G < 8 := lw_r (A := A) (G := G) (n := 8) (by omega) (by omega)
      have b := nt_b (G := G) g (lwst A G)
      rw [S_259_11]
      by_cases c : 0 ≤ nt A G (lwst A G)
      · rw [stdy, if_pos c] at he
        rw [← he] at k
        have k := k m1 hf
        repeat' (first | (with_reducible refine Br_i ?_ ?_ <;> (intro hbr; first | exact False.elim hbr | skip)) | (with_reducible refine Wl_i ?_) | (simp (disch := first | omega | exact okF _ | exact okI _ | exact okR _ | assumption | exact okN) only [u_at, iI_zero, iI_31, iI_add, iI_sub, iI_mul, iI_neg, ↓iI_max, ↓iI_min, iI_div, emod_f, iI_lt, iI_le, iI_inj, iI_toInt, ↓ii01, ↓ii11, ↓bI_b, bI_0, bI_1, Kt_s, Kt_n, cat0, cat1, cat2, cat3, cat4, rfV, Nat.reduceAdd, Nat.reduceMul, Nat.reduceEqDiff, Int.reduceAdd, Int.reduceSub, Int.reduceMul, Int.reduceNeg, Int.reduceLT, Int.reduceLE, Int.reduceEq, Int.reduceDiv, ↓reduceIte, ↓ite_ww, ↓ite_wi, Br_n, Br_TW, Br_FW, Br_FP, Br_FB, nn_p, and_true, true_and, and_self, true_or, or_true, not_true_eq_false, not_false_eq_true, le_T, le_F, lt_T, lt_F, eq_T, eq_F, Int.add_zero, Int.zero_add, Int.one_mul, Int.mul_one, up_eq, up_ne, Int.add_assoc, Int.add_sub_cancel, Int.sub_zero, Int.sub_self, S_259_0, S_259_1, S_259_4, S_259_5, S_259_6, S_259_7, S_259_10, S_259_12, S_259_13, S_259_16, S_259_19, S_259_20, S_259_21, S_259_22, S_259_24, S_259_26, S_259_27, S_259_30, S_259_32, S_259_33, S_259_36, S_259_37, S_259_40, S_259_42, S_259_43, S_259_46, S_259_47, S_259_50, S_259_53, S_259_54, S_259_56, S_259_57, S_259_58, S_259_59, S_259_60, S_259_63, S_259_64, S_259_65, S_259_68, S_259_69, S_259_72, S_259_75, S_259_76, S_259_78, S_259_79, S_259_80, S_259_81, S_259_82, S_259_83, S_259_84, S_259_87, S_259_90, S_259_91, S_259_92, S_259_93, S_259_94, S_259_95, S_259_96, S_259_97, S_259_100, S_259_102, S_259_103, S_259_106, S_259_109, S_259_110, S_259_113, S_259_114, S_259_115, S_259_116, S_259_119, S_259_120, S_259_123, S_259_124, S_259_127, S_259_128, H_122, m_netOf g hA1 h1 hG]))
        exact k
      · rw [stdy, if_neg c] at he
        have dd := nt_dear g (show nt A G (lwst A G) < 0 by omega)
        have inner : ∀ i, 0 ≤ i → i ≤ A 6 → Wp (d + 2) 259 24 [.ref 122, .int (iI t), .int (iI (lwst A G)), .int (iI (fd (fun k b => if G k = 0 ∧ A (480 + 3 * k) = lwst A G ∧ (b = -1 ∨ A (480 + (3 * b + 2)) < A (480 + (3 * k + 2))) then k else b) (-1) 0 i)), .int (iI i)] [] (hp X m1) Q := by
          refine lp0 ?_ ?_
          · intro i i0 i1 k2
            have gg := g.2 i i0 i1
            have gi := hG i i0 (by omega)
            have dr := dr_r (A := A) (G := G) (w := lwst A G) i0
            have e := fd_s (g := fun k b => if G k = 0 ∧ A (480 + 3 * k) = lwst A G ∧ (b = -1 ∨ A (480 + (3 * b + 2)) < A (480 + (3 * k + 2))) then k else b) (s := -1) i0
            generalize fd (fun k b => if G k = 0 ∧ A (480 + 3 * k) = lwst A G ∧ (b = -1 ∨ A (480 + (3 * b + 2)) < A (480 + (3 * k + 2))) then k else b) (-1) 0 i = bb at e k2 dr ⊢
            rw [e] at k2
            rw [S_259_24]
            rcases h1 i i0 (by omega) with c0 | c0
            · rw [c0] at gi
              by_cases c1 : A (480 + 3 * i) = lwst A G
              · by_cases c2 : bb = -1
                · rw [if_pos ⟨c0, c1, Or.inl c2⟩] at k2
                  repeat' (first | (with_reducible refine Br_i ?_ ?_ <;> (intro hbr; first | exact False.elim hbr | skip)) | (with_reducible refine Wl_i ?_) | (simp (disch := first | omega | exact okF _ | exact okI _ | exact okR _ | assumption | exact okN) only [u_at, iI_zero, iI_31, iI_add, iI_sub, iI_mul, iI_neg, ↓iI_max, ↓iI_min, iI_div, emod_f, iI_lt, iI_le, iI_inj, iI_toInt, ↓ii01, ↓ii11, ↓bI_b, bI_0, bI_1, Kt_s, Kt_n, cat0, cat1, cat2, cat3, cat4, rfV, Nat.reduceAdd, Nat.reduceMul, Nat.reduceEqDiff, Int.reduceAdd, Int.reduceSub, Int.reduceMul, Int.reduceNeg, Int.reduceLT, Int.reduceLE, Int.reduceEq, Int.reduceDiv, ↓reduceIte, ↓ite_ww, ↓ite_wi, Br_n, Br_TW, Br_FW, Br_FP, Br_FB, nn_p, and_true, true_and, and_self, true_or, or_true, not_true_eq_false, not_false_eq_true, le_T, le_F, lt_T, lt_F, eq_T, eq_F, Int.add_zero, Int.zero_add, Int.one_mul, Int.mul_one, up_eq, up_ne, Int.add_assoc, Int.add_sub_cancel, Int.sub_zero, Int.sub_self, S_259_0, S_259_1, S_259_4, S_259_5, S_259_6, S_259_7, S_259_10, S_259_11, S_259_12, S_259_13, S_259_16, S_259_19, S_259_20, S_259_21, S_259_22, S_259_26, S_259_27, S_259_30, S_259_32, S_259_33, S_259_36, S_259_37, S_259_40, S_259_42, S_259_43, S_259_46, S_259_47, S_259_50, S_259_53, S_259_54, S_259_56, S_259_57, S_259_58, S_259_59, S_259_60, S_259_63, S_259_64, S_259_65, S_259_68, S_259_69, S_259_72, S_259_75, S_259_76, S_259_78, S_259_79, S_259_80, S_259_81, S_259_82, S_259_83, S_259_84, S_259_87, S_259_90, S_259_91, S_259_92, S_259_93, S_259_94, S_259_95, S_259_96, S_259_97, S_259_100, S_259_102, S_259_103, S_259_106, S_259_109, S_259_110, S_259_113, S_259_114, S_259_115, S_259_116, S_259_119, S_259_120, S_259_123, S_259_124, S_259_127, S_259_128, H_122, H_123, H_155, hA1, gi, c1, c2]))
                  exact k2
                · have gb := g.2 bb (by omega) (by omega)
                  by_cases c3 : A (480 + (3 * bb + 2)) < A (480 + (3 * i + 2))
                  · rw [if_pos ⟨c0, c1, Or.inr c3⟩] at k2
                    repeat' (first | (with_reducible refine Br_i ?_ ?_ <;> (intro hbr; first | exact False.elim hbr | skip)) | (with_reducible refine Wl_i ?_) | (simp (disch := first | omega | exact okF _ | exact okI _ | exact okR _ | assumption | exact okN) only [u_at, iI_zero, iI_31, iI_add, iI_sub, iI_mul, iI_neg, ↓iI_max, ↓iI_min, iI_div, emod_f, iI_lt, iI_le, iI_inj, iI_toInt, ↓ii01, ↓ii11, ↓bI_b, bI_0, bI_1, Kt_s, Kt_n, cat0, cat1, cat2, cat3, cat4, rfV, Nat.reduceAdd, Nat.reduceMul, Nat.reduceEqDiff, Int.reduceAdd, Int.reduceSub, Int.reduceMul, Int.reduceNeg, Int.reduceLT, Int.reduceLE, Int.reduceEq, Int.reduceDiv, ↓reduceIte, ↓ite_ww, ↓ite_wi, Br_n, Br_TW, Br_FW, Br_FP, Br_FB, nn_p, and_true, true_and, and_self, true_or, or_true, not_true_eq_false, not_false_eq_true, le_T, le_F, lt_T, lt_F, eq_T, eq_F, Int.add_zero, Int.zero_add, Int.one_mul, Int.mul_one, up_eq, up_ne, Int.add_assoc, Int.add_sub_cancel, Int.sub_zero, Int.sub_self, S_259_0, S_259_1, S_259_4, S_259_5, S_259_6, S_259_7, S_259_10, S_259_11, S_259_12, S_259_13, S_259_16, S_259_19, S_259_20, S_259_21, S_259_22, S_259_26, S_259_27, S_259_30, S_259_32, S_259_33, S_259_36, S_259_37, S_259_40, S_259_42, S_259_43, S_259_46, S_259_47, S_259_50, S_259_53, S_259_54, S_259_56, S_259_57, S_259_58, S_259_59, S_259_60, S_259_63, S_259_64, S_259_65, S_259_68, S_259_69, S_259_72, S_259_75, S_259_76, S_259_78, S_259_79, S_259_80, S_259_81, S_259_82, S_259_83, S_259_84, S_259_87, S_259_90, S_259_91, S_259_92, S_259_93, S_259_94, S_259_95, S_259_96, S_259_97, S_259_100, S_259_102, S_259_103, S_259_106, S_259_109, S_259_110, S_259_113, S_259_114, S_259_115, S_259_116, S_259_119, S_259_120, S_259_123, S_259_124, S_259_127, S_259_128, H_122, H_123, H_155, hA1, gi, c1]))
                    exact k2
                  · rw [if_neg (fun q => by omega)] at k2
                    repeat' (first | (with_reducible refine Br_i ?_ ?_ <;> (intro hbr; first | exact False.elim hbr | skip)) | (with_reducible refine Wl_i ?_) | (simp (disch := first | omega | exact okF _ | exact okI _ | exact okR _ | assumption | exact okN) only [u_at, iI_zero, iI_31, iI_add, iI_sub, iI_mul, iI_neg, ↓iI_max, ↓iI_min, iI_div, emod_f, iI_lt, iI_le, iI_inj, iI_toInt, ↓ii01, ↓ii11, ↓bI_b, bI_0, bI_1, Kt_s, Kt_n, cat0, cat1, cat2, cat3, cat4, rfV, Nat.reduceAdd, Nat.reduceMul, Nat.reduceEqDiff, Int.reduceAdd, Int.reduceSub, Int.reduceMul, Int.reduceNeg, Int.reduceLT, Int.reduceLE, Int.reduceEq, Int.reduceDiv, ↓reduceIte, ↓ite_ww, ↓ite_wi, Br_n, Br_TW, Br_FW, Br_FP, Br_FB, nn_p, and_true, true_and, and_self, true_or, or_true, not_true_eq_false, not_false_eq_true, le_T, le_F, lt_T, lt_F, eq_T, eq_F, Int.add_zero, Int.zero_add, Int.one_mul, Int.mul_one, up_eq, up_ne, Int.add_assoc, Int.add_sub_cancel, Int.sub_zero, Int.sub_self, S_259_0, S_259_1, S_259_4, S_259_5, S_259_6, S_259_7, S_259_10, S_259_11, S_259_12, S_259_13, S_259_16, S_259_19, S_259_20, S_259_21, S_259_22, S_259_26, S_259_27, S_259_30, S_259_32, S_259_33, S_259_36, S_259_37, S_259_40, S_259_42, S_259_43, S_259_46, S_259_47, S_259_50, S_259_53, S_259_54, S_259_56, S_259_57, S_259_58, S_259_59, S_259_60, S_259_63, S_259_64, S_259_65, S_259_68, S_259_69, S_259_72, S_259_75, S_259_76, S_259_78, S_259_79, S_259_80, S_259_81, S_259_82, S_259_83, S_259_84, S_259_87, S_259_90, S_259_91, S_259_92, S_259_93, S_259_94, S_259_95, S_259_96, S_259_97, S_259_100, S_259_102, S_259_103, S_259_106, S_259_109, S_259_110, S_259_113, S_259_114, S_259_115, S_259_116, S_259_119, S_259_120, S_259_123, S_259_124, S_259_127, S_259_128, H_122, H_123, H_155, hA1, gi, c1]))
                    exact k2
              · rw [if_neg (fun q => c1 q.2.1)] at k2
                repeat' (first | (with_reducible refine Br_i ?_ ?_ <;> (intro hbr; first | exact False.elim hbr | skip)) | (with_reducible refine Wl_i ?_) | (simp (disch := first | omega | exact okF _ | exact okI _ | exact okR _ | assumption | exact okN) only [u_at, iI_zero, iI_31, iI_add, iI_sub, iI_mul, iI_neg, ↓iI_max, ↓iI_min, iI_div, emod_f, iI_lt, iI_le, iI_inj, iI_toInt, ↓ii01, ↓ii11, ↓bI_b, bI_0, bI_1, Kt_s, Kt_n, cat0, cat1, cat2, cat3, cat4, rfV, Nat.reduceAdd, Nat.reduceMul, Nat.reduceEqDiff, Int.reduceAdd, Int.reduceSub, Int.reduceMul, Int.reduceNeg, Int.reduceLT, Int.reduceLE, Int.reduceEq, Int.reduceDiv, ↓reduceIte, ↓ite_ww, ↓ite_wi, Br_n, Br_TW, Br_FW, Br_FP, Br_FB, nn_p, and_true, true_and, and_self, true_or, or_true, not_true_eq_false, not_false_eq_true, le_T, le_F, lt_T, lt_F, eq_T, eq_F, Int.add_zero, Int.zero_add, Int.one_mul, Int.mul_one, up_eq, up_ne, Int.add_assoc, Int.add_sub_cancel, Int.sub_zero, Int.sub_self, S_259_0, S_259_1, S_259_4, S_259_5, S_259_6, S_259_7, S_259_10, S_259_11, S_259_12, S_259_13, S_259_16, S_259_19, S_259_20, S_259_21, S_259_22, S_259_26, S_259_27, S_259_30, S_259_32, S_259_33, S_259_36, S_259_37, S_259_40, S_259_42, S_259_43, S_259_46, S_259_47, S_259_50, S_259_53, S_259_54, S_259_56, S_259_57, S_259_58, S_259_59, S_259_60, S_259_63, S_259_64, S_259_65, S_259_68, S_259_69, S_259_72, S_259_75, S_259_76, S_259_78, S_259_79, S_259_80, S_259_81, S_259_82, S_259_83, S_259_84, S_259_87, S_259_90, S_259_91, S_259_92, S_259_93, S_259_94, S_259_95, S_259_96, S_259_97, S_259_100, S_259_102, S_259_103, S_259_106, S_259_109, S_259_110, S_259_113, S_259_114, S_259_115, S_259_116, S_259_119, S_259_120, S_259_123, S_259_124, S_259_127, S_259_128, H_122, H_123, H_155, hA1, gi, c1]))
                exact k2
            · rw [c0] at gi
              rw [if_neg (fun q => by omega)] at k2
              repeat' (first | (with_reducible refine Br_i ?_ ?_ <;> (intro hbr; first | exact False.elim hbr | skip)) | (with_reducible refine Wl_i ?_) | (simp (disch := first | omega | exact okF _ | exact okI _ | exact okR _ | assumption | exact okN) only [u_at, iI_zero, iI_31, iI_add, iI_sub, iI_mul, iI_neg, ↓iI_max, ↓iI_min, iI_div, emod_f, iI_lt, iI_le, iI_inj, iI_toInt, ↓ii01, ↓ii11, ↓bI_b, bI_0, bI_1, Kt_s, Kt_n, cat0, cat1, cat2, cat3, cat4, rfV, Nat.reduceAdd, Nat.reduceMul, Nat.reduceEqDiff, Int.reduceAdd, Int.reduceSub, Int.reduceMul, Int.reduceNeg, Int.reduceLT, Int.reduceLE, Int.reduceEq, Int.reduceDiv, ↓reduceIte, ↓ite_ww, ↓ite_wi, Br_n, Br_TW, Br_FW, Br_FP, Br_FB, nn_p, and_true, true_and, and_self, true_or, or_true, not_true_eq_false, not_false_eq_true, le_T, le_F, lt_T, lt_F, eq_T, eq_F, Int.add_zero, Int.zero_add, Int.one_mul, Int.mul_one, up_eq, up_ne, Int.add_assoc, Int.add_sub_cancel, Int.sub_zero, Int.sub_self, S_259_0, S_259_1, S_259_4, S_259_5, S_259_6, S_259_7, S_259_10, S_259_11, S_259_12, S_259_13, S_259_16, S_259_19, S_259_20, S_259_21, S_259_22, S_259_26, S_259_27, S_259_30, S_259_32, S_259_33, S_259_36, S_259_37, S_259_40, S_259_42, S_259_43, S_259_46, S_259_47, S_259_50, S_259_53, S_259_54, S_259_56, S_259_57, S_259_58, S_259_59, S_259_60, S_259_63, S_259_64, S_259_65, S_259_68, S_259_69, S_259_72, S_259_75, S_259_76, S_259_78, S_259_79, S_259_80, S_259_81, S_259_82, S_259_83, S_259_84, S_259_87, S_259_90, S_259_91, S_259_92, S_259_93, S_259_94, S_259_95, S_259_96, S_259_97, S_259_100, S_259_102, S_259_103, S_259_106, S_259_109, S_259_110, S_259_113, S_259_114, S_259_115, S_259_116, S_259_119, S_259_120, S_259_123, S_259_124, S_259_127, S_259_128, H_122, H_123, H_155, hA1, gi]))
              exact k2
          · show Wp (d + 2) 259 24 [.ref 122, .int (iI t), .int (iI (lwst A G)), .int (iI (dear A G (lwst A G))), .int (iI (A 6))] [] (hp X m1) Q
            have g1' : g01 (up G (dear A G (lwst A G)) 1) := by
              intro k k0 k1
              by_cases q : k = dear A G (lwst A G)
              · rw [up_eq q]; exact Or.inr rfl
              · rw [up_ne q]; exact h1 k k0 k1
            have hG' : ∀ k, 0 ≤ k → k < 30 → u m1 155 (up (m1 155) (dear A G (lwst A G)) 1) 155 k = up G (dear A G (lwst A G)) 1 k := by
              intro k k0 k1
              rw [u_eq]
              by_cases q : k = dear A G (lwst A G)
              · rw [up_eq q, up_eq q]
              · rw [up_ne q, up_ne q]
                exact hG k k0 k1
            have ih := ih _ (t + 1) (u m1 155 (up (m1 155) (dear A G (lwst A G)) 1)) (hf.u rfl) g1' hG' (by
              rw [sm_up dd.1 g0.1, if_pos dd.2.1, dd.2.2, hs]
              omega) (by omega) he (.int (iI (dear A G (lwst A G)))) (.int (iI (A 6))) rfl rfl
            have lw := fun (d : Nat) (Q : Option Value → aH → Prop) => m_lowest (d := d) (X := X) (Q := Q) (s := u m1 155 (up (m1 155) (dear A G (lwst A G)) 1)) g hA1 g1' hG'
            rw [S_259_24]
            repeat' (first | (with_reducible refine Br_i ?_ ?_ <;> (intro hbr; first | exact False.elim hbr | skip)) | (with_reducible refine Wl_i ?_) | (simp (disch := first | omega | exact okF _ | exact okI _ | exact okR _ | assumption | exact okN) only [u_at, iI_zero, iI_31, iI_add, iI_sub, iI_mul, iI_neg, ↓iI_max, ↓iI_min, iI_div, emod_f, iI_lt, iI_le, iI_inj, iI_toInt, ↓ii01, ↓ii11, ↓bI_b, bI_0, bI_1, Kt_s, Kt_n, cat0, cat1, cat2, cat3, cat4, rfV, Nat.reduceAdd, Nat.reduceMul, Nat.reduceEqDiff, Int.reduceAdd, Int.reduceSub, Int.reduceMul, Int.reduceNeg, Int.reduceLT, Int.reduceLE, Int.reduceEq, Int.reduceDiv, ↓reduceIte, ↓ite_ww, ↓ite_wi, Br_n, Br_TW, Br_FW, Br_FP, Br_FB, nn_p, and_true, true_and, and_self, true_or, or_true, not_true_eq_false, not_false_eq_true, le_T, le_F, lt_T, lt_F, eq_T, eq_F, Int.add_zero, Int.zero_add, Int.one_mul, Int.mul_one, up_eq, up_ne, Int.add_assoc, Int.add_sub_cancel, Int.sub_zero, Int.sub_self, S_259_0, S_259_1, S_259_4, S_259_5, S_259_6, S_259_7, S_259_10, S_259_12, S_259_13, S_259_16, S_259_19, S_259_20, S_259_21, S_259_22, S_259_26, S_259_27, S_259_30, S_259_32, S_259_33, S_259_36, S_259_37, S_259_40, S_259_42, S_259_43, S_259_46, S_259_47, S_259_50, S_259_53, S_259_54, S_259_56, S_259_57, S_259_58, S_259_59, S_259_60, S_259_63, S_259_64, S_259_65, S_259_68, S_259_69, S_259_72, S_259_75, S_259_76, S_259_78, S_259_79, S_259_80, S_259_81, S_259_82, S_259_83, S_259_84, S_259_87, S_259_90, S_259_91, S_259_92, S_259_93, S_259_94, S_259_95, S_259_96, S_259_97, S_259_100, S_259_102, S_259_103, S_259_106, S_259_109, S_259_110, S_259_113, S_259_114, S_259_115, S_259_116, S_259_119, S_259_120, S_259_123, S_259_124, S_259_127, S_259_128, H_122, H_123, H_155, hA1, lw]))
            exact ih
        have l0 := inner 0 (by omega) g0.1
        rw [fd_0 (by omega)] at l0
        repeat' (first | (with_reducible refine Br_i ?_ ?_ <;> (intro hbr; first | exact False.elim hbr | skip)) | (with_reducible refine Wl_i ?_) | (simp (disch := first | omega | exact okF _ | exact okI _ | exact okR _ | assumption | exact okN) only [u_at, iI_zero, iI_31, iI_add, iI_sub, iI_mul, iI_neg, ↓iI_max, ↓iI_min, iI_div, emod_f, iI_lt, iI_le, iI_inj, iI_toInt, ↓ii01, ↓ii11, ↓bI_b, bI_0, bI_1, Kt_s, Kt_n, cat0, cat1, cat2, cat3, cat4, rfV, Nat.reduceAdd, Nat.reduceMul, Nat.reduceEqDiff, Int.reduceAdd, Int.reduceSub, Int.reduceMul, Int.reduceNeg, Int.reduceLT, Int.reduceLE, Int.reduceEq, Int.reduceDiv, ↓reduceIte, ↓ite_ww, ↓ite_wi, Br_n, Br_TW, Br_FW, Br_FP, Br_FB, nn_p, and_true, true_and, and_self, true_or, or_true, not_true_eq_false, not_false_eq_true, le_T, le_F, lt_T, lt_F, eq_T, eq_F, Int.add_zero, Int.zero_add, Int.one_mul, Int.mul_one, up_eq, up_ne, Int.add_assoc, Int.add_sub_cancel, Int.sub_zero, Int.sub_self, S_259_0, S_259_1, S_259_4, S_259_5, S_259_6, S_259_7, S_259_10, S_259_12, S_259_13, S_259_16, S_259_19, S_259_20, S_259_21, S_259_22, S_259_26, S_259_27, S_259_30, S_259_32, S_259_33, S_259_36, S_259_37, S_259_40, S_259_42, S_259_43, S_259_46, S_259_47, S_259_50, S_259_53, S_259_54, S_259_56, S_259_57, S_259_58, S_259_59, S_259_60, S_259_63, S_259_64, S_259_65, S_259_68, S_259_69, S_259_72, S_259_75, S_259_76, S_259_78, S_259_79, S_259_80, S_259_81, S_259_82, S_259_83, S_259_84, S_259_87, S_259_90, S_259_91, S_259_92, S_259_93, S_259_94, S_259_95, S_259_96, S_259_97, S_259_100, S_259_102, S_259_103, S_259_106, S_259_109, S_259_110, S_259_113, S_259_114, S_259_115, S_259_116, S_259_119, S_259_120, S_259_123, S_259_124, S_259_127, S_259_128, H_122, m_netOf g hA1 h1 hG]))
        exact l0
  have h0 : g01 (fun _ => 0) := fun _ _ _ => Or.inl rfl
  have l0 := loop (A 6).toNat (fun _ => 0) 0 (u s 155 (fillF (s 155) 0 30)) (by repeat (first | exact Fr.rf _ | refine Fr.u ?_ rfl)) h0 (fun k a b => by rw [u_eq, fillF_i ⟨a, b⟩]) (sm_zero g0.1 (fun _ _ _ => rfl)) (by omega) rfl (.float 0) (.float 0) rfl rfl
  have lw := fun (d : Nat) (Q : Option Value → aH → Prop) => m_lowest (d := d) (X := X) (Q := Q) (s := u s 155 (fillF (s 155) 0 30)) (G := fun _ => 0) g hA h0 (fun k a b => by rw [u_eq, fillF_i ⟨a, b⟩])
  repeat' (first | (with_reducible refine Br_i ?_ ?_ <;> (intro hbr; first | exact False.elim hbr | skip)) | (with_reducible refine Wl_i ?_) | (simp (disch := first | omega | exact okF _ | exact okI _ | exact okR _ | assumption | exact okN) only [u_at, iI_zero, iI_31, iI_add, iI_sub, iI_mul, iI_neg, ↓iI_max, ↓iI_min, iI_div, emod_f, iI_lt, iI_le, iI_inj, iI_toInt, ↓ii01, ↓ii11, ↓bI_b, bI_0, bI_1, Kt_s, Kt_n, cat0, cat1, cat2, cat3, cat4, rfV, Nat.reduceAdd, Nat.reduceMul, Nat.reduceEqDiff, Int.reduceAdd, Int.reduceSub, Int.reduceMul, Int.reduceNeg, Int.reduceLT, Int.reduceLE, Int.reduceEq, Int.reduceDiv, ↓reduceIte, ↓ite_ww, ↓ite_wi, Br_n, Br_TW, Br_FW, Br_FP, Br_FB, nn_p, and_true, true_and, and_self, true_or, or_true, not_true_eq_false, not_false_eq_true, le_T, le_F, lt_T, lt_F, eq_T, eq_F, Int.add_zero, Int.zero_add, Int.one_mul, Int.mul_one, up_eq, up_ne, Int.add_assoc, Int.add_sub_cancel, Int.sub_zero, Int.sub_self, S_259_0, S_259_1, S_259_4, S_259_5, S_259_6, S_259_7, S_259_10, S_259_12, S_259_13, S_259_16, S_259_19, S_259_20, S_259_21, S_259_22, S_259_24, S_259_26, S_259_27, S_259_30, S_259_32, S_259_33, S_259_36, S_259_37, S_259_40, S_259_42, S_259_43, S_259_46, S_259_47, S_259_50, S_259_53, S_259_54, S_259_56, S_259_57, S_259_58, S_259_59, S_259_60, S_259_63, S_259_64, S_259_65, S_259_68, S_259_69, S_259_72, S_259_75, S_259_76, S_259_78, S_259_79, S_259_80, S_259_81, S_259_82, S_259_83, S_259_84, S_259_87, S_259_90, S_259_91, S_259_92, S_259_93, S_259_94, S_259_95, S_259_96, S_259_97, S_259_100, S_259_102, S_259_103, S_259_106, S_259_109, S_259_110, S_259_113, S_259_114, S_259_115, S_259_116, S_259_119, S_259_120, S_259_123, S_259_124, S_259_127, S_259_128, H_122, m_allThere, lw]))
  exact l0
end MC
