/-! GIFTS, the class: nets and what is taken away -/
/-- the class's circle: who is there, each one's net -/
def CC (s : sg) (A G : Int → Int) : Prop := (∀ k, 0 ≤ k → k < A 6 → s 121 k = bZ (G k = 0)) ∧ ∀ w, 0 ≤ w → w < 8 → s 120 w = nt A G w
section CI
variable {d : Nat} {X : hX} {s : sg} {Q : Option Value → aH → Prop} {k v w : Int} {A G : Int → Int}
theorem c_addNets (hI : IC0 0 s A) (g : gOK A) (hk : 0 ≤ k ∧ k < A 6) : Wp (d + 2) 16 0 [.ref 119, .int (iI k), .int (iI v)] [] (hp X s) Q = Q none (hp X (u s 120 (up (up (s 120) (A (480 + 3 * k)) (s 120 (A (480 + 3 * k)) - v)) (A (480 + (3 * k + 1))) (s 120 (A (480 + (3 * k + 1))) + v)))) := by
  have g0 := g.1
  have gg := g.2 k hk.1 hk.2
  have cg := hI.2.2.2.2.1 k hk.1 hk.2
  have cg0 : s 58 (k * 4) = A (480 + 3 * k) := cg.1
  have cg1 : s 58 (k * 4 + 1) = A (480 + (3 * k + 1)) := cg.2.1
  have ne := gg.2.2.1
  have gg1 := gg.1
  have gg2 := gg.2.1
  have sb : s 120 (A (480 + 3 * k)) + -v = s 120 (A (480 + 3 * k)) - v := by omega
  simp (disch := first | omega | exact okF _ | exact okI _ | exact okR _ | assumption | exact okN) only [S_16_0, S_16_1, S_16_4, S_16_5, S_16_8, S_16_9, S_16_10, S_16_13, S_16_14, S_16_15, S_16_18, S_16_19, S_16_22, S_16_23, S_16_26, S_16_27, S_16_28, S_16_31, S_16_32, S_16_35, u_at, iI_zero, iI_31, iI_add, iI_sub, iI_mul, iI_neg, ↓iI_max, ↓iI_min, iI_div, emod_f, iI_lt, iI_le, iI_inj, iI_toInt, ↓ii01, ↓ii11, ↓bI_b, bI_0, bI_1, Kt_s, Kt_n, cat0, cat1, cat2, cat3, cat4, rfV, Nat.reduceAdd, Nat.reduceMul, Nat.reduceEqDiff, Int.reduceAdd, Int.reduceSub, Int.reduceMul, Int.reduceNeg, Int.reduceLT, Int.reduceLE, Int.reduceEq, Int.reduceDiv, ↓reduceIte, ↓ite_ww, ↓ite_wi, Br_n, Br_TW, Br_FW, Br_FP, Br_FB, nn_p, and_true, true_and, and_self, true_or, or_true, not_true_eq_false, not_false_eq_true, le_T, le_F, lt_T, lt_F, eq_T, eq_F, Int.add_zero, Int.zero_add, Int.one_mul, Int.mul_one, up_eq, up_ne, Int.add_assoc, Int.add_sub_cancel, Int.sub_zero, Int.sub_self, H_119, H_57, c_raise_120, c_at_57, cg0, cg1, u_u, sb]
theorem c_bringAll (hI : IC0 0 s A) (g : gOK A) (kk : ∀ s', Fr [120, 121] s s' → CC s' A (fun _ => 0) → Q none (hp X s')) : Wp (d + 3) 15 0 [.ref 119, .float 0] [] (hp X s) Q := by
  have g0 := g.1
  have n6 : s 57004 0 = A 6 := hI.1.2.2.2.2.1
  have f120 := fun (d : Nat) (s : sg) (Q : Option Value → aH → Prop) => j_fill (d := d) (X := X) (s := s) (Q := Q) (v := 0) (k := 120) (N := 8) ⟨rfl, by decide⟩ (fun _ => rfl) (by decide)
  have loop : ∀ i s1, i ≤ A 6 → (0 ≤ i ∧ Fr [120, 121] s s1 ∧ (∀ k, 0 ≤ k → k < i → s1 121 k = 1) ∧ ∀ w, 0 ≤ w → w < 8 → s1 120 w = sm (gv A (fun _ => 0) w) i) → Wp (d + 3) 15 10 [.ref 119, .int (iI i)] [] (hp X s1) Q := by
    refine lp ?_ ?_
    · intro i s1 hi ⟨i0, hf, h1, h2⟩ k2
      have e57 : s1 57004 0 = A 6 := by rw [hf.g 57004 rfl]; exact n6
      have hI1 := IC0_fr hf rfl hI
      have gg := g.2 i i0 hi
      have gg1 := gg.1
      have gg2 := gg.2.1
      have ne := gg.2.2.1
      have cg2 : s1 58 (i * 4 + 2) = A (480 + (3 * i + 2)) := (hI1.2.2.2.2.1 i i0 hi).2.2
      have f2 : Fr [121] s1 (u s1 121 (up (s1 121) i 1)) := (by repeat (first | exact Fr.rf _ | refine Fr.u ?_ rfl))
      have an := fun (d : Nat) (Q : Option Value → aH → Prop) (v : Int) => c_addNets (d := d) (X := X) (Q := Q) (v := v) (IC0_fr f2 rfl hI1) g ⟨i0, hi⟩
      have k2 := k2 (u (u s1 121 (up (s1 121) i 1)) 120 (up (up (s1 120) (A (480 + 3 * i)) (s1 120 (A (480 + 3 * i)) - A (480 + (3 * i + 2)))) (A (480 + (3 * i + 1))) (s1 120 (A (480 + (3 * i + 1))) + A (480 + (3 * i + 2))))) ⟨by omega, (hf.u rfl).u rfl, fun k a b => by
        show up (s1 121) i 1 k = 1
        rw [up_at]
        split
        · rfl
        · exact h1 k a (by omega), fun w a b => by
        rw [u_eq, sm_s i0]
        have e : gv A (fun _ => 0) w i = (if A (480 + (3 * i + 1)) = w then A (480 + (3 * i + 2)) else if A (480 + 3 * i) = w then - A (480 + (3 * i + 2)) else 0) := if_pos rfl
        rw [e]
        by_cases c1 : w = A (480 + (3 * i + 1))
        · rw [up_eq c1, if_pos c1.symm, ← c1, h2 w a b]
        · rw [up_ne c1, if_neg (fun q => c1 q.symm)]
          by_cases c2 : w = A (480 + 3 * i)
          · rw [up_eq c2, if_pos c2.symm, ← c2, h2 w a b]
            omega
          · rw [up_ne c2, if_neg (fun q => c2 q.symm), h2 w a b, Int.add_zero]⟩
      have e120 : u s1 121 (up (s1 121) i 1) 120 = s1 120 := rfl
      rw [S_15_10]
      repeat' (first | (with_reducible refine Br_i ?_ ?_ <;> (intro hbr; first | exact False.elim hbr | skip)) | (with_reducible refine Wl_i ?_) | (simp (disch := first | omega | exact okF _ | exact okI _ | exact okR _ | assumption | exact okN) only [u_at, iI_zero, iI_31, iI_add, iI_sub, iI_mul, iI_neg, ↓iI_max, ↓iI_min, iI_div, emod_f, iI_lt, iI_le, iI_inj, iI_toInt, ↓ii01, ↓ii11, ↓bI_b, bI_0, bI_1, Kt_s, Kt_n, cat0, cat1, cat2, cat3, cat4, rfV, Nat.reduceAdd, Nat.reduceMul, Nat.reduceEqDiff, Int.reduceAdd, Int.reduceSub, Int.reduceMul, Int.reduceNeg, Int.reduceLT, Int.reduceLE, Int.reduceEq, Int.reduceDiv, ↓reduceIte, ↓ite_ww, ↓ite_wi, Br_n, Br_TW, Br_FW, Br_FP, Br_FB, nn_p, and_true, true_and, and_self, true_or, or_true, not_true_eq_false, not_false_eq_true, le_T, le_F, lt_T, lt_F, eq_T, eq_F, Int.add_zero, Int.zero_add, Int.one_mul, Int.mul_one, up_eq, up_ne, Int.add_assoc, Int.add_sub_cancel, Int.sub_zero, Int.sub_self, S_15_0, S_15_1, S_15_4, S_15_5, S_15_8, S_15_9, S_15_11, S_15_12, S_15_15, S_15_18, S_15_21, S_15_22, S_15_23, S_15_26, S_15_27, S_15_30, S_15_31, S_15_34, S_15_35, S_15_36, S_15_37, S_15_38, S_15_39, S_15_40, S_15_43, S_15_44, S_15_45, S_15_48, S_15_51, S_15_54, S_15_57, H_119, H_57, H_121, c_at_57, e57, cg2, an, e120]))
      exact k2
    · intro s1 ⟨i0, hf, h1, h2⟩
      have e57 : s1 57004 0 = A 6 := by rw [hf.g 57004 rfl]; exact n6
      have kk := kk s1 hf ⟨fun k a b => by rw [bZ_T rfl]; exact h1 k a b, h2⟩
      repeat' (first | (with_reducible refine Br_i ?_ ?_ <;> (intro hbr; first | exact False.elim hbr | skip)) | (with_reducible refine Wl_i ?_) | (simp (disch := first | omega | exact okF _ | exact okI _ | exact okR _ | assumption | exact okN) only [u_at, iI_zero, iI_31, iI_add, iI_sub, iI_mul, iI_neg, ↓iI_max, ↓iI_min, iI_div, emod_f, iI_lt, iI_le, iI_inj, iI_toInt, ↓ii01, ↓ii11, ↓bI_b, bI_0, bI_1, Kt_s, Kt_n, cat0, cat1, cat2, cat3, cat4, rfV, Nat.reduceAdd, Nat.reduceMul, Nat.reduceEqDiff, Int.reduceAdd, Int.reduceSub, Int.reduceMul, Int.reduceNeg, Int.reduceLT, Int.reduceLE, Int.reduceEq, Int.reduceDiv, ↓reduceIte, ↓ite_ww, ↓ite_wi, Br_n, Br_TW, Br_FW, Br_FP, Br_FB, nn_p, and_true, true_and, and_self, true_or, or_true, not_true_eq_false, not_false_eq_true, le_T, le_F, lt_T, lt_F, eq_T, eq_F, Int.add_zero, Int.zero_add, Int.one_mul, Int.mul_one, up_eq, up_ne, Int.add_assoc, Int.add_sub_cancel, Int.sub_zero, Int.sub_self, S_15_0, S_15_1, S_15_4, S_15_5, S_15_8, S_15_9, S_15_10, S_15_11, S_15_12, S_15_15, S_15_18, S_15_21, S_15_22, S_15_23, S_15_26, S_15_27, S_15_30, S_15_31, S_15_34, S_15_35, S_15_36, S_15_37, S_15_38, S_15_39, S_15_40, S_15_43, S_15_44, S_15_45, S_15_48, S_15_51, S_15_54, S_15_57, H_119, H_57, e57]))
      exact kk
  have l0 := loop 0 (u s 120 (fillF (s 120) 0 8)) g0.1 ⟨by omega, (by repeat (first | exact Fr.rf _ | refine Fr.u ?_ rfl)), fun k a b => by omega, fun w a b => by rw [u_eq, fillF_i ⟨a, b⟩, sm_0]⟩
  repeat' (first | (with_reducible refine Br_i ?_ ?_ <;> (intro hbr; first | exact False.elim hbr | skip)) | (with_reducible refine Wl_i ?_) | (simp (disch := first | omega | exact okF _ | exact okI _ | exact okR _ | assumption | exact okN) only [u_at, iI_zero, iI_31, iI_add, iI_sub, iI_mul, iI_neg, ↓iI_max, ↓iI_min, iI_div, emod_f, iI_lt, iI_le, iI_inj, iI_toInt, ↓ii01, ↓ii11, ↓bI_b, bI_0, bI_1, Kt_s, Kt_n, cat0, cat1, cat2, cat3, cat4, rfV, Nat.reduceAdd, Nat.reduceMul, Nat.reduceEqDiff, Int.reduceAdd, Int.reduceSub, Int.reduceMul, Int.reduceNeg, Int.reduceLT, Int.reduceLE, Int.reduceEq, Int.reduceDiv, ↓reduceIte, ↓ite_ww, ↓ite_wi, Br_n, Br_TW, Br_FW, Br_FP, Br_FB, nn_p, and_true, true_and, and_self, true_or, or_true, not_true_eq_false, not_false_eq_true, le_T, le_F, lt_T, lt_F, eq_T, eq_F, Int.add_zero, Int.zero_add, Int.one_mul, Int.mul_one, up_eq, up_ne, Int.add_assoc, Int.add_sub_cancel, Int.sub_zero, Int.sub_self, S_15_0, S_15_1, S_15_4, S_15_5, S_15_8, S_15_9, S_15_11, S_15_12, S_15_15, S_15_18, S_15_21, S_15_22, S_15_23, S_15_26, S_15_27, S_15_30, S_15_31, S_15_34, S_15_35, S_15_36, S_15_37, S_15_38, S_15_39, S_15_40, S_15_43, S_15_44, S_15_45, S_15_48, S_15_51, S_15_54, S_15_57, H_119, f120]))
  exact l0
theorem c_poorest (g : gOK A) (hC : CC s A G) : Wp (d + 1) 19 0 [.ref 119, .float 0, .float 0] [] (hp X s) Q = Q (some (.int (iI (lwst A G)))) (hp X s) := by
  have loop : ∀ i, 1 ≤ i → i ≤ 8 → Wp (d + 1) 19 4 [.ref 119, .int (iI (fd (fun p b => if nt A G p < nt A G b then p else b) 0 1 i)), .int (iI i)] [] (hp X s) Q = Q (some (.int (iI (lwst A G)))) (hp X s) := by
    refine lp0 ?_ ?_
    · intro i i0 i1 k
      have r := lw_r (A := A) (G := G) i0 (by omega)
      have b1 := nt_b (G := G) g i
      have b2 := nt_b (G := G) g (fd (fun p b => if nt A G p < nt A G b then p else b) 0 1 i)
      have e := fd_s (g := fun p b => if nt A G p < nt A G b then p else b) (s := 0) i0
      have e1 := hC.2 i (by omega) i1
      have e2 := hC.2 (fd (fun p b => if nt A G p < nt A G b then p else b) 0 1 i) r.1 (by omega)
      rw [S_19_4]
      by_cases c : nt A G i < nt A G (fd (fun p b => if nt A G p < nt A G b then p else b) 0 1 i)
      · simp only [if_pos c] at e
        rw [e] at k
        simp (disch := first | omega | exact okF _ | exact okI _ | exact okR _ | assumption | exact okN) only [S_19_0, S_19_1, S_19_2, S_19_3, S_19_5, S_19_7, S_19_10, S_19_11, S_19_14, S_19_15, S_19_18, S_19_19, S_19_22, S_19_23, S_19_26, S_19_29, S_19_30, S_19_31, S_19_34, S_19_37, S_19_38, u_at, iI_zero, iI_31, iI_add, iI_sub, iI_mul, iI_neg, ↓iI_max, ↓iI_min, iI_div, emod_f, iI_lt, iI_le, iI_inj, iI_toInt, ↓ii01, ↓ii11, ↓bI_b, bI_0, bI_1, Kt_s, Kt_n, cat0, cat1, cat2, cat3, cat4, rfV, Nat.reduceAdd, Nat.reduceMul, Nat.reduceEqDiff, Int.reduceAdd, Int.reduceSub, Int.reduceMul, Int.reduceNeg, Int.reduceLT, Int.reduceLE, Int.reduceEq, Int.reduceDiv, ↓reduceIte, ↓ite_ww, ↓ite_wi, Br_n, Br_TW, Br_FW, Br_FP, Br_FB, nn_p, and_true, true_and, and_self, true_or, or_true, not_true_eq_false, not_false_eq_true, le_T, le_F, lt_T, lt_F, eq_T, eq_F, Int.add_zero, Int.zero_add, Int.one_mul, Int.mul_one, up_eq, up_ne, Int.add_assoc, Int.add_sub_cancel, Int.sub_zero, Int.sub_self, H_119, c_cell_120, e1, e2]
        exact k
      · simp only [if_neg c] at e
        rw [e] at k
        simp (disch := first | omega | exact okF _ | exact okI _ | exact okR _ | assumption | exact okN) only [S_19_0, S_19_1, S_19_2, S_19_3, S_19_5, S_19_7, S_19_10, S_19_11, S_19_14, S_19_15, S_19_18, S_19_19, S_19_22, S_19_23, S_19_26, S_19_29, S_19_30, S_19_31, S_19_34, S_19_37, S_19_38, u_at, iI_zero, iI_31, iI_add, iI_sub, iI_mul, iI_neg, ↓iI_max, ↓iI_min, iI_div, emod_f, iI_lt, iI_le, iI_inj, iI_toInt, ↓ii01, ↓ii11, ↓bI_b, bI_0, bI_1, Kt_s, Kt_n, cat0, cat1, cat2, cat3, cat4, rfV, Nat.reduceAdd, Nat.reduceMul, Nat.reduceEqDiff, Int.reduceAdd, Int.reduceSub, Int.reduceMul, Int.reduceNeg, Int.reduceLT, Int.reduceLE, Int.reduceEq, Int.reduceDiv, ↓reduceIte, ↓ite_ww, ↓ite_wi, Br_n, Br_TW, Br_FW, Br_FP, Br_FB, nn_p, and_true, true_and, and_self, true_or, or_true, not_true_eq_false, not_false_eq_true, le_T, le_F, lt_T, lt_F, eq_T, eq_F, Int.add_zero, Int.zero_add, Int.one_mul, Int.mul_one, up_eq, up_ne, Int.add_assoc, Int.add_sub_cancel, Int.sub_zero, Int.sub_self, H_119, c_cell_120, e1, e2]
        exact k
    · rw [S_19_4]
      simp (disch := first | omega | exact okF _ | exact okI _ | exact okR _ | assumption | exact okN) only [S_19_0, S_19_1, S_19_2, S_19_3, S_19_5, S_19_7, S_19_10, S_19_11, S_19_14, S_19_15, S_19_18, S_19_19, S_19_22, S_19_23, S_19_26, S_19_29, S_19_30, S_19_31, S_19_34, S_19_37, S_19_38, u_at, iI_zero, iI_31, iI_add, iI_sub, iI_mul, iI_neg, ↓iI_max, ↓iI_min, iI_div, emod_f, iI_lt, iI_le, iI_inj, iI_toInt, ↓ii01, ↓ii11, ↓bI_b, bI_0, bI_1, Kt_s, Kt_n, cat0, cat1, cat2, cat3, cat4, rfV, Nat.reduceAdd, Nat.reduceMul, Nat.reduceEqDiff, Int.reduceAdd, Int.reduceSub, Int.reduceMul, Int.reduceNeg, Int.reduceLT, Int.reduceLE, Int.reduceEq, Int.reduceDiv, ↓reduceIte, ↓ite_ww, ↓ite_wi, Br_n, Br_TW, Br_FW, Br_FP, Br_FB, nn_p, and_true, true_and, and_self, true_or, or_true, not_true_eq_false, not_false_eq_true, le_T, le_F, lt_T, lt_F, eq_T, eq_F, Int.add_zero, Int.zero_add, Int.one_mul, Int.mul_one, up_eq, up_ne, Int.add_assoc, Int.add_sub_cancel, Int.sub_zero, Int.sub_self]
      rfl
  have l0 := loop 1 (by omega) (by omega)
  rw [fd_0 (by omega)] at l0
  rw [← l0]
  simp (disch := first | omega | exact okF _ | exact okI _ | exact okR _ | assumption | exact okN) only [S_19_0, S_19_1, S_19_2, S_19_3, S_19_5, S_19_7, S_19_10, S_19_11, S_19_14, S_19_15, S_19_18, S_19_19, S_19_22, S_19_23, S_19_26, S_19_29, S_19_30, S_19_31, S_19_34, S_19_37, S_19_38, u_at, iI_zero, iI_31, iI_add, iI_sub, iI_mul, iI_neg, ↓iI_max, ↓iI_min, iI_div, emod_f, iI_lt, iI_le, iI_inj, iI_toInt, ↓ii01, ↓ii11, ↓bI_b, bI_0, bI_1, Kt_s, Kt_n, cat0, cat1, cat2, cat3, cat4, rfV, Nat.reduceAdd, Nat.reduceMul, Nat.reduceEqDiff, Int.reduceAdd, Int.reduceSub, Int.reduceMul, Int.reduceNeg, Int.reduceLT, Int.reduceLE, Int.reduceEq, Int.reduceDiv, ↓reduceIte, ↓ite_ww, ↓ite_wi, Br_n, Br_TW, Br_FW, Br_FP, Br_FB, nn_p, and_true, true_and, and_self, true_or, or_true, not_true_eq_false, not_false_eq_true, le_T, le_F, lt_T, lt_F, eq_T, eq_F, Int.add_zero, Int.zero_add, Int.one_mul, Int.mul_one, up_eq, up_ne, Int.add_assoc, Int.add_sub_cancel, Int.sub_zero, Int.sub_self]
theorem c_dearestOf (hI : IC0 0 s A) (g : gOK A) (hC : CC s A G) (hw : 0 ≤ w ∧ w < 8) : Wp (d + 2) 20 0 [.ref 119, .int (iI w), .float 0, .float 0, .float 0, .float 0] [] (hp X s) Q = Q (some (.int (iI (dear A G w)))) (hp X s) := by
  have g0 := g.1
  have n6 : s 57004 0 = A 6 := hI.1.2.2.2.2.1
  have loop : ∀ i, 0 ≤ i → i ≤ A 6 → ∀ v5, okO v5 = true → Wp (d + 2) 20 7 [.ref 119, .int (iI w), .int (iI (fd (fun k b => if G k = 0 ∧ A (480 + 3 * k) = w ∧ (b = -1 ∨ A (480 + (3 * b + 2)) < A (480 + (3 * k + 2))) then k else b) (-1) 0 i)), .int (iI (if fd (fun k b => if G k = 0 ∧ A (480 + 3 * k) = w ∧ (b = -1 ∨ A (480 + (3 * b + 2)) < A (480 + (3 * k + 2))) then k else b) (-1) 0 i = -1 then 0 else A (480 + (3 * (fd (fun k b => if G k = 0 ∧ A (480 + 3 * k) = w ∧ (b = -1 ∨ A (480 + (3 * b + 2)) < A (480 + (3 * k + 2))) then k else b) (-1) 0 i) + 2)))), .int (iI i), v5] [] (hp X s) Q = Q (some (.int (iI (dear A G w)))) (hp X s) := by
    refine lp0 ?_ ?_
    · intro i i0 i1 k20 v5 o5
      have gg := g.2 i i0 i1
      have gg1 := gg.1
      have gg3 := gg.2.2.2
      have cg := hI.2.2.2.2.1 i i0 i1
      have cg0 : s 58 (i * 4) = A (480 + 3 * i) := cg.1
      have cg2 : s 58 (i * 4 + 2) = A (480 + (3 * i + 2)) := cg.2.2
      have th := hC.1 i i0 i1
      have dr := dr_r (A := A) (G := G) (w := w) i0
      have e := fd_s (g := fun k b => if G k = 0 ∧ A (480 + 3 * k) = w ∧ (b = -1 ∨ A (480 + (3 * b + 2)) < A (480 + (3 * k + 2))) then k else b) (s := -1) i0
      generalize fd (fun k b => if G k = 0 ∧ A (480 + 3 * k) = w ∧ (b = -1 ∨ A (480 + (3 * b + 2)) < A (480 + (3 * k + 2))) then k else b) (-1) 0 i = bb at e k20 dr ⊢
      rw [e] at k20
      have mr : 0 ≤ (if bb = -1 then 0 else A (480 + (3 * bb + 2))) ∧ (if bb = -1 then 0 else A (480 + (3 * bb + 2))) ≤ 999 := by
        by_cases c : bb = -1
        · rw [if_pos c]; omega
        · rw [if_neg c]
          have := (g.2 bb (by omega) (by omega)).2.2.2
          omega
      have cc : (bb = -1 ∨ A (480 + (3 * bb + 2)) < A (480 + (3 * i + 2))) ↔ (if bb = -1 then 0 else A (480 + (3 * bb + 2))) < A (480 + (3 * i + 2)) := by
        by_cases c : bb = -1
        · rw [if_pos c]; exact ⟨fun _ => by omega, fun _ => Or.inl c⟩
        · rw [if_neg c]; exact ⟨fun q => q.resolve_left c, Or.inr⟩
      rw [S_20_7]
      generalize hM : (if bb = -1 then 0 else A (480 + (3 * bb + 2))) = M at *
      by_cases c0 : G i = 0
      · rw [bZ_T c0] at th
        by_cases c1 : A (480 + 3 * i) = w
        · by_cases c2 : M < A (480 + (3 * i + 2))
          · rw [if_pos ⟨c0, c1, cc.mpr c2⟩, if_neg (by omega)] at k20
            have k2 := k20 (.int (iI (A (480 + (3 * i + 2))))) rfl
            rw [← k2]
            simp (disch := first | omega | exact okF _ | exact okI _ | exact okR _ | assumption | exact okN) only [S_20_0, S_20_1, S_20_2, S_20_3, S_20_4, S_20_5, S_20_9, S_20_10, S_20_13, S_20_16, S_20_19, S_20_21, S_20_22, S_20_25, S_20_26, S_20_29, S_20_30, S_20_33, S_20_35, S_20_36, S_20_39, S_20_41, S_20_42, S_20_45, S_20_47, S_20_48, S_20_51, S_20_52, S_20_55, S_20_57, S_20_58, S_20_61, S_20_62, S_20_65, S_20_67, S_20_68, S_20_71, S_20_73, S_20_74, S_20_76, S_20_77, S_20_80, S_20_83, S_20_84, u_at, iI_zero, iI_31, iI_add, iI_sub, iI_mul, iI_neg, ↓iI_max, ↓iI_min, iI_div, emod_f, iI_lt, iI_le, iI_inj, iI_toInt, ↓ii01, ↓ii11, ↓bI_b, bI_0, bI_1, Kt_s, Kt_n, cat0, cat1, cat2, cat3, cat4, rfV, Nat.reduceAdd, Nat.reduceMul, Nat.reduceEqDiff, Int.reduceAdd, Int.reduceSub, Int.reduceMul, Int.reduceNeg, Int.reduceLT, Int.reduceLE, Int.reduceEq, Int.reduceDiv, ↓reduceIte, ↓ite_ww, ↓ite_wi, Br_n, Br_TW, Br_FW, Br_FP, Br_FB, nn_p, and_true, true_and, and_self, true_or, or_true, not_true_eq_false, not_false_eq_true, le_T, le_F, lt_T, lt_F, eq_T, eq_F, Int.add_zero, Int.zero_add, Int.one_mul, Int.mul_one, up_eq, up_ne, Int.add_assoc, Int.add_sub_cancel, Int.sub_zero, Int.sub_self, H_119, H_57, H_121, c_at_57, n6, cg0, cg2, th, c1]
          · rw [if_neg (fun q => c2 (cc.mp q.2.2)), hM] at k20
            have k2 := k20 (.int (iI (A (480 + (3 * i + 2))))) rfl
            rw [← k2]
            simp (disch := first | omega | exact okF _ | exact okI _ | exact okR _ | assumption | exact okN) only [S_20_0, S_20_1, S_20_2, S_20_3, S_20_4, S_20_5, S_20_9, S_20_10, S_20_13, S_20_16, S_20_19, S_20_21, S_20_22, S_20_25, S_20_26, S_20_29, S_20_30, S_20_33, S_20_35, S_20_36, S_20_39, S_20_41, S_20_42, S_20_45, S_20_47, S_20_48, S_20_51, S_20_52, S_20_55, S_20_57, S_20_58, S_20_61, S_20_62, S_20_65, S_20_67, S_20_68, S_20_71, S_20_73, S_20_74, S_20_76, S_20_77, S_20_80, S_20_83, S_20_84, u_at, iI_zero, iI_31, iI_add, iI_sub, iI_mul, iI_neg, ↓iI_max, ↓iI_min, iI_div, emod_f, iI_lt, iI_le, iI_inj, iI_toInt, ↓ii01, ↓ii11, ↓bI_b, bI_0, bI_1, Kt_s, Kt_n, cat0, cat1, cat2, cat3, cat4, rfV, Nat.reduceAdd, Nat.reduceMul, Nat.reduceEqDiff, Int.reduceAdd, Int.reduceSub, Int.reduceMul, Int.reduceNeg, Int.reduceLT, Int.reduceLE, Int.reduceEq, Int.reduceDiv, ↓reduceIte, ↓ite_ww, ↓ite_wi, Br_n, Br_TW, Br_FW, Br_FP, Br_FB, nn_p, and_true, true_and, and_self, true_or, or_true, not_true_eq_false, not_false_eq_true, le_T, le_F, lt_T, lt_F, eq_T, eq_F, Int.add_zero, Int.zero_add, Int.one_mul, Int.mul_one, up_eq, up_ne, Int.add_assoc, Int.add_sub_cancel, Int.sub_zero, Int.sub_self, H_119, H_57, H_121, c_at_57, n6, cg0, cg2, th, c1]
            try rfl
        · rw [if_neg (fun q => c1 q.2.1), hM] at k20
          have k2 := k20 (.int (iI (A (480 + (3 * i + 2))))) rfl
          rw [← k2]
          simp (disch := first | omega | exact okF _ | exact okI _ | exact okR _ | assumption | exact okN) only [S_20_0, S_20_1, S_20_2, S_20_3, S_20_4, S_20_5, S_20_9, S_20_10, S_20_13, S_20_16, S_20_19, S_20_21, S_20_22, S_20_25, S_20_26, S_20_29, S_20_30, S_20_33, S_20_35, S_20_36, S_20_39, S_20_41, S_20_42, S_20_45, S_20_47, S_20_48, S_20_51, S_20_52, S_20_55, S_20_57, S_20_58, S_20_61, S_20_62, S_20_65, S_20_67, S_20_68, S_20_71, S_20_73, S_20_74, S_20_76, S_20_77, S_20_80, S_20_83, S_20_84, u_at, iI_zero, iI_31, iI_add, iI_sub, iI_mul, iI_neg, ↓iI_max, ↓iI_min, iI_div, emod_f, iI_lt, iI_le, iI_inj, iI_toInt, ↓ii01, ↓ii11, ↓bI_b, bI_0, bI_1, Kt_s, Kt_n, cat0, cat1, cat2, cat3, cat4, rfV, Nat.reduceAdd, Nat.reduceMul, Nat.reduceEqDiff, Int.reduceAdd, Int.reduceSub, Int.reduceMul, Int.reduceNeg, Int.reduceLT, Int.reduceLE, Int.reduceEq, Int.reduceDiv, ↓reduceIte, ↓ite_ww, ↓ite_wi, Br_n, Br_TW, Br_FW, Br_FP, Br_FB, nn_p, and_true, true_and, and_self, true_or, or_true, not_true_eq_false, not_false_eq_true, le_T, le_F, lt_T, lt_F, eq_T, eq_F, Int.add_zero, Int.zero_add, Int.one_mul, Int.mul_one, up_eq, up_ne, Int.add_assoc, Int.add_sub_cancel, Int.sub_zero, Int.sub_self, H_119, H_57, H_121, c_at_57, n6, cg0, cg2, th]
          try rfl
      · rw [bZ_F c0] at th
        rw [if_neg (fun q => c0 q.1), hM] at k20
        have k2 := k20 (.int (iI (A (480 + (3 * i + 2))))) rfl
        rw [← k2]
        simp (disch := first | omega | exact okF _ | exact okI _ | exact okR _ | assumption | exact okN) only [S_20_0, S_20_1, S_20_2, S_20_3, S_20_4, S_20_5, S_20_9, S_20_10, S_20_13, S_20_16, S_20_19, S_20_21, S_20_22, S_20_25, S_20_26, S_20_29, S_20_30, S_20_33, S_20_35, S_20_36, S_20_39, S_20_41, S_20_42, S_20_45, S_20_47, S_20_48, S_20_51, S_20_52, S_20_55, S_20_57, S_20_58, S_20_61, S_20_62, S_20_65, S_20_67, S_20_68, S_20_71, S_20_73, S_20_74, S_20_76, S_20_77, S_20_80, S_20_83, S_20_84, u_at, iI_zero, iI_31, iI_add, iI_sub, iI_mul, iI_neg, ↓iI_max, ↓iI_min, iI_div, emod_f, iI_lt, iI_le, iI_inj, iI_toInt, ↓ii01, ↓ii11, ↓bI_b, bI_0, bI_1, Kt_s, Kt_n, cat0, cat1, cat2, cat3, cat4, rfV, Nat.reduceAdd, Nat.reduceMul, Nat.reduceEqDiff, Int.reduceAdd, Int.reduceSub, Int.reduceMul, Int.reduceNeg, Int.reduceLT, Int.reduceLE, Int.reduceEq, Int.reduceDiv, ↓reduceIte, ↓ite_ww, ↓ite_wi, Br_n, Br_TW, Br_FW, Br_FP, Br_FB, nn_p, and_true, true_and, and_self, true_or, or_true, not_true_eq_false, not_false_eq_true, le_T, le_F, lt_T, lt_F, eq_T, eq_F, Int.add_zero, Int.zero_add, Int.one_mul, Int.mul_one, up_eq, up_ne, Int.add_assoc, Int.add_sub_cancel, Int.sub_zero, Int.sub_self, H_119, H_57, H_121, c_at_57, n6, cg0, cg2, th]
        try rfl
    · intro v5 o5
      rw [S_20_7]
      simp (disch := first | omega | exact okF _ | exact okI _ | exact okR _ | assumption | exact okN) only [S_20_0, S_20_1, S_20_2, S_20_3, S_20_4, S_20_5, S_20_9, S_20_10, S_20_13, S_20_16, S_20_19, S_20_21, S_20_22, S_20_25, S_20_26, S_20_29, S_20_30, S_20_33, S_20_35, S_20_36, S_20_39, S_20_41, S_20_42, S_20_45, S_20_47, S_20_48, S_20_51, S_20_52, S_20_55, S_20_57, S_20_58, S_20_61, S_20_62, S_20_65, S_20_67, S_20_68, S_20_71, S_20_73, S_20_74, S_20_76, S_20_77, S_20_80, S_20_83, S_20_84, u_at, iI_zero, iI_31, iI_add, iI_sub, iI_mul, iI_neg, ↓iI_max, ↓iI_min, iI_div, emod_f, iI_lt, iI_le, iI_inj, iI_toInt, ↓ii01, ↓ii11, ↓bI_b, bI_0, bI_1, Kt_s, Kt_n, cat0, cat1, cat2, cat3, cat4, rfV, Nat.reduceAdd, Nat.reduceMul, Nat.reduceEqDiff, Int.reduceAdd, Int.reduceSub, Int.reduceMul, Int.reduceNeg, Int.reduceLT, Int.reduceLE, Int.reduceEq, Int.reduceDiv, ↓reduceIte, ↓ite_ww, ↓ite_wi, Br_n, Br_TW, Br_FW, Br_FP, Br_FB, nn_p, and_true, true_and, and_self, true_or, or_true, not_true_eq_false, not_false_eq_true, le_T, le_F, lt_T, lt_F, eq_T, eq_F, Int.add_zero, Int.zero_add, Int.one_mul, Int.mul_one, up_eq, up_ne, Int.add_assoc, Int.add_sub_cancel, Int.sub_zero, Int.sub_self, H_119, H_57, n6]
      rfl
  have l0 := loop 0 (by omega) g0.1 (.float 0) rfl
  rw [fd_0 (by omega)] at l0
  rw [← l0]
  simp (disch := first | omega | exact okF _ | exact okI _ | exact okR _ | assumption | exact okN) only [S_20_0, S_20_1, S_20_2, S_20_3, S_20_4, S_20_5, S_20_9, S_20_10, S_20_13, S_20_16, S_20_19, S_20_21, S_20_22, S_20_25, S_20_26, S_20_29, S_20_30, S_20_33, S_20_35, S_20_36, S_20_39, S_20_41, S_20_42, S_20_45, S_20_47, S_20_48, S_20_51, S_20_52, S_20_55, S_20_57, S_20_58, S_20_61, S_20_62, S_20_65, S_20_67, S_20_68, S_20_71, S_20_73, S_20_74, S_20_76, S_20_77, S_20_80, S_20_83, S_20_84, u_at, iI_zero, iI_31, iI_add, iI_sub, iI_mul, iI_neg, ↓iI_max, ↓iI_min, iI_div, emod_f, iI_lt, iI_le, iI_inj, iI_toInt, ↓ii01, ↓ii11, ↓bI_b, bI_0, bI_1, Kt_s, Kt_n, cat0, cat1, cat2, cat3, cat4, rfV, Nat.reduceAdd, Nat.reduceMul, Nat.reduceEqDiff, Int.reduceAdd, Int.reduceSub, Int.reduceMul, Int.reduceNeg, Int.reduceLT, Int.reduceLE, Int.reduceEq, Int.reduceDiv, ↓reduceIte, ↓ite_ww, ↓ite_wi, Br_n, Br_TW, Br_FW, Br_FP, Br_FB, nn_p, and_true, true_and, and_self, true_or, or_true, not_true_eq_false, not_false_eq_true, le_T, le_F, lt_T, lt_F, eq_T, eq_F, Int.add_zero, Int.zero_add, Int.one_mul, Int.mul_one, up_eq, up_ne, Int.add_assoc, Int.add_sub_cancel, Int.sub_zero, Int.sub_self]
end CI
