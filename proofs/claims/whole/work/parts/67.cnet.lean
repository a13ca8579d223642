/-! GIFTS, the class: the net and the steady day -/
section CN
variable {d : Nat} {X : hX} {s : sg} {Q : Option Value → aH → Prop} {k v w : Int} {A G : Int → Int}
theorem c_takeAway (hI : IC0 0 s A) (g : gOK A) (hC : CC s A G) (hk : 0 ≤ k ∧ k < A 6) (h0 : G k = 0) (kk : ∀ s', Fr [120, 121] s s' → CC s' A (up G k 1) → Q none (hp X s')) : Wp (d + 3) 21 0 [.ref 119, .int (iI k)] [] (hp X s) Q := by
  have g0 := g.1
  have gg := g.2 k hk.1 hk.2
  have gg1 := gg.1
  have gg2 := gg.2.1
  have gg3 := gg.2.2.2
  have ne := gg.2.2.1
  have cg2 : s 58 (k * 4 + 2) = A (480 + (3 * k + 2)) := (hI.2.2.2.2.1 k hk.1 hk.2).2.2
  have f2 : Fr [121] s (u s 121 (up (s 121) k 0)) := (by repeat (first | exact Fr.rf _ | refine Fr.u ?_ rfl))
  have an := fun (d : Nat) (Q : Option Value → aH → Prop) (v : Int) => c_addNets (d := d) (X := X) (Q := Q) (v := v) (IC0_fr f2 rfl hI) g hk
  have e120 : u s 121 (up (s 121) k 0) 120 = s 120 := rfl
  have nu := nt_up (G := G) g hk h0
  have b1 := nt_b (G := G) g (A (480 + 3 * k))
  have b2 := nt_b (G := G) g (A (480 + (3 * k + 1)))
  have c1 := hC.2 (A (480 + 3 * k)) (by omega) (by omega)
  have c2 := hC.2 (A (480 + (3 * k + 1))) (by omega) (by omega)
  have kk := kk (u (u s 121 (up (s 121) k 0)) 120 (up (up (s 120) (A (480 + 3 * k)) (s 120 (A (480 + 3 * k)) - (- A (480 + (3 * k + 2))))) (A (480 + (3 * k + 1))) (s 120 (A (480 + (3 * k + 1))) + (- A (480 + (3 * k + 2)))))) (by repeat (first | exact Fr.rf _ | refine Fr.u ?_ rfl)) ⟨fun z z0 z1 => by
    show up (s 121) k 0 z = _
    by_cases q : z = k
    · rw [up_eq q, up_eq q, bZ_F (by decide)]
    · rw [up_ne q, up_ne q]
      exact hC.1 z z0 z1, fun w w0 w1 => by
    rw [u_eq, nu w]
    by_cases q1 : w = A (480 + (3 * k + 1))
    · rw [up_eq q1, if_pos q1.symm, c2, ← q1]
      omega
    · rw [up_ne q1, if_neg (fun q => q1 q.symm)]
      by_cases q2 : w = A (480 + 3 * k)
      · rw [up_eq q2, if_pos q2.symm, c1, ← q2]
      · rw [up_ne q2, if_neg (fun q => q2 q.symm), hC.2 w w0 w1]
        omega⟩
  repeat' (first | (with_reducible refine Br_i ?_ ?_ <;> (intro hbr; first | exact False.elim hbr | skip)) | (with_reducible refine Wl_i ?_) | (simp (disch := first | omega | exact okF _ | exact okI _ | exact okR _ | assumption | exact okN) only [u_at, iI_zero, iI_31, iI_add, iI_sub, iI_mul, iI_neg, ↓iI_max, ↓iI_min, iI_div, emod_f, iI_lt, iI_le, iI_inj, iI_toInt, ↓ii01, ↓ii11, ↓bI_b, bI_0, bI_1, Kt_s, Kt_n, cat0, cat1, cat2, cat3, cat4, rfV, Nat.reduceAdd, Nat.reduceMul, Nat.reduceEqDiff, Int.reduceAdd, Int.reduceSub, Int.reduceMul, Int.reduceNeg, Int.reduceLT, Int.reduceLE, Int.reduceEq, Int.reduceDiv, ↓reduceIte, ↓ite_ww, ↓ite_wi, Br_n, Br_TW, Br_FW, Br_FP, Br_FB, nn_p, and_true, true_and, and_self, true_or, or_true, not_true_eq_false, not_false_eq_true, le_T, le_F, lt_T, lt_F, eq_T, eq_F, Int.add_zero, Int.zero_add, Int.one_mul, Int.mul_one, up_eq, up_ne, Int.add_assoc, Int.add_sub_cancel, Int.sub_zero, Int.sub_self, S_21_0, S_21_1, S_21_4, S_21_5, S_21_6, S_21_9, S_21_10, S_21_13, S_21_14, S_21_17, S_21_18, S_21_19, S_21_20, S_21_21, S_21_22, S_21_23, S_21_26, S_21_27, S_21_28, S_21_31, S_21_32, S_21_35, H_119, H_57, H_121, c_at_57, cg2, an, e120]))
  exact kk
theorem c_takenTillSteady (hI : IC0 0 s A) (g : gOK A) (kk : ∀ s', Fr [120, 121] s s' → Q (some (.int (iI (stdy A (A 6).toNat (fun _ => 0) 0)))) (hp X s')) : Wp (d + 4) 18 0 [.ref 119, .float 0, .float 0] [] (hp X s) Q := by
  have g0 := g.1
  have n6 : s 57004 0 = A 6 := hI.1.2.2.2.2.1
  have loop : ∀ (f : Nat) (G : Int → Int) (t : Int) (s1 : sg), Fr [120, 121] s s1 → CC s1 A G → 0 ≤ t → (f : Int) = A 6 - t → stdy A f G t = stdy A (A 6).toNat (fun _ => 0) 0 → ∀ v2, okO v2 = true → Wp (d + 4) 18 6 [.ref 119, .int (iI t), v2] [] (hp X s1) Q := by
    intro f
    induction f with
    | zero =>
      intro G t s1 hf hC t0 ht he v2 o2
      have e57 : s1 57004 0 = A 6 := by rw [hf.g 57004 rfl]; exact n6
      have k := kk s1 hf
      rw [← he] at k
      have e : t = A 6 := by omega
      subst e
      rw [S_18_6]
      repeat' (first | (with_reducible refine Br_i ?_ ?_ <;> (intro hbr; first | exact False.elim hbr | skip)) | (with_reducible refine Wl_i ?_) | (simp (disch := first | omega | exact okF _ | exact okI _ | exact okR _ | assumption | exact okN) only [u_at, iI_zero, iI_31, iI_add, iI_sub, iI_mul, iI_neg, ↓iI_max, ↓iI_min, iI_div, emod_f, iI_lt, iI_le, iI_inj, iI_toInt, ↓ii01, ↓ii11, ↓bI_b, bI_0, bI_1, Kt_s, Kt_n, cat0, cat1, cat2, cat3, cat4, rfV, Nat.reduceAdd, Nat.reduceMul, Nat.reduceEqDiff, Int.reduceAdd, Int.reduceSub, Int.reduceMul, Int.reduceNeg, Int.reduceLT, Int.reduceLE, Int.reduceEq, Int.reduceDiv, ↓reduceIte, ↓ite_ww, ↓ite_wi, Br_n, Br_TW, Br_FW, Br_FP, Br_FB, nn_p, and_true, true_and, and_self, true_or, or_true, not_true_eq_false, not_false_eq_true, le_T, le_F, lt_T, lt_F, eq_T, eq_F, Int.add_zero, Int.zero_add, Int.one_mul, Int.mul_one, up_eq, up_ne, Int.add_assoc, Int.add_sub_cancel, Int.sub_zero, Int.sub_self, S_18_0, S_18_1, S_18_4, S_18_5, S_18_7, S_18_8, S_18_11, S_18_14, S_18_17, S_18_18, S_18_21, S_18_22, S_18_23, S_18_26, S_18_27, S_18_30, S_18_33, S_18_34, S_18_35, S_18_36, S_18_37, S_18_38, S_18_41, S_18_44, S_18_47, S_18_50, S_18_51, S_18_54, S_18_57, H_119, H_57, e57]))
      exact k
    | succ f ih =>
      intro G t s1 hf hC t0 ht he v2 o2
      have e57 : s1 57004 0 = A 6 := by rw [hf.g 57004 rfl]; exact n6
      have hI1 := IC0_fr hf rfl hI
      have lr2 : 0 ≤ lwst A G ∧ lwst A G < 8 := lw_r (A := A) (G := G) (n := 8) (by omega) (by omega)
      have b := nt_b (G := G) g (lwst A G)
      have e2 := hC.2 (lwst A G) lr2.1 lr2.2
      have po := fun (d : Nat) (Q : Option Value → aH → Prop) => c_poorest (d := d) (X := X) (Q := Q) g hC
      have de := fun (d : Nat) (Q : Option Value → aH → Prop) => c_dearestOf (d := d) (X := X) (Q := Q) hI1 g hC lr2
      rw [S_18_6]
      by_cases c : 0 ≤ nt A G (lwst A G)
      · rw [stdy, if_pos c] at he
        have k := kk s1 hf
        rw [← he] at k
        repeat' (first | (with_reducible refine Br_i ?_ ?_ <;> (intro hbr; first | exact False.elim hbr | skip)) | (with_reducible refine Wl_i ?_) | (simp (disch := first | omega | exact okF _ | exact okI _ | exact okR _ | assumption | exact okN) only [u_at, iI_zero, iI_31, iI_add, iI_sub, iI_mul, iI_neg, ↓iI_max, ↓iI_min, iI_div, emod_f, iI_lt, iI_le, iI_inj, iI_toInt, ↓ii01, ↓ii11, ↓bI_b, bI_0, bI_1, Kt_s, Kt_n, cat0, cat1, cat2, cat3, cat4, rfV, Nat.reduceAdd, Nat.reduceMul, Nat.reduceEqDiff, Int.reduceAdd, Int.reduceSub, Int.reduceMul, Int.reduceNeg, Int.reduceLT, Int.reduceLE, Int.reduceEq, Int.reduceDiv, ↓reduceIte, ↓ite_ww, ↓ite_wi, Br_n, Br_TW, Br_FW, Br_FP, Br_FB, nn_p, and_true, true_and, and_self, true_or, or_true, not_true_eq_false, not_false_eq_true, le_T, le_F, lt_T, lt_F, eq_T, eq_F, Int.add_zero, Int.zero_add, Int.one_mul, Int.mul_one, up_eq, up_ne, Int.add_assoc, Int.add_sub_cancel, Int.sub_zero, Int.sub_self, S_18_0, S_18_1, S_18_4, S_18_5, S_18_7, S_18_8, S_18_11, S_18_14, S_18_17, S_18_18, S_18_21, S_18_22, S_18_23, S_18_26, S_18_27, S_18_30, S_18_33, S_18_34, S_18_35, S_18_36, S_18_37, S_18_38, S_18_41, S_18_44, S_18_47, S_18_50, S_18_51, S_18_54, S_18_57, H_119, H_57, c_cell_120, e57, po, e2]))
        exact k
      · rw [stdy, if_neg c] at he
        have dd := nt_dear g (show nt A G (lwst A G) < 0 by omega)
        have ih := fun s' hf' hC' => ih (up G (dear A G (lwst A G)) 1) (t + 1) s' hf' hC' (by omega) (by omega) he (.int (iI (lwst A G))) rfl
        repeat' (first | (with_reducible refine Br_i ?_ ?_ <;> (intro hbr; first | exact False.elim hbr | skip)) | (with_reducible refine Wl_i ?_) | (simp (disch := first | omega | exact okF _ | exact okI _ | exact okR _ | assumption | exact okN) only [u_at, iI_zero, iI_31, iI_add, iI_sub, iI_mul, iI_neg, ↓iI_max, ↓iI_min, iI_div, emod_f, iI_lt, iI_le, iI_inj, iI_toInt, ↓ii01, ↓ii11, ↓bI_b, bI_0, bI_1, Kt_s, Kt_n, cat0, cat1, cat2, cat3, cat4, rfV, Nat.reduceAdd, Nat.reduceMul, Nat.reduceEqDiff, Int.reduceAdd, Int.reduceSub, Int.reduceMul, Int.reduceNeg, Int.reduceLT, Int.reduceLE, Int.reduceEq, Int.reduceDiv, ↓reduceIte, ↓ite_ww, ↓ite_wi, Br_n, Br_TW, Br_FW, Br_FP, Br_FB, nn_p, and_true, true_and, and_self, true_or, or_true, not_true_eq_false, not_false_eq_true, le_T, le_F, lt_T, lt_F, eq_T, eq_F, Int.add_zero, Int.zero_add, Int.one_mul, Int.mul_one, up_eq, up_ne, Int.add_assoc, Int.add_sub_cancel, Int.sub_zero, Int.sub_self, S_18_0, S_18_1, S_18_4, S_18_5, S_18_7, S_18_8, S_18_11, S_18_14, S_18_17, S_18_18, S_18_21, S_18_22, S_18_23, S_18_26, S_18_27, S_18_30, S_18_33, S_18_34, S_18_35, S_18_36, S_18_37, S_18_38, S_18_41, S_18_44, S_18_47, S_18_50, S_18_51, S_18_54, S_18_57, H_119, H_57, c_cell_120, e57, po, e2, de]))
        refine c_takeAway hI1 g hC ⟨dd.1, dd.2.1⟩ dd.2.2 fun s' f' C' => ?_
        have ih := ih s' (hf.tr f') C'
        repeat' (first | (with_reducible refine Br_i ?_ ?_ <;> (intro hbr; first | exact False.elim hbr | skip)) | (with_reducible refine Wl_i ?_) | (simp (disch := first | omega | exact okF _ | exact okI _ | exact okR _ | assumption | exact okN) only [u_at, iI_zero, iI_31, iI_add, iI_sub, iI_mul, iI_neg, ↓iI_max, ↓iI_min, iI_div, emod_f, iI_lt, iI_le, iI_inj, iI_toInt, ↓ii01, ↓ii11, ↓bI_b, bI_0, bI_1, Kt_s, Kt_n, cat0, cat1, cat2, cat3, cat4, rfV, Nat.reduceAdd, Nat.reduceMul, Nat.reduceEqDiff, Int.reduceAdd, Int.reduceSub, Int.reduceMul, Int.reduceNeg, Int.reduceLT, Int.reduceLE, Int.reduceEq, Int.reduceDiv, ↓reduceIte, ↓ite_ww, ↓ite_wi, Br_n, Br_TW, Br_FW, Br_FP, Br_FB, nn_p, and_true, true_and, and_self, true_or, or_true, not_true_eq_false, not_false_eq_true, le_T, le_F, lt_T, lt_F, eq_T, eq_F, Int.add_zero, Int.zero_add, Int.one_mul, Int.mul_one, up_eq, up_ne, Int.add_assoc, Int.add_sub_cancel, Int.sub_zero, Int.sub_self, S_18_0, S_18_1, S_18_4, S_18_5, S_18_7, S_18_8, S_18_11, S_18_14, S_18_17, S_18_18, S_18_21, S_18_22, S_18_23, S_18_26, S_18_27, S_18_30, S_18_33, S_18_34, S_18_35, S_18_36, S_18_37, S_18_38, S_18_41, S_18_44, S_18_47, S_18_50, S_18_51, S_18_54, S_18_57]))
        exact ih
  repeat' (first | (with_reducible refine Br_i ?_ ?_ <;> (intro hbr; first | exact False.elim hbr | skip)) | (with_reducible refine Wl_i ?_) | (simp (disch := first | omega | exact okF _ | exact okI _ | exact okR _ | assumption | exact okN) only [u_at, iI_zero, iI_31, iI_add, iI_sub, iI_mul, iI_neg, ↓iI_max, ↓iI_min, iI_div, emod_f, iI_lt, iI_le, iI_inj, iI_toInt, ↓ii01, ↓ii11, ↓bI_b, bI_0, bI_1, Kt_s, Kt_n, cat0, cat1, cat2, cat3, cat4, rfV, Nat.reduceAdd, Nat.reduceMul, Nat.reduceEqDiff, Int.reduceAdd, Int.reduceSub, Int.reduceMul, Int.reduceNeg, Int.reduceLT, Int.reduceLE, Int.reduceEq, Int.reduceDiv, ↓reduceIte, ↓ite_ww, ↓ite_wi, Br_n, Br_TW, Br_FW, Br_FP, Br_FB, nn_p, and_true, true_and, and_self, true_or, or_true, not_true_eq_false, not_false_eq_true, le_T, le_F, lt_T, lt_F, eq_T, eq_F, Int.add_zero, Int.zero_add, Int.one_mul, Int.mul_one, up_eq, up_ne, Int.add_assoc, Int.add_sub_cancel, Int.sub_zero, Int.sub_self, S_18_0, S_18_1, S_18_4, S_18_5, S_18_6, S_18_7, S_18_8, S_18_11, S_18_14, S_18_17, S_18_18, S_18_21, S_18_22, S_18_23, S_18_26, S_18_27, S_18_30, S_18_33, S_18_34, S_18_35, S_18_36, S_18_37, S_18_38, S_18_41, S_18_44, S_18_47, S_18_50, S_18_51, S_18_54, S_18_57, H_119]))
  refine c_bringAll hI g fun s' f' C' => ?_
  have l0 := loop (A 6).toNat (fun _ => 0) 0 s' f' C' (by omega) (by omega) rfl (.float 0) rfl
  repeat' (first | (with_reducible refine Br_i ?_ ?_ <;> (intro hbr; first | exact False.elim hbr | skip)) | (with_reducible refine Wl_i ?_) | (simp (disch := first | omega | exact okF _ | exact okI _ | exact okR _ | assumption | exact okN) only [u_at, iI_zero, iI_31, iI_add, iI_sub, iI_mul, iI_neg, ↓iI_max, ↓iI_min, iI_div, emod_f, iI_lt, iI_le, iI_inj, iI_toInt, ↓ii01, ↓ii11, ↓bI_b, bI_0, bI_1, Kt_s, Kt_n, cat0, cat1, cat2, cat3, cat4, rfV, Nat.reduceAdd, Nat.reduceMul, Nat.reduceEqDiff, Int.reduceAdd, Int.reduceSub, Int.reduceMul, Int.reduceNeg, Int.reduceLT, Int.reduceLE, Int.reduceEq, Int.reduceDiv, ↓reduceIte, ↓ite_ww, ↓ite_wi, Br_n, Br_TW, Br_FW, Br_FP, Br_FB, nn_p, and_true, true_and, and_self, true_or, or_true, not_true_eq_false, not_false_eq_true, le_T, le_F, lt_T, lt_F, eq_T, eq_F, Int.add_zero, Int.zero_add, Int.one_mul, Int.mul_one, up_eq, up_ne, Int.add_assoc, Int.add_sub_cancel, Int.sub_zero, Int.sub_self, S_18_0, S_18_1, S_18_4, S_18_5, S_18_7, S_18_8, S_18_11, S_18_14, S_18_17, S_18_18, S_18_21, S_18_22, S_18_23, S_18_26, S_18_27, S_18_30, S_18_33, S_18_34, S_18_35, S_18_36, S_18_37, S_18_38, S_18_41, S_18_44, S_18_47, S_18_50, S_18_51, S_18_54, S_18_57]))
  exact l0
theorem c_net (hI : IC0 0 s A) (g : gOK A) (hw : (-2147483648 ≤ w ∧ w < 2147483648)) (k : ∀ s', Fr [120, 121] s s' → Q (some (.int (iI (if 0 ≤ w ∧ w ≤ 7 then nt A (fun _ => 0) w else -1000000)))) (hp X s')) : Wp (d + 4) 149 0 [.ref 5, .int (iI w)] [] (hp X s) Q := by
  by_cases c : 0 ≤ w ∧ w ≤ 7
  · rw [if_pos c] at k
    have b := nt_b (G := fun _ => 0) g w
    repeat' (first | (with_reducible refine Br_i ?_ ?_ <;> (intro hbr; first | exact False.elim hbr | skip)) | (with_reducible refine Wl_i ?_) | (simp (disch := first | omega | exact okF _ | exact okI _ | exact okR _ | assumption | exact okN) only [u_at, iI_zero, iI_31, iI_add, iI_sub, iI_mul, iI_neg, ↓iI_max, ↓iI_min, iI_div, emod_f, iI_lt, iI_le, iI_inj, iI_toInt, ↓ii01, ↓ii11, ↓bI_b, bI_0, bI_1, Kt_s, Kt_n, cat0, cat1, cat2, cat3, cat4, rfV, Nat.reduceAdd, Nat.reduceMul, Nat.reduceEqDiff, Int.reduceAdd, Int.reduceSub, Int.reduceMul, Int.reduceNeg, Int.reduceLT, Int.reduceLE, Int.reduceEq, Int.reduceDiv, ↓reduceIte, ↓ite_ww, ↓ite_wi, Br_n, Br_TW, Br_FW, Br_FP, Br_FB, nn_p, and_true, true_and, and_self, true_or, or_true, not_true_eq_false, not_false_eq_true, le_T, le_F, lt_T, lt_F, eq_T, eq_F, Int.add_zero, Int.zero_add, Int.one_mul, Int.mul_one, up_eq, up_ne, Int.add_assoc, Int.add_sub_cancel, Int.sub_zero, Int.sub_self, S_149_0, S_149_1, S_149_4, S_149_7, S_149_9, S_149_10, S_149_11, S_149_14, S_149_17, S_149_18, S_149_21, S_149_24, S_149_25, S_149_28, c_isPerson, H_5, H_119]))
    refine c_bringAll hI g fun s' f' C' => ?_
    have k := k s' f'
    have e := C'.2 w (by omega) (by omega)
    repeat' (first | (with_reducible refine Br_i ?_ ?_ <;> (intro hbr; first | exact False.elim hbr | skip)) | (with_reducible refine Wl_i ?_) | (simp (disch := first | omega | exact okF _ | exact okI _ | exact okR _ | assumption | exact okN) only [u_at, iI_zero, iI_31, iI_add, iI_sub, iI_mul, iI_neg, ↓iI_max, ↓iI_min, iI_div, emod_f, iI_lt, iI_le, iI_inj, iI_toInt, ↓ii01, ↓ii11, ↓bI_b, bI_0, bI_1, Kt_s, Kt_n, cat0, cat1, cat2, cat3, cat4, rfV, Nat.reduceAdd, Nat.reduceMul, Nat.reduceEqDiff, Int.reduceAdd, Int.reduceSub, Int.reduceMul, Int.reduceNeg, Int.reduceLT, Int.reduceLE, Int.reduceEq, Int.reduceDiv, ↓reduceIte, ↓ite_ww, ↓ite_wi, Br_n, Br_TW, Br_FW, Br_FP, Br_FB, nn_p, and_true, true_and, and_self, true_or, or_true, not_true_eq_false, not_false_eq_true, le_T, le_F, lt_T, lt_F, eq_T, eq_F, Int.add_zero, Int.zero_add, Int.one_mul, Int.mul_one, up_eq, up_ne, Int.add_assoc, Int.add_sub_cancel, Int.sub_zero, Int.sub_self, S_149_0, S_149_1, S_149_4, S_149_7, S_149_9, S_149_10, S_149_11, S_149_14, S_149_17, S_149_18, S_149_21, S_149_24, S_149_25, S_149_28, H_5, H_119, c_cell_120, e]))
    exact k
  · rw [if_neg c] at k
    have k := k s (Fr.rf s)
    repeat' (first | (with_reducible refine Br_i ?_ ?_ <;> (intro hbr; first | exact False.elim hbr | skip)) | (with_reducible refine Wl_i ?_) | (simp (disch := first | omega | exact okF _ | exact okI _ | exact okR _ | assumption | exact okN) only [u_at, iI_zero, iI_31, iI_add, iI_sub, iI_mul, iI_neg, ↓iI_max, ↓iI_min, iI_div, emod_f, iI_lt, iI_le, iI_inj, iI_toInt, ↓ii01, ↓ii11, ↓bI_b, bI_0, bI_1, Kt_s, Kt_n, cat0, cat1, cat2, cat3, cat4, rfV, Nat.reduceAdd, Nat.reduceMul, Nat.reduceEqDiff, Int.reduceAdd, Int.reduceSub, Int.reduceMul, Int.reduceNeg, Int.reduceLT, Int.reduceLE, Int.reduceEq, Int.reduceDiv, ↓reduceIte, ↓ite_ww, ↓ite_wi, Br_n, Br_TW, Br_FW, Br_FP, Br_FB, nn_p, and_true, true_and, and_self, true_or, or_true, not_true_eq_false, not_false_eq_true, le_T, le_F, lt_T, lt_F, eq_T, eq_F, Int.add_zero, Int.zero_add, Int.one_mul, Int.mul_one, up_eq, up_ne, Int.add_assoc, Int.add_sub_cancel, Int.sub_zero, Int.sub_self, S_149_0, S_149_1, S_149_4, S_149_7, S_149_9, S_149_10, S_149_11, S_149_14, S_149_17, S_149_18, S_149_21, S_149_24, S_149_25, S_149_28, c_isPerson]))
    all_goals first | exact k | (exfalso; omega)
theorem c_steady (hI : IC0 0 s A) (g : gOK A) (k : ∀ s', Fr [120, 121] s s' → Q (some (.int (iI (stdy A (A 6).toNat (fun _ => 0) 0)))) (hp X s')) : Wp (d + 5) 150 0 [.ref 5] [] (hp X s) Q := by
  repeat' (first | (with_reducible refine Br_i ?_ ?_ <;> (intro hbr; first | exact False.elim hbr | skip)) | (with_reducible refine Wl_i ?_) | (simp (disch := first | omega | exact okF _ | exact okI _ | exact okR _ | assumption | exact okN) only [u_at, iI_zero, iI_31, iI_add, iI_sub, iI_mul, iI_neg, ↓iI_max, ↓iI_min, iI_div, emod_f, iI_lt, iI_le, iI_inj, iI_toInt, ↓ii01, ↓ii11, ↓bI_b, bI_0, bI_1, Kt_s, Kt_n, cat0, cat1, cat2, cat3, cat4, rfV, Nat.reduceAdd, Nat.reduceMul, Nat.reduceEqDiff, Int.reduceAdd, Int.reduceSub, Int.reduceMul, Int.reduceNeg, Int.reduceLT, Int.reduceLE, Int.reduceEq, Int.reduceDiv, ↓reduceIte, ↓ite_ww, ↓ite_wi, Br_n, Br_TW, Br_FW, Br_FP, Br_FB, nn_p, and_true, true_and, and_self, true_or, or_true, not_true_eq_false, not_false_eq_true, le_T, le_F, lt_T, lt_F, eq_T, eq_F, Int.add_zero, Int.zero_add, Int.one_mul, Int.mul_one, up_eq, up_ne, Int.add_assoc, Int.add_sub_cancel, Int.sub_zero, Int.sub_self, S_150_0, S_150_1, S_150_4, S_150_7, H_5, H_119]))
  refine c_takenTillSteady hI g fun s' f' => ?_
  have k := k s' f'
  repeat' (first | (with_reducible refine Br_i ?_ ?_ <;> (intro hbr; first | exact False.elim hbr | skip)) | (with_reducible refine Wl_i ?_) | (simp (disch := first | omega | exact okF _ | exact okI _ | exact okR _ | assumption | exact okN) only [u_at, iI_zero, iI_31, iI_add, iI_sub, iI_mul, iI_neg, ↓iI_max, ↓iI_min, iI_div, emod_f, iI_lt, iI_le, iI_inj, iI_toInt, ↓ii01, ↓ii11, ↓bI_b, bI_0, bI_1, Kt_s, Kt_n, cat0, cat1, cat2, cat3, cat4, rfV, Nat.reduceAdd, Nat.reduceMul, Nat.reduceEqDiff, Int.reduceAdd, Int.reduceSub, Int.reduceMul, Int.reduceNeg, Int.reduceLT, Int.reduceLE, Int.reduceEq, Int.reduceDiv, ↓reduceIte, ↓ite_ww, ↓ite_wi, Br_n, Br_TW, Br_FW, Br_FP, Br_FB, nn_p, and_true, true_and, and_self, true_or, or_true, not_true_eq_false, not_false_eq_true, le_T, le_F, lt_T, lt_F, eq_T, eq_F, Int.add_zero, Int.zero_add, Int.one_mul, Int.mul_one, up_eq, up_ne, Int.add_assoc, Int.add_sub_cancel, Int.sub_zero, Int.sub_self, S_150_0, S_150_1, S_150_4, S_150_7]))
  exact k
end CN
