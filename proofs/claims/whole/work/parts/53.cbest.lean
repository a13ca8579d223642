/-! THE CLASS: the best weight -/
/-- outside the row n of the class's offers -/
def outC (s s2 : sg) (n : Int) : Prop := ∀ z, (z < n * 12 ∨ n * 12 + 12 ≤ z) → s2 56 z = s 56 z
theorem cO_out {s s2 : sg} {A : Int → Int} {n o : Int} (h : outC s s2 n) (ho : 0 ≤ o ∧ ¬ o = n) (hn : 0 ≤ A (180 + (13 * o + 2)) ∧ A (180 + (13 * o + 2)) ≤ 3) (c : cO 0 s A o) : cO 0 s2 A o := by
  obtain ⟨a, b, d, e⟩ := c
  have h' : ∀ j, 0 ≤ j → j < 12 → s2 56 (o * 12 + j) = s 56 (o * 12 + j) := fun j j0 j1 => h _ (by omega)
  have h0 : s2 56 (o * 12) = s 56 (o * 12) := h _ (by omega)
  refine ⟨h0.trans a, (h' 1 (by omega) (by omega)).trans b, (h' 2 (by omega) (by omega)).trans d, fun i i0 i1 => ?_⟩
  have := e i i0 i1
  exact ⟨(h' (3 + 3 * i) (by omega) (by omega)).trans this.1, (h' (3 + (3 * i + 1)) (by omega) (by omega)).trans this.2.1, (h' (3 + (3 * i + 2)) (by omega) (by omega)).trans this.2.2⟩
section CB
variable {d : Nat} {X : hX} {s : sg} {Q : Option Value → aH → Prop} {n h k t o : Int} {A : Int → Int} {l : lawT}
def row1 (f : Int → Int) (n k h t w : Int) : Int → Int := up (up (up (up (up (up (up f (n * 12) k) (n * 12 + 1) h) (n * 12 + 2) 0) (n * 12 + 3) t) (n * 12 + 4) w) (n * 12 + 5) 0) (n * 12 + 2) 1
theorem c_layOne (ho : 0 ≤ n ∧ n < 22) (ht : 0 ≤ t ∧ t < 10) : Wp (d + 4) 101 0 [.ref 105, .int (iI n), .int (iI k), .int (iI h), .int (iI t)] [] (hp X s) Q = Q none (hp X (u s 56 (row1 (s 56) n k h t (s 50 (t * 4 + 1))))) := by
  unfold row1
  have e : u s 56 (up (up (up (s 56) (n * 12) k) (n * 12 + 1) h) (n * 12 + 2) 0) 56 (n * 12 + 2) = 0 := by rw [u_eq, up_eq rfl]
  have ti := fun (d : Nat) (Q : Option Value → aH → Prop) => c_tie (d := d) (X := X) (Q := Q) (s := u s 56 (up (up (up (s 56) (n * 12) k) (n * 12 + 1) h) (n * 12 + 2) 0)) (o := n) (a := t) (b := s 50 (t * 4 + 1)) (c := 0) ⟨ho, by rw [e]; omega⟩
  simp only [e] at ti
  simp (disch := first | omega | exact okF _ | exact okI _ | exact okR _ | assumption | exact okN) only [S_101_0, S_101_1, S_101_4, S_101_5, S_101_6, S_101_7, S_101_10, S_101_11, S_101_14, S_101_15, S_101_17, S_101_18, S_101_21, S_101_23, S_101_26, S_101_27, S_101_30, S_101_31, u_at, iI_zero, iI_31, iI_add, iI_sub, iI_mul, iI_neg, ↓iI_max, ↓iI_min, iI_div, emod_f, iI_lt, iI_le, iI_inj, iI_toInt, ↓ii01, ↓ii11, ↓bI_b, bI_0, bI_1, Kt_s, Kt_n, cat0, cat1, cat2, cat3, cat4, rfV, Nat.reduceAdd, Nat.reduceMul, Nat.reduceEqDiff, Int.reduceAdd, Int.reduceSub, Int.reduceMul, Int.reduceNeg, Int.reduceLT, Int.reduceLE, Int.reduceEq, Int.reduceDiv, ↓reduceIte, ↓ite_ww, ↓ite_wi, Br_n, Br_TW, Br_FW, Br_FP, Br_FB, nn_p, and_true, true_and, and_self, true_or, or_true, not_true_eq_false, not_false_eq_true, le_T, le_F, lt_T, lt_F, eq_T, eq_F, Int.add_zero, Int.zero_add, Int.one_mul, Int.mul_one, up_eq, up_ne, Int.add_assoc, Int.add_sub_cancel, Int.sub_zero, Int.sub_self, H_105, H_48, c_lay, c_light, ti, u_u]
theorem row1_at {f : Int → Int} {w : Int} : row1 f n k h t w (n * 12) = k ∧ row1 f n k h t w (n * 12 + 1) = h ∧ row1 f n k h t w (n * 12 + 2) = 1 ∧ row1 f n k h t w (n * 12 + 3) = t ∧ row1 f n k h t w (n * 12 + 4) = w ∧ row1 f n k h t w (n * 12 + 5) = 0 := by
  unfold row1
  refine ⟨?_, ?_, ?_, ?_, ?_, ?_⟩ <;> simp (disch := omega) only [up_eq, up_ne]
theorem row1_ne {f : Int → Int} {w z : Int} (hz : z < n * 12 ∨ n * 12 + 12 ≤ z) : row1 f n k h t w z = f z := by
  unfold row1
  simp only [up_at]
  repeat' split
  all_goals first | rfl | omega
theorem c_bestWeight (hI : IC0 0 s A) (hc : curC s l) (hl : lawOK l) (W : WF0 A) (hw : ∀ o, 0 ≤ o → o < A 3 → WO A o) (hm : ∀ o, 0 ≤ o → o < A 3 → CO A l o s) (hk : 0 ≤ k ∧ k < A 1) (hh : 0 ≤ h ∧ h < 4) (ht : 0 ≤ t ∧ t < A 0) (kk : ∀ s', Fr [105002, 56, 85, 86, 88, 89, 90, 91, 92, 93, 95, 96, 97, 98, 99, 100, 101, 102, 103, 104, 113, 114, 115, 116, 117] s s' → outC s s' (A 3) → s' 105002 0 = (bOf A l (A 3) k h t 0).2 → (∀ o, 0 ≤ o → o < A 3 → CO A l o s') → Q (some (.int (iI (bOf A l (A 3) k h t 0).1))) (hp X s')) : Wp (d + 8) 102 0 [.ref 105, .int (iI k), .int (iI t), .int (iI h), .float 0, .float 0, .float 0, .float 0] [] (hp X s) Q := by
  have w0 := W.1
  unfold W0 at w0
  have wt := W.2.1 t ht.1 ht.2
  have wt2 := wt.2.1
  have n3 : s 55004 0 = A 3 := hI.1.2.2.2.1
  have t1 : s 50 (t * 4 + 1) = A (10 + (4 * t + 1)) := (hI.2.1 t ht.1 ht.2).2.1
  have t2 : s 50 (t * 4 + 2) = A (10 + (4 * t + 2)) := (hI.2.1 t ht.1 ht.2).2.2.1
  have loop : ∀ w s1, w ≤ A (10 + (4 * t + 2)) + 1 → (A (10 + (4 * t + 1)) ≤ w ∧ Fr [105002, 56, 85, 86, 88, 89, 90, 91, 92, 93, 95, 96, 97, 98, 99, 100, 101, 102, 103, 104, 113, 114, 115, 116, 117] s s1 ∧ outC s s1 (A 3) ∧ (s1 56 (A 3 * 12) = k ∧ s1 56 (A 3 * 12 + 1) = h ∧ s1 56 (A 3 * 12 + 2) = 1 ∧ s1 56 (A 3 * 12 + 3) = t ∧ s1 56 (A 3 * 12 + 5) = 0) ∧ (∀ o, 0 ≤ o → o < A 3 → CO A l o s1) ∧ (A (10 + (4 * t + 1)) < w → s1 105002 0 = (bfd (eOne A l (A 3) k h t) 0 (A (10 + (4 * t + 1))) w).2)) → ∀ v7, okO v7 = true → Wp (d + 8) 102 34 [.ref 105, .int (iI k), .int (iI t), .int (iI h), .int (iI (A 3)), .int (iI (bfd (eOne A l (A 3) k h t) 0 (A (10 + (4 * t + 1))) w).1), .int (iI w), v7] [] (hp X s1) Q := by
    refine lp ?_ ?_
    · intro w s1 hi ⟨w1, hf, ho, ⟨h0, h1, h2, h3, h5⟩, hm1, hb⟩ kk2 v7 o7
      have e50 := hf.g 50 rfl
      have z0 := fOne_0 (A := A) (n := A 3) (k := k) (h := h) (t := t) (w := w) (by omega)
      have zw : ∀ p, 0 ≤ p → p < A 3 + 1 → WO (fOne A (A 3) k h t w) p := by
        intro p p0 p1
        by_cases e : p = A 3
        · rw [e]; exact fOne_w (by omega) hk hh ht (by omega)
        · exact WO_cg z0 (fOne_o e) (hw p p0 (by omega))
      have rw' := fun (d : Nat) (Q : Option Value → aH → Prop) => c_reweigh (d := d) (X := X) (Q := Q) (s := s1) (o := A 3) (i := 0) (w := w) ⟨by omega, by omega⟩
      simp only [Int.mul_zero, Int.zero_add, Int.reduceAdd] at rw'
      rw [S_102_34]
      repeat' (first | (with_reducible refine Br_i ?_ ?_ <;> (intro hbr; first | exact False.elim hbr | skip)) | (with_reducible refine Wl_i ?_) | (simp (disch := first | omega | exact okF _ | exact okI _ | exact okR _ | assumption | exact okN) only [u_at, iI_zero, iI_31, iI_add, iI_sub, iI_mul, iI_neg, ↓iI_max, ↓iI_min, iI_div, emod_f, iI_lt, iI_le, iI_inj, iI_toInt, ↓ii01, ↓ii11, ↓bI_b, bI_0, bI_1, Kt_s, Kt_n, cat0, cat1, cat2, cat3, cat4, rfV, Nat.reduceAdd, Nat.reduceMul, Nat.reduceEqDiff, Int.reduceAdd, Int.reduceSub, Int.reduceMul, Int.reduceNeg, Int.reduceLT, Int.reduceLE, Int.reduceEq, Int.reduceDiv, ↓reduceIte, ↓ite_ww, ↓ite_wi, Br_n, Br_TW, Br_FW, Br_FP, Br_FB, nn_p, and_true, true_and, and_self, true_or, or_true, not_true_eq_false, not_false_eq_true, le_T, le_F, lt_T, lt_F, eq_T, eq_F, Int.add_zero, Int.zero_add, Int.one_mul, Int.mul_one, up_eq, up_ne, Int.add_assoc, Int.add_sub_cancel, Int.sub_zero, Int.sub_self, S_102_0, S_102_1, S_102_4, S_102_7, S_102_10, S_102_12, S_102_13, S_102_15, S_102_16, S_102_18, S_102_19, S_102_20, S_102_21, S_102_24, S_102_25, S_102_28, S_102_29, S_102_32, S_102_36, S_102_37, S_102_40, S_102_41, S_102_44, S_102_47, S_102_48, S_102_51, S_102_53, S_102_54, S_102_56, S_102_59, S_102_60, S_102_62, S_102_64, S_102_65, S_102_66, S_102_67, S_102_70, S_102_72, S_102_74, S_102_75, S_102_78, S_102_80, S_102_81, S_102_84, S_102_87, S_102_89, S_102_91, S_102_92, S_102_94, S_102_97, S_102_100, S_102_103, S_102_105, H_105, H_48, c_heavy, e50, t2, rw']))
      have f2 : Fr [105002, 56, 85, 86, 88, 89, 90, 91, 92, 93, 95, 96, 97, 98, 99, 100, 101, 102, 103, 104, 113, 114, 115, 116, 117] s (u s1 56 (up (s1 56) (A 3 * 12 + 4) w)) := hf.u rfl
      have fs : Fr [56] s1 (u s1 56 (up (s1 56) (A 3 * 12 + 4) w)) := (by repeat (first | exact Fr.rf _ | refine Fr.u ?_ rfl))
      have g : ∀ z, ¬ z = A 3 * 12 + 4 → u s1 56 (up (s1 56) (A 3 * 12 + 4) w) 56 z = s1 56 z := fun z hz => by rw [u_eq, up_ne hz]
      refine c_earnedWith (A := fOne A (A 3) k h t w) (IC0_cgA W.1 z0 (IC0_fr f2 rfl hI)) (curC_fr f2 rfl hc) hl (WF0_cg z0 W) zw ?_ ?_ (by omega) (by omega) (by rw [z0 1 (by omega)]; exact hk) ?_
      · exact cO_one (by rw [g _ (by omega)]; exact h0) (by rw [g _ (by omega)]; exact h1) (by rw [g _ (by omega)]; exact h2) (by rw [g _ (by omega)]; exact h3) (by rw [u_eq, up_eq rfl]) (by rw [g _ (by omega)]; exact h5)
      · intro p p0 p1 pn
        exact CO_cg W.1 z0 (fOne_o pn) (hw p p0 (by omega)) (CO_fr fs (by omega) rfl (hm1 p p0 (by omega)))
      · intro s3 f3 hm3
        have F : Fr [105002, 56, 85, 86, 88, 89, 90, 91, 92, 93, 95, 96, 97, 98, 99, 100, 101, 102, 103, 104, 113, 114, 115, 116, 117] s s3 := f2.to f3 rfl
        have e56 := f3.g 56 rfl
        have O : outC s s3 (A 3) := fun z hz => by rw [e56, g z (by omega)]; exact ho z hz
        have R : s3 56 (A 3 * 12) = k ∧ s3 56 (A 3 * 12 + 1) = h ∧ s3 56 (A 3 * 12 + 2) = 1 ∧ s3 56 (A 3 * 12 + 3) = t ∧ s3 56 (A 3 * 12 + 5) = 0 := by
          rw [e56, g _ (by omega), g _ (by omega), g _ (by omega), g _ (by omega), g _ (by omega)]
          exact ⟨h0, h1, h2, h3, h5⟩
        have M3 : ∀ o, 0 ≤ o → o < A 3 → CO A l o s3 := fun o o0 o1 => CO_cg (W0_cg z0 W.1) z0.sy (fOne_o (by omega)).sy (zw o o0 (by omega)) (hm3 o o0 (by omega))
        have b3 : A (10 + (4 * t + 1)) < w → s3 105002 0 = (bfd (eOne A l (A 3) k h t) 0 (A (10 + (4 * t + 1))) w).2 := fun q => by
          rw [f3.g 105002 rfl, fs.g 105002 rfl]; exact hb q
        have ee : (year (fOne A (A 3) k h t w) l (A 3 + 1)).2.1 k = eOne A l (A 3) k h t w := rfl
        rw [ee]
        have rr := bfd_r (e := eOne A l (A 3) k h t) (v := 0) (by omega) w1
        have st := bfd_s (e := eOne A l (A 3) k h t) (v := 0) w1
        unfold bst at st
        generalize bfd (eOne A l (A 3) k h t) 0 (A (10 + (4 * t + 1))) w = B at *
        have rb : -1 ≤ B.1 ∧ B.1 ≤ 41 := by omega
        by_cases c : B.1 = -1 ∨ lt32 B.2 (eOne A l (A 3) k h t w)
        · rw [if_pos c] at st
          have kk2 := kk2 (u s3 105002 (fun _ => eOne A l (A 3) k h t w)) ⟨by omega, F.u rfl, O, R, fun o o0 o1 => CO_fr ((by repeat (first | exact Fr.rf _ | refine Fr.u ?_ rfl)) : Fr [105002] s3 _) (by omega) rfl (M3 o o0 o1), fun _ => by rw [st, u_eq]⟩ (.int (iI (eOne A l (A 3) k h t w))) rfl
          rw [st] at kk2
          by_cases c1 : B.1 = -1
          · repeat' (first | (with_reducible refine Br_i ?_ ?_ <;> (intro hbr; first | exact False.elim hbr | skip)) | (with_reducible refine Wl_i ?_) | (simp (disch := first | omega | exact okF _ | exact okI _ | exact okR _ | assumption | exact okN) only [u_at, iI_zero, iI_31, iI_add, iI_sub, iI_mul, iI_neg, ↓iI_max, ↓iI_min, iI_div, emod_f, iI_lt, iI_le, iI_inj, iI_toInt, ↓ii01, ↓ii11, ↓bI_b, bI_0, bI_1, Kt_s, Kt_n, cat0, cat1, cat2, cat3, cat4, rfV, Nat.reduceAdd, Nat.reduceMul, Nat.reduceEqDiff, Int.reduceAdd, Int.reduceSub, Int.reduceMul, Int.reduceNeg, Int.reduceLT, Int.reduceLE, Int.reduceEq, Int.reduceDiv, ↓reduceIte, ↓ite_ww, ↓ite_wi, Br_n, Br_TW, Br_FW, Br_FP, Br_FB, nn_p, and_true, true_and, and_self, true_or, or_true, not_true_eq_false, not_false_eq_true, le_T, le_F, lt_T, lt_F, eq_T, eq_F, Int.add_zero, Int.zero_add, Int.one_mul, Int.mul_one, up_eq, up_ne, Int.add_assoc, Int.add_sub_cancel, Int.sub_zero, Int.sub_self, S_102_0, S_102_1, S_102_4, S_102_7, S_102_10, S_102_12, S_102_13, S_102_15, S_102_16, S_102_18, S_102_19, S_102_20, S_102_21, S_102_24, S_102_25, S_102_28, S_102_29, S_102_32, S_102_36, S_102_37, S_102_40, S_102_41, S_102_44, S_102_47, S_102_48, S_102_51, S_102_53, S_102_54, S_102_56, S_102_59, S_102_60, S_102_62, S_102_64, S_102_65, S_102_66, S_102_67, S_102_70, S_102_72, S_102_74, S_102_75, S_102_78, S_102_80, S_102_81, S_102_84, S_102_87, S_102_89, S_102_91, S_102_92, S_102_94, S_102_97, S_102_100, S_102_103, S_102_105, H_105, c1]))
            exact kk2
          · have c2 := c.resolve_left c1
            unfold lt32 at c2
            have b3 := b3 (by omega)
            repeat' (first | (with_reducible refine Br_i ?_ ?_ <;> (intro hbr; first | exact False.elim hbr | skip)) | (with_reducible refine Wl_i ?_) | (simp (disch := first | omega | exact okF _ | exact okI _ | exact okR _ | assumption | exact okN) only [u_at, iI_zero, iI_31, iI_add, iI_sub, iI_mul, iI_neg, ↓iI_max, ↓iI_min, iI_div, emod_f, iI_lt, iI_le, iI_inj, iI_toInt, ↓ii01, ↓ii11, ↓bI_b, bI_0, bI_1, Kt_s, Kt_n, cat0, cat1, cat2, cat3, cat4, rfV, Nat.reduceAdd, Nat.reduceMul, Nat.reduceEqDiff, Int.reduceAdd, Int.reduceSub, Int.reduceMul, Int.reduceNeg, Int.reduceLT, Int.reduceLE, Int.reduceEq, Int.reduceDiv, ↓reduceIte, ↓ite_ww, ↓ite_wi, Br_n, Br_TW, Br_FW, Br_FP, Br_FB, nn_p, and_true, true_and, and_self, true_or, or_true, not_true_eq_false, not_false_eq_true, le_T, le_F, lt_T, lt_F, eq_T, eq_F, Int.add_zero, Int.zero_add, Int.one_mul, Int.mul_one, up_eq, up_ne, Int.add_assoc, Int.add_sub_cancel, Int.sub_zero, Int.sub_self, S_102_0, S_102_1, S_102_4, S_102_7, S_102_10, S_102_12, S_102_13, S_102_15, S_102_16, S_102_18, S_102_19, S_102_20, S_102_21, S_102_24, S_102_25, S_102_28, S_102_29, S_102_32, S_102_36, S_102_37, S_102_40, S_102_41, S_102_44, S_102_47, S_102_48, S_102_51, S_102_53, S_102_54, S_102_56, S_102_59, S_102_60, S_102_62, S_102_64, S_102_65, S_102_66, S_102_67, S_102_70, S_102_72, S_102_74, S_102_75, S_102_78, S_102_80, S_102_81, S_102_84, S_102_87, S_102_89, S_102_91, S_102_92, S_102_94, S_102_97, S_102_100, S_102_103, S_102_105, H_105, b3, c2]))
            exact kk2
        · rw [if_neg c] at st
          have c1 : ¬ B.1 = -1 := fun q => c (Or.inl q)
          have b3 := b3 (by omega)
          have kk2 := kk2 s3 ⟨by omega, F, O, R, M3, fun _ => by rw [st]; exact b3⟩ (.int (iI (eOne A l (A 3) k h t w))) rfl
          rw [st] at kk2
          have c2 : iI (eOne A l (A 3) k h t w) ≤ iI B.2 := Classical.byContradiction fun q => c (Or.inr q)
          repeat' (first | (with_reducible refine Br_i ?_ ?_ <;> (intro hbr; first | exact False.elim hbr | skip)) | (with_reducible refine Wl_i ?_) | (simp (disch := first | omega | exact okF _ | exact okI _ | exact okR _ | assumption | exact okN) only [u_at, iI_zero, iI_31, iI_add, iI_sub, iI_mul, iI_neg, ↓iI_max, ↓iI_min, iI_div, emod_f, iI_lt, iI_le, iI_inj, iI_toInt, ↓ii01, ↓ii11, ↓bI_b, bI_0, bI_1, Kt_s, Kt_n, cat0, cat1, cat2, cat3, cat4, rfV, Nat.reduceAdd, Nat.reduceMul, Nat.reduceEqDiff, Int.reduceAdd, Int.reduceSub, Int.reduceMul, Int.reduceNeg, Int.reduceLT, Int.reduceLE, Int.reduceEq, Int.reduceDiv, ↓reduceIte, ↓ite_ww, ↓ite_wi, Br_n, Br_TW, Br_FW, Br_FP, Br_FB, nn_p, and_true, true_and, and_self, true_or, or_true, not_true_eq_false, not_false_eq_true, le_T, le_F, lt_T, lt_F, eq_T, eq_F, Int.add_zero, Int.zero_add, Int.one_mul, Int.mul_one, up_eq, up_ne, Int.add_assoc, Int.add_sub_cancel, Int.sub_zero, Int.sub_self, S_102_0, S_102_1, S_102_4, S_102_7, S_102_10, S_102_12, S_102_13, S_102_15, S_102_16, S_102_18, S_102_19, S_102_20, S_102_21, S_102_24, S_102_25, S_102_28, S_102_29, S_102_32, S_102_36, S_102_37, S_102_40, S_102_41, S_102_44, S_102_47, S_102_48, S_102_51, S_102_53, S_102_54, S_102_56, S_102_59, S_102_60, S_102_62, S_102_64, S_102_65, S_102_66, S_102_67, S_102_70, S_102_72, S_102_74, S_102_75, S_102_78, S_102_80, S_102_81, S_102_84, S_102_87, S_102_89, S_102_91, S_102_92, S_102_94, S_102_97, S_102_100, S_102_103, S_102_105, H_105, b3, c1, c2]))
          exact kk2
    · intro s1 ⟨w1, hf, ho, hr, hm1, hb⟩ v7 o7
      have e50 := hf.g 50 rfl
      repeat' (first | (with_reducible refine Br_i ?_ ?_ <;> (intro hbr; first | exact False.elim hbr | skip)) | (with_reducible refine Wl_i ?_) | (simp (disch := first | omega | exact okF _ | exact okI _ | exact okR _ | assumption | exact okN) only [u_at, iI_zero, iI_31, iI_add, iI_sub, iI_mul, iI_neg, ↓iI_max, ↓iI_min, iI_div, emod_f, iI_lt, iI_le, iI_inj, iI_toInt, ↓ii01, ↓ii11, ↓bI_b, bI_0, bI_1, Kt_s, Kt_n, cat0, cat1, cat2, cat3, cat4, rfV, Nat.reduceAdd, Nat.reduceMul, Nat.reduceEqDiff, Int.reduceAdd, Int.reduceSub, Int.reduceMul, Int.reduceNeg, Int.reduceLT, Int.reduceLE, Int.reduceEq, Int.reduceDiv, ↓reduceIte, ↓ite_ww, ↓ite_wi, Br_n, Br_TW, Br_FW, Br_FP, Br_FB, nn_p, and_true, true_and, and_self, true_or, or_true, not_true_eq_false, not_false_eq_true, le_T, le_F, lt_T, lt_F, eq_T, eq_F, Int.add_zero, Int.zero_add, Int.one_mul, Int.mul_one, up_eq, up_ne, Int.add_assoc, Int.add_sub_cancel, Int.sub_zero, Int.sub_self, S_102_0, S_102_1, S_102_4, S_102_7, S_102_10, S_102_12, S_102_13, S_102_15, S_102_16, S_102_18, S_102_19, S_102_20, S_102_21, S_102_24, S_102_25, S_102_28, S_102_29, S_102_32, S_102_34, S_102_36, S_102_37, S_102_40, S_102_41, S_102_44, S_102_47, S_102_48, S_102_51, S_102_53, S_102_54, S_102_56, S_102_59, S_102_60, S_102_62, S_102_64, S_102_65, S_102_66, S_102_67, S_102_70, S_102_72, S_102_74, S_102_75, S_102_78, S_102_80, S_102_81, S_102_84, S_102_87, S_102_89, S_102_91, S_102_92, S_102_94, S_102_97, S_102_100, S_102_103, S_102_105, H_105, H_48, c_heavy, e50, t2]))
      exact kk s1 hf ho (hb (by omega)) hm1
  have r1 := row1_at (f := s 56) (n := A 3) (k := k) (h := h) (t := t) (w := A (10 + (4 * t + 1)))
  have fa : Fr [105002, 56, 85, 86, 88, 89, 90, 91, 92, 93, 95, 96, 97, 98, 99, 100, 101, 102, 103, 104, 113, 114, 115, 116, 117] s (u s 56 (row1 (s 56) (A 3) k h t (A (10 + (4 * t + 1))))) := (by repeat (first | exact Fr.rf _ | refine Fr.u ?_ rfl))
  have l0 := loop (A (10 + (4 * t + 1))) (u s 56 (row1 (s 56) (A 3) k h t (A (10 + (4 * t + 1))))) (by omega) ⟨Int.le_refl _, fa, fun z hz => by rw [u_eq, row1_ne hz], ⟨by rw [u_eq]; exact r1.1, by rw [u_eq]; exact r1.2.1, by rw [u_eq]; exact r1.2.2.1, by rw [u_eq]; exact r1.2.2.2.1, by rw [u_eq]; exact r1.2.2.2.2.2⟩, fun o o0 o1 => CO_fr ((by repeat (first | exact Fr.rf _ | refine Fr.u ?_ rfl)) : Fr [56] s _) (by omega) rfl (hm o o0 o1), fun q => by omega⟩ (.float 0) rfl
  rw [bfd_0] at l0
  repeat' (first | (with_reducible refine Br_i ?_ ?_ <;> (intro hbr; first | exact False.elim hbr | skip)) | (with_reducible refine Wl_i ?_) | (simp (disch := first | omega | exact okF _ | exact okI _ | exact okR _ | assumption | exact okN) only [u_at, iI_zero, iI_31, iI_add, iI_sub, iI_mul, iI_neg, ↓iI_max, ↓iI_min, iI_div, emod_f, iI_lt, iI_le, iI_inj, iI_toInt, ↓ii01, ↓ii11, ↓bI_b, bI_0, bI_1, Kt_s, Kt_n, cat0, cat1, cat2, cat3, cat4, rfV, Nat.reduceAdd, Nat.reduceMul, Nat.reduceEqDiff, Int.reduceAdd, Int.reduceSub, Int.reduceMul, Int.reduceNeg, Int.reduceLT, Int.reduceLE, Int.reduceEq, Int.reduceDiv, ↓reduceIte, ↓ite_ww, ↓ite_wi, Br_n, Br_TW, Br_FW, Br_FP, Br_FB, nn_p, and_true, true_and, and_self, true_or, or_true, not_true_eq_false, not_false_eq_true, le_T, le_F, lt_T, lt_F, eq_T, eq_F, Int.add_zero, Int.zero_add, Int.one_mul, Int.mul_one, up_eq, up_ne, Int.add_assoc, Int.add_sub_cancel, Int.sub_zero, Int.sub_self, S_102_0, S_102_1, S_102_4, S_102_7, S_102_10, S_102_12, S_102_13, S_102_15, S_102_16, S_102_18, S_102_19, S_102_20, S_102_21, S_102_24, S_102_25, S_102_28, S_102_29, S_102_32, S_102_36, S_102_37, S_102_40, S_102_41, S_102_44, S_102_47, S_102_48, S_102_51, S_102_53, S_102_54, S_102_56, S_102_59, S_102_60, S_102_62, S_102_64, S_102_65, S_102_66, S_102_67, S_102_70, S_102_72, S_102_74, S_102_75, S_102_78, S_102_80, S_102_81, S_102_84, S_102_87, S_102_89, S_102_91, S_102_92, S_102_94, S_102_97, S_102_100, S_102_103, S_102_105, H_105, H_48, H_55, n3, c_layOne, c_light, t1]))
  exact l0
end CB
