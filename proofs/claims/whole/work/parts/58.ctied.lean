/-! TIED, the class -/
section CT
variable {d : Nat} {X : hX} {s : sg} {Q : Option Value → aH → Prop} {n h k t t2 v w z : Int} {A B : Int → Int} {l : lawT}
/-- outside the rows n, n + 1 of the class's offers -/
def outC2 (s s2 : sg) (n : Int) : Prop := ∀ z, (z < n * 12 ∨ n * 12 + 24 ≤ z) → s2 56 z = s 56 z
theorem cO_two {s : sg} (h0 : s 56 (n * 12) = k) (h1 : s 56 (n * 12 + 1) = h) (h2 : s 56 (n * 12 + 2) = 2) (h3 : s 56 (n * 12 + 3) = t) (h4 : s 56 (n * 12 + 4) = v) (h5 : s 56 (n * 12 + 5) = 0) (h6 : s 56 (n * 12 + 6) = t2) (h7 : s 56 (n * 12 + 7) = w) (h8 : s 56 (n * 12 + 8) = 0) : cO 0 s (fTwo A n k h t v t2 w) n := by
  have e0 : fTwo A n k h t v t2 w (180 + 13 * n) = k := by
    have q := fTwo_at (A := A) (n := n) (k := k) (t := t) (w := v) (h := h) (t2 := t2) (w2 := w) (c := 0) (by omega)
    rw [Int.add_zero] at q
    exact q
  have e1 : fTwo A n k h t v t2 w (180 + (13 * n + 1)) = h := fTwo_at (c := 1) (by omega)
  have e2 : fTwo A n k h t v t2 w (180 + (13 * n + 2)) = 2 := fTwo_at (c := 2) (by omega)
  unfold cO
  rw [e0, e1, e2]
  refine ⟨h0, h1, h2, fun i i0 i1 => ?_⟩
  have ei : i = 0 ∨ i = 1 := by omega
  rcases ei with ei | ei <;> subst ei
  · have e3 : fTwo A n k h t v t2 w (180 + (13 * n + (3 + 3 * 0))) = t := fTwo_at (c := 3) (by omega)
    have e4 : fTwo A n k h t v t2 w (180 + (13 * n + (3 + (3 * 0 + 1)))) = v := fTwo_at (c := 4) (by omega)
    have e5 : fTwo A n k h t v t2 w (180 + (13 * n + (3 + (3 * 0 + 2)))) = 0 := fTwo_at (c := 5) (by omega)
    unfold cI
    rw [e3, e4, e5]
    exact ⟨h3, h4, h5⟩
  · have e3 : fTwo A n k h t v t2 w (180 + (13 * n + (3 + 3 * 1))) = t2 := fTwo_at (c := 6) (by omega)
    have e4 : fTwo A n k h t v t2 w (180 + (13 * n + (3 + (3 * 1 + 1)))) = w := fTwo_at (c := 7) (by omega)
    have e5 : fTwo A n k h t v t2 w (180 + (13 * n + (3 + (3 * 1 + 2)))) = 0 := fTwo_at (c := 8) (by omega)
    unfold cI
    rw [e3, e4, e5]
    exact ⟨h6, h7, h8⟩
theorem bOf_r (W : WF0 A) (ht : 0 ≤ t ∧ t < A 0) : 1 ≤ (bOf A l (A 3) k h t 0).1 ∧ (bOf A l (A 3) k h t 0).1 ≤ 40 := by
  have wt := (W.2.1 t ht.1 ht.2).2.1
  have r1 := bfd_r (e := eOne A l (A 3) k h t) (v := 0) (lo := A (10 + (4 * t + 1))) (z := A (10 + (4 * t + 2)) + 1) (by omega) (by omega)
  unfold bOf
  omega
theorem c_earnedApart {V U : Int} (eV : (bOf A l (A 3) k h t 0).1 = V) (eU : (bOf A l (A 3) k h t2 0).1 = U) (hI : IC0 0 s A) (hc : curC s l) (hl : lawOK l) (W : WF0 A) (hw : ∀ o, 0 ≤ o → o < A 3 → WO A o) (hm : ∀ o, 0 ≤ o → o < A 3 → CO A l o s) (hk : 0 ≤ k ∧ k < A 1) (hh : 0 ≤ h ∧ h < 4) (ht : 0 ≤ t ∧ t < A 0) (ht2 : 0 ≤ t2 ∧ t2 < A 0) (kk : ∀ s', Fr [105002, 56, 85, 86, 88, 89, 90, 91, 92, 93, 95, 96, 97, 98, 99, 100, 101, 102, 103, 104, 113, 114, 115, 116, 117] s s' → outC2 s s' (A 3) → (∀ o, 0 ≤ o → o < A 3 → CO A l o s') → Q (some (.int (iI (eApart A l (A 3) k h t t2)))) (hp X s')) : Wp (d + 9) 103 0 [.ref 105, .int (iI k), .int (iI h), .int (iI t), .int (iI V), .int (iI t2), .int (iI U), .float 0] [] (hp X s) Q := by
  have w0 := W.1
  unfold W0 at w0
  have wt := (W.2.1 t ht.1 ht.2).2.1
  have wt2 := (W.2.1 t2 ht2.1 ht2.2).2.1
  have n3 : s 55004 0 = A 3 := hI.1.2.2.2.1
  have t1 : s 50 (t * 4 + 1) = A (10 + (4 * t + 1)) := (hI.2.1 t ht.1 ht.2).2.1
  have u1 : s 50 (t2 * 4 + 1) = A (10 + (4 * t2 + 1)) := (hI.2.1 t2 ht2.1 ht2.2).2.1
  have r1 := bOf_r (l := l) (k := k) (h := h) W ht
  have r2 := bOf_r (l := l) (k := k) (h := h) W ht2
  have ed : eApart A l (A 3) k h t t2 = earn (fOne (fOne A (A 3) k h t V) (A 3 + 1) k h t2 U) l (A 3 + 2) k := by
    rw [← eV, ← eU]
    rfl
  rw [eV] at r1
  rw [eU] at r2
  clear eV eU
  have rw1 := fun (d : Nat) (Q : Option Value → aH → Prop) => c_reweigh (d := d) (X := X) (Q := Q) (s := u s 56 (row1 (s 56) (A 3) k h t (A (10 + (4 * t + 1))))) (o := A 3) (i := 0) (w := V) ⟨by omega, by omega⟩
  simp only [Int.mul_zero, Int.zero_add, Int.reduceAdd] at rw1
  repeat' (first | (with_reducible refine Br_i ?_ ?_ <;> (intro hbr; first | exact False.elim hbr | skip)) | (with_reducible refine Wl_i ?_) | (simp (disch := first | omega | exact okF _ | exact okI _ | exact okR _ | assumption | exact okN) only [u_at, iI_zero, iI_31, iI_add, iI_sub, iI_mul, iI_neg, ↓iI_max, ↓iI_min, iI_div, emod_f, iI_lt, iI_le, iI_inj, iI_toInt, ↓ii01, ↓ii11, ↓bI_b, bI_0, bI_1, Kt_s, Kt_n, cat0, cat1, cat2, cat3, cat4, rfV, Nat.reduceAdd, Nat.reduceMul, Nat.reduceEqDiff, Int.reduceAdd, Int.reduceSub, Int.reduceMul, Int.reduceNeg, Int.reduceLT, Int.reduceLE, Int.reduceEq, Int.reduceDiv, ↓reduceIte, ↓ite_ww, ↓ite_wi, Br_n, Br_TW, Br_FW, Br_FP, Br_FB, nn_p, and_true, true_and, and_self, true_or, or_true, not_true_eq_false, not_false_eq_true, le_T, le_F, lt_T, lt_F, eq_T, eq_F, Int.add_zero, Int.zero_add, Int.one_mul, Int.mul_one, up_eq, up_ne, Int.add_assoc, Int.add_sub_cancel, Int.sub_zero, Int.sub_self, S_103_0, S_103_1, S_103_4, S_103_7, S_103_10, S_103_12, S_103_13, S_103_15, S_103_16, S_103_17, S_103_18, S_103_21, S_103_22, S_103_25, S_103_27, S_103_28, S_103_30, S_103_33, S_103_34, S_103_37, S_103_39, S_103_42, S_103_43, S_103_45, S_103_46, S_103_47, S_103_48, S_103_49, S_103_51, S_103_54, S_103_55, S_103_58, S_103_60, S_103_61, S_103_62, S_103_63, S_103_65, S_103_68, S_103_69, S_103_71, S_103_72, S_103_73, S_103_75, S_103_76, S_103_77, S_103_78, S_103_81, H_105, H_48, H_55, H_87, n3, c_layOne, t1, rw1, u_u]))
  have R1 := row1_at (f := s 56) (n := A 3) (k := k) (h := h) (t := t) (w := A (10 + (4 * t + 1)))
  generalize es4 : u s 56 _ = s4
  have f4 : Fr [56] s s4 := by rw [← es4]; exact (by repeat (first | exact Fr.rf _ | refine Fr.u ?_ rfl))
  have h56 : s4 56 = up (row1 (s 56) (A 3) k h t (A (10 + (4 * t + 1)))) (A 3 * 12 + 4) V := by rw [← es4, u_eq]
  have hf4 : Fr [105002, 56, 85, 86, 88, 89, 90, 91, 92, 93, 95, 96, 97, 98, 99, 100, 101, 102, 103, 104, 113, 114, 115, 116, 117] s s4 := f4.up rfl
  have O4 : outC s s4 (A 3) := fun z hz => by rw [h56, up_ne (by omega), row1_ne hz]
  have c4 : cO 0 s4 (fOne A (A 3) k h t V) (A 3) := by
    refine cO_one ?_ ?_ ?_ ?_ ?_ ?_ <;> rw [h56] <;> simp (disch := omega) only [up_eq, up_ne, R1]
  have z0 := fOne_0 (A := A) (n := A 3) (k := k) (h := h) (t := t) (w := V) (by omega)
  have zw : WO (fOne A (A 3) k h t V) (A 3) := fOne_w (by omega) hk hh ht r1
  refine c_weigh (A := fOne A (A 3) k h t V) (IC0_cgA W.1 z0 (IC0_fr hf4 rfl hI)) (curC_fr hf4 rfl hc) hl (WF0_cg z0 W) zw c4 (by omega) ?_
  intro s5 f5 h5 h5'
  have hf5 := hf4.to f5 rfl
  have e50' := hf5.g 50 rfl
  have e56 := f5.g 56 rfl
  have m5 : ∀ p, 0 ≤ p → p < A 3 + 1 → CO (fOne A (A 3) k h t V) l p s5 := by
    intro p p0 p1
    by_cases e : p = A 3
    · rw [e]; exact h5
    · exact CO_same (by rw [z0 2 (by omega)]; omega) (CO_cg W.1 z0 (fOne_o e) (hw p p0 (by omega)) (CO_fr f4 (by omega) rfl (hm p p0 (by omega)))) (h5' p p0 e)
  have wA : ∀ p, 0 ≤ p → p < A 3 + 1 → WO (fOne A (A 3) k h t V) p := by
    intro p p0 p1
    by_cases e : p = A 3
    · rw [e]; exact zw
    · exact WO_cg z0 (fOne_o e) (hw p p0 (by omega))
  have rw2 := fun (d : Nat) (Q : Option Value → aH → Prop) => c_reweigh (d := d) (X := X) (Q := Q) (s := u s5 56 (row1 (s5 56) (A 3 + 1) k h t2 (A (10 + (4 * t2 + 1))))) (o := A 3 + 1) (i := 0) (w := U) ⟨by omega, by omega⟩
  simp only [Int.mul_zero, Int.zero_add, Int.reduceAdd] at rw2
  repeat' (first | (with_reducible refine Br_i ?_ ?_ <;> (intro hbr; first | exact False.elim hbr | skip)) | (with_reducible refine Wl_i ?_) | (simp (disch := first | omega | exact okF _ | exact okI _ | exact okR _ | assumption | exact okN) only [u_at, iI_zero, iI_31, iI_add, iI_sub, iI_mul, iI_neg, ↓iI_max, ↓iI_min, iI_div, emod_f, iI_lt, iI_le, iI_inj, iI_toInt, ↓ii01, ↓ii11, ↓bI_b, bI_0, bI_1, Kt_s, Kt_n, cat0, cat1, cat2, cat3, cat4, rfV, Nat.reduceAdd, Nat.reduceMul, Nat.reduceEqDiff, Int.reduceAdd, Int.reduceSub, Int.reduceMul, Int.reduceNeg, Int.reduceLT, Int.reduceLE, Int.reduceEq, Int.reduceDiv, ↓reduceIte, ↓ite_ww, ↓ite_wi, Br_n, Br_TW, Br_FW, Br_FP, Br_FB, nn_p, and_true, true_and, and_self, true_or, or_true, not_true_eq_false, not_false_eq_true, le_T, le_F, lt_T, lt_F, eq_T, eq_F, Int.add_zero, Int.zero_add, Int.one_mul, Int.mul_one, up_eq, up_ne, Int.add_assoc, Int.add_sub_cancel, Int.sub_zero, Int.sub_self, S_103_0, S_103_1, S_103_4, S_103_7, S_103_10, S_103_12, S_103_13, S_103_15, S_103_16, S_103_17, S_103_18, S_103_21, S_103_22, S_103_25, S_103_27, S_103_28, S_103_30, S_103_33, S_103_34, S_103_37, S_103_39, S_103_42, S_103_43, S_103_45, S_103_46, S_103_47, S_103_48, S_103_49, S_103_51, S_103_54, S_103_55, S_103_58, S_103_60, S_103_61, S_103_62, S_103_63, S_103_65, S_103_68, S_103_69, S_103_71, S_103_72, S_103_73, S_103_75, S_103_76, S_103_77, S_103_78, S_103_81, H_105, H_48, c_layOne, e50', u1, rw2, u_u]))
  have R2 := row1_at (f := s5 56) (n := A 3 + 1) (k := k) (h := h) (t := t2) (w := A (10 + (4 * t2 + 1)))
  generalize es6 : u s5 56 _ = s6
  have f6 : Fr [56] s5 s6 := by rw [← es6]; exact (by repeat (first | exact Fr.rf _ | refine Fr.u ?_ rfl))
  have k56 : s6 56 = up (row1 (s5 56) (A 3 + 1) k h t2 (A (10 + (4 * t2 + 1)))) ((A 3 + 1) * 12 + 4) U := by rw [← es6, u_eq]
  have hf6 := hf5.to f6 rfl
  have zB := fOne_0 (A := fOne A (A 3) k h t V) (n := A 3 + 1) (k := k) (h := h) (t := t2) (w := U) (by omega)
  have c6 : cO 0 s6 (fOne (fOne A (A 3) k h t V) (A 3 + 1) k h t2 U) (A 3 + 1) := by
    refine cO_one ?_ ?_ ?_ ?_ ?_ ?_ <;> rw [k56] <;> simp (disch := omega) only [up_eq, up_ne, R2]
  have wB : ∀ p, 0 ≤ p → p < A 3 + 2 → WO (fOne (fOne A (A 3) k h t V) (A 3 + 1) k h t2 U) p := by
    intro p p0 p1
    by_cases e : p = A 3 + 1
    · rw [e]; exact fOne_w (by omega) (by rw [z0 1 (by omega)]; exact hk) hh (by rw [z0 0 (by omega)]; exact ht2) r2
    · exact WO_cg zB (fOne_o e) (wA p p0 (by omega))
  refine c_earnedWith (A := fOne (fOne A (A 3) k h t V) (A 3 + 1) k h t2 U) (IC0_cgA (W0_cg z0 W.1) zB (IC0_cgA W.1 z0 (IC0_fr hf6 rfl hI))) (curC_fr hf6 rfl hc) hl (WF0_cg zB (WF0_cg z0 W)) wB c6 ?_ (by omega) (by omega) (by rw [zB 1 (by omega), z0 1 (by omega)]; exact hk) ?_
  · intro p p0 p1 pn
    exact CO_cg (W0_cg z0 W.1) zB (fOne_o pn) (wA p p0 (by omega)) (CO_fr f6 (by rw [z0 2 (by omega)]; omega) rfl (m5 p p0 (by omega)))
  · intro s7 f7 m7
    have O7 : outC2 s s7 (A 3) := fun z hz => by
      rw [f7.g 56 rfl, k56, up_ne (by omega), row1_ne (by omega), e56]
      exact O4 z (by omega)
    have kk := kk s7 (hf6.to f7 rfl) O7 (fun o o0 o1 => by
      have q := m7 o o0 (by omega)
      have q2 := CO_cg (W0_cg zB (W0_cg z0 W.1)) zB.sy (fOne_o (by omega)).sy (wB o o0 (by omega)) q
      exact CO_cg (W0_cg z0 W.1) z0.sy (fOne_o (by omega)).sy (wA o o0 (by omega)) q2)
    have ee : (year (fOne (fOne A (A 3) k h t V) (A 3 + 1) k h t2 U) l (A 3 + 2)).2.1 k = eApart A l (A 3) k h t t2 := ed.symm
    have n2 : A 3 + 1 + 1 = A 3 + 2 := by omega
    repeat' (first | (with_reducible refine Br_i ?_ ?_ <;> (intro hbr; first | exact False.elim hbr | skip)) | (with_reducible refine Wl_i ?_) | (simp (disch := first | omega | exact okF _ | exact okI _ | exact okR _ | assumption | exact okN) only [u_at, iI_zero, iI_31, iI_add, iI_sub, iI_mul, iI_neg, ↓iI_max, ↓iI_min, iI_div, emod_f, iI_lt, iI_le, iI_inj, iI_toInt, ↓ii01, ↓ii11, ↓bI_b, bI_0, bI_1, Kt_s, Kt_n, cat0, cat1, cat2, cat3, cat4, rfV, Nat.reduceAdd, Nat.reduceMul, Nat.reduceEqDiff, Int.reduceAdd, Int.reduceSub, Int.reduceMul, Int.reduceNeg, Int.reduceLT, Int.reduceLE, Int.reduceEq, Int.reduceDiv, ↓reduceIte, ↓ite_ww, ↓ite_wi, Br_n, Br_TW, Br_FW, Br_FP, Br_FB, nn_p, and_true, true_and, and_self, true_or, or_true, not_true_eq_false, not_false_eq_true, le_T, le_F, lt_T, lt_F, eq_T, eq_F, Int.add_zero, Int.zero_add, Int.one_mul, Int.mul_one, up_eq, up_ne, Int.add_assoc, Int.add_sub_cancel, Int.sub_zero, Int.sub_self, S_103_0, S_103_1, S_103_4, S_103_7, S_103_10, S_103_12, S_103_13, S_103_15, S_103_16, S_103_17, S_103_18, S_103_21, S_103_22, S_103_25, S_103_27, S_103_28, S_103_30, S_103_33, S_103_34, S_103_37, S_103_39, S_103_42, S_103_43, S_103_45, S_103_46, S_103_47, S_103_48, S_103_49, S_103_51, S_103_54, S_103_55, S_103_58, S_103_60, S_103_61, S_103_62, S_103_63, S_103_65, S_103_68, S_103_69, S_103_71, S_103_72, S_103_73, S_103_75, S_103_76, S_103_77, S_103_78, S_103_81, ee]))
    exact kk
theorem c_earnedTied (hI : IC0 0 s A) (hc : curC s l) (hl : lawOK l) (W : WF0 A) (hw : ∀ o, 0 ≤ o → o < A 3 → WO A o) (hm : ∀ o, 0 ≤ o → o < A 3 → CO A l o s) (hk : 0 ≤ k ∧ k < A 1) (hh : 0 ≤ h ∧ h < 4) (ht : 0 ≤ t ∧ t < A 0) (ht2 : 0 ≤ t2 ∧ t2 < A 0) (kk : ∀ s', Fr [105002, 56, 85, 86, 88, 89, 90, 91, 92, 93, 95, 96, 97, 98, 99, 100, 101, 102, 103, 104, 113, 114, 115, 116, 117] s s' → outC s s' (A 3) → Q (some (.int (iI (tOut A l (A 3) k h t t2 (A (10 + (4 * t + 2)) + 1)).2))) (hp X s')) : Wp (d + 8) 104 0 [.ref 105, .int (iI k), .int (iI t), .int (iI t2), .int (iI h), .float 0, .float 0, .float 0, .float 0, .float 0] [] (hp X s) Q := by
  have w0 := W.1
  unfold W0 at w0
  have wt := (W.2.1 t ht.1 ht.2).2.1
  have wt2 := (W.2.1 t2 ht2.1 ht2.2).2.1
  have n3 : s 55004 0 = A 3 := hI.1.2.2.2.1
  have t1 : s 50 (t * 4 + 1) = A (10 + (4 * t + 1)) := (hI.2.1 t ht.1 ht.2).2.1
  have t9 : s 50 (t * 4 + 2) = A (10 + (4 * t + 2)) := (hI.2.1 t ht.1 ht.2).2.2.1
  have u1 : s 50 (t2 * 4 + 1) = A (10 + (4 * t2 + 1)) := (hI.2.1 t2 ht2.1 ht2.2).2.1
  have u9 : s 50 (t2 * 4 + 2) = A (10 + (4 * t2 + 2)) := (hI.2.1 t2 ht2.1 ht2.2).2.2.1
  have outer : ∀ v s1, v ≤ A (10 + (4 * t + 2)) + 1 → (A (10 + (4 * t + 1)) ≤ v ∧ Fr [105002, 56, 85, 86, 88, 89, 90, 91, 92, 93, 95, 96, 97, 98, 99, 100, 101, 102, 103, 104, 113, 114, 115, 116, 117] s s1 ∧ outC s s1 (A 3) ∧ (s1 56 (A 3 * 12) = k ∧ s1 56 (A 3 * 12 + 1) = h ∧ s1 56 (A 3 * 12 + 2) = 2 ∧ s1 56 (A 3 * 12 + 3) = t ∧ s1 56 (A 3 * 12 + 5) = 0 ∧ s1 56 (A 3 * 12 + 6) = t2 ∧ s1 56 (A 3 * 12 + 8) = 0) ∧ (∀ o, 0 ≤ o → o < A 3 → CO A l o s1) ∧ (A (10 + (4 * t + 1)) < v → s1 105002 0 = (tOut A l (A 3) k h t t2 v).2)) → ∀ v8 v9, okO v8 = true → okO v9 = true → Wp (d + 8) 104 55 [.ref 105, .int (iI k), .int (iI t), .int (iI t2), .int (iI h), .int (iI (A 3)), .int (iI (bZ (¬ (tOut A l (A 3) k h t t2 v).1 = -1))), .int (iI v), v8, v9] [] (hp X s1) Q := by
    refine lp ?_ ?_
    · intro v s1 hv ⟨v0, hf, ho, ⟨h0, h1, h2, h3, h5, h6, h8⟩, hm1, hb⟩ kk2 v8 v9 o8 o9
      have e50 := hf.g 50 rfl
      have or := tOut_r (l := l) (n := A 3) (k := k) (h := h) (t := t) (t2 := t2) ⟨by omega, by omega⟩ v0
      have inner : ∀ w s2, w ≤ A (10 + (4 * t2 + 2)) + 1 → (A (10 + (4 * t2 + 1)) ≤ w ∧ Fr [105002, 56, 85, 86, 88, 89, 90, 91, 92, 93, 95, 96, 97, 98, 99, 100, 101, 102, 103, 104, 113, 114, 115, 116, 117] s s2 ∧ outC s s2 (A 3) ∧ (s2 56 (A 3 * 12) = k ∧ s2 56 (A 3 * 12 + 1) = h ∧ s2 56 (A 3 * 12 + 2) = 2 ∧ s2 56 (A 3 * 12 + 3) = t ∧ s2 56 (A 3 * 12 + 4) = v ∧ s2 56 (A 3 * 12 + 5) = 0 ∧ s2 56 (A 3 * 12 + 6) = t2 ∧ s2 56 (A 3 * 12 + 8) = 0) ∧ (∀ o, 0 ≤ o → o < A 3 → CO A l o s2) ∧ (¬ (tIn A l (A 3) k h t t2 v (tOut A l (A 3) k h t t2 v) w).1 = -1 → s2 105002 0 = (tIn A l (A 3) k h t t2 v (tOut A l (A 3) k h t t2 v) w).2)) → ∀ v9, okO v9 = true → Wp (d + 8) 104 90 [.ref 105, .int (iI k), .int (iI t), .int (iI t2), .int (iI h), .int (iI (A 3)), .int (iI (bZ (¬ (tIn A l (A 3) k h t t2 v (tOut A l (A 3) k h t t2 v) w).1 = -1))), .int (iI v), .int (iI w), v9] [] (hp X s2) Q := by
        refine lp ?_ ?_
        · intro w s2 hw2 ⟨w0', hf2, ho2, ⟨g0, g1, g2, g3, g4, g5, g6, g8⟩, hm2, hb2⟩ kk3 v9 o9
          have e50 := hf2.g 50 rfl
          have z0 := fTwo_0 (A := A) (n := A 3) (k := k) (h := h) (t := t) (w := v) (t2 := t2) (w2 := w) (by omega)
          have zw : ∀ p, 0 ≤ p → p < A 3 + 1 → WO (fTwo A (A 3) k h t v t2 w) p := by
            intro p p0 p1
            by_cases e : p = A 3
            · rw [e]; exact fTwo_w (by omega) hk hh ht (by omega) ht2 (by omega)
            · exact WO_cg z0 (fTwo_o e) (hw p p0 (by omega))
          have rw' := fun (d : Nat) (Q : Option Value → aH → Prop) => c_reweigh (d := d) (X := X) (Q := Q) (s := s2) (o := A 3) (i := 1) (w := w) ⟨by omega, by omega⟩
          simp only [Int.mul_one, Int.reduceAdd] at rw'
          rw [S_104_90]
          repeat' (first | (with_reducible refine Br_i ?_ ?_ <;> (intro hbr; first | exact False.elim hbr | skip)) | (with_reducible refine Wl_i ?_) | (simp (disch := first | omega | exact okF _ | exact okI _ | exact okR _ | assumption | exact okN) only [u_at, iI_zero, iI_31, iI_add, iI_sub, iI_mul, iI_neg, ↓iI_max, ↓iI_min, iI_div, emod_f, iI_lt, iI_le, iI_inj, iI_toInt, ↓ii01, ↓ii11, ↓bI_b, bI_0, bI_1, Kt_s, Kt_n, cat0, cat1, cat2, cat3, cat4, rfV, Nat.reduceAdd, Nat.reduceMul, Nat.reduceEqDiff, Int.reduceAdd, Int.reduceSub, Int.reduceMul, Int.reduceNeg, Int.reduceLT, Int.reduceLE, Int.reduceEq, Int.reduceDiv, ↓reduceIte, ↓ite_ww, ↓ite_wi, Br_n, Br_TW, Br_FW, Br_FP, Br_FB, nn_p, and_true, true_and, and_self, true_or, or_true, not_true_eq_false, not_false_eq_true, le_T, le_F, lt_T, lt_F, eq_T, eq_F, Int.add_zero, Int.zero_add, Int.one_mul, Int.mul_one, up_eq, up_ne, Int.add_assoc, Int.add_sub_cancel, Int.sub_zero, Int.sub_self, S_104_0, S_104_1, S_104_4, S_104_7, S_104_10, S_104_12, S_104_13, S_104_15, S_104_16, S_104_18, S_104_19, S_104_21, S_104_22, S_104_25, S_104_26, S_104_29, S_104_31, S_104_32, S_104_33, S_104_36, S_104_37, S_104_40, S_104_41, S_104_44, S_104_45, S_104_46, S_104_49, S_104_50, S_104_53, S_104_55, S_104_57, S_104_58, S_104_61, S_104_62, S_104_65, S_104_68, S_104_69, S_104_72, S_104_74, S_104_75, S_104_77, S_104_80, S_104_81, S_104_84, S_104_85, S_104_88, S_104_92, S_104_93, S_104_96, S_104_97, S_104_100, S_104_103, S_104_104, S_104_107, S_104_109, S_104_110, S_104_112, S_104_115, S_104_116, S_104_118, S_104_120, S_104_121, S_104_122, S_104_123, S_104_126, S_104_128, S_104_130, S_104_133, S_104_135, S_104_136, S_104_139, S_104_142, S_104_143, S_104_145, S_104_146, S_104_148, S_104_151, S_104_154, S_104_157, S_104_160, S_104_163, S_104_164, S_104_167, H_105, H_48, c_heavy, e50, u9, rw']))
          generalize es3 : u s2 56 _ = s3
          have f3 : Fr [56] s2 s3 := by rw [← es3]; exact (by repeat (first | exact Fr.rf _ | refine Fr.u ?_ rfl))
          have h56 : s3 56 = up (s2 56) (A 3 * 12 + 7) w := by rw [← es3, u_eq]
          have hf3 := hf2.to f3 rfl
          have g : ∀ z, ¬ z = A 3 * 12 + 7 → s3 56 z = s2 56 z := fun z hz => by rw [h56, up_ne hz]
          have c3 : cO 0 s3 (fTwo A (A 3) k h t v t2 w) (A 3) := cO_two ((g _ (by omega)).trans g0) ((g _ (by omega)).trans g1) ((g _ (by omega)).trans g2) ((g _ (by omega)).trans g3) ((g _ (by omega)).trans g4) ((g _ (by omega)).trans g5) ((g _ (by omega)).trans g6) (by rw [h56, up_eq rfl]) ((g _ (by omega)).trans g8)
          refine c_earnedWith (A := fTwo A (A 3) k h t v t2 w) (IC0_cgA W.1 z0 (IC0_fr hf3 rfl hI)) (curC_fr hf3 rfl hc) hl (WF0_cg z0 W) zw c3 ?_ (by omega) (by omega) (by rw [z0 1 (by omega)]; exact hk) ?_
          · intro p p0 p1 pn
            exact CO_cg W.1 z0 (fTwo_o pn) (hw p p0 (by omega)) (CO_fr f3 (by omega) rfl (hm2 p p0 (by omega)))
          · intro s4 f4 m4
            have F := hf3.to f4 rfl
            have e56 := f4.g 56 rfl
            have O4 : outC s s4 (A 3) := fun z hz => by rw [e56, g z (by omega)]; exact ho2 z hz
            have R4 : s4 56 (A 3 * 12) = k ∧ s4 56 (A 3 * 12 + 1) = h ∧ s4 56 (A 3 * 12 + 2) = 2 ∧ s4 56 (A 3 * 12 + 3) = t ∧ s4 56 (A 3 * 12 + 4) = v ∧ s4 56 (A 3 * 12 + 5) = 0 ∧ s4 56 (A 3 * 12 + 6) = t2 ∧ s4 56 (A 3 * 12 + 8) = 0 := by
              rw [e56, g _ (by omega), g _ (by omega), g _ (by omega), g _ (by omega), g _ (by omega), g _ (by omega), g _ (by omega), g _ (by omega)]
              exact ⟨g0, g1, g2, g3, g4, g5, g6, g8⟩
            have M4 : ∀ o, 0 ≤ o → o < A 3 → CO A l o s4 := fun o o0 o1 => CO_cg (W0_cg z0 W.1) z0.sy (fTwo_o (by omega)).sy (zw o o0 (by omega)) (m4 o o0 (by omega))
            have b4 : s4 105002 0 = s2 105002 0 := by rw [f4.g 105002 rfl, f3.g 105002 rfl]
            have ee : (year (fTwo A (A 3) k h t v t2 w) l (A 3 + 1)).2.1 k = eTwo A l (A 3) k h t t2 v w := rfl
            rw [ee]
            have ir := tIn_r (l := l) (n := A 3) (k := k) (h := h) (t := t) (t2 := t2) (v := v) (p := tOut A l (A 3) k h t t2 v) (by omega) or.1 w0'
            have st := tIn_s (l := l) (n := A 3) (k := k) (h := h) (t := t) (t2 := t2) (v := v) (p := tOut A l (A 3) k h t t2 v) w0'
            generalize tIn A l (A 3) k h t t2 v (tOut A l (A 3) k h t t2 v) w = B at *
            have b1 := bst_1 (e := eTwo A l (A 3) k h t t2 v) (w := w) (p := B) (by omega) ir.1
            have b2 := bst_2 (e := eTwo A l (A 3) k h t t2 v) (w := w) (p := B)
            have new : (B.1 = -1 ∨ lt32 B.2 (eTwo A l (A 3) k h t t2 v w)) → Wp (d + 8) 104 90 [.ref 105, .int (iI k), .int (iI t), .int (iI t2), .int (iI h), .int (iI (A 3)), .int (iI 1), .int (iI v), .int (iI (w + 1)), .int (iI (eTwo A l (A 3) k h t t2 v w))] [] (hp X (u s4 105002 (fun _ => eTwo A l (A 3) k h t t2 v w))) Q := by
              intro c
              rw [if_pos c] at b2
              have q := kk3 (u s4 105002 (fun _ => eTwo A l (A 3) k h t t2 v w)) ⟨by omega, F.u rfl, O4, R4, fun o o0 o1 => CO_fr ((by repeat (first | exact Fr.rf _ | refine Fr.u ?_ rfl)) : Fr [105002] s4 _) (by omega) rfl (M4 o o0 o1), fun _ => by rw [st, u_eq, b2]⟩ (.int (iI (eTwo A l (A 3) k h t t2 v w))) rfl
              rw [st, bZ_T (by omega)] at q
              exact q
            by_cases c1 : B.1 = -1
            · have new := new (Or.inl c1)
              rw [bZ_F (fun q => q c1)]
              repeat' (first | (with_reducible refine Br_i ?_ ?_ <;> (intro hbr; first | exact False.elim hbr | skip)) | (with_reducible refine Wl_i ?_) | (simp (disch := first | omega | exact okF _ | exact okI _ | exact okR _ | assumption | exact okN) only [u_at, iI_zero, iI_31, iI_add, iI_sub, iI_mul, iI_neg, ↓iI_max, ↓iI_min, iI_div, emod_f, iI_lt, iI_le, iI_inj, iI_toInt, ↓ii01, ↓ii11, ↓bI_b, bI_0, bI_1, Kt_s, Kt_n, cat0, cat1, cat2, cat3, cat4, rfV, Nat.reduceAdd, Nat.reduceMul, Nat.reduceEqDiff, Int.reduceAdd, Int.reduceSub, Int.reduceMul, Int.reduceNeg, Int.reduceLT, Int.reduceLE, Int.reduceEq, Int.reduceDiv, ↓reduceIte, ↓ite_ww, ↓ite_wi, Br_n, Br_TW, Br_FW, Br_FP, Br_FB, nn_p, and_true, true_and, and_self, true_or, or_true, not_true_eq_false, not_false_eq_true, le_T, le_F, lt_T, lt_F, eq_T, eq_F, Int.add_zero, Int.zero_add, Int.one_mul, Int.mul_one, up_eq, up_ne, Int.add_assoc, Int.add_sub_cancel, Int.sub_zero, Int.sub_self, S_104_0, S_104_1, S_104_4, S_104_7, S_104_10, S_104_12, S_104_13, S_104_15, S_104_16, S_104_18, S_104_19, S_104_21, S_104_22, S_104_25, S_104_26, S_104_29, S_104_31, S_104_32, S_104_33, S_104_36, S_104_37, S_104_40, S_104_41, S_104_44, S_104_45, S_104_46, S_104_49, S_104_50, S_104_53, S_104_55, S_104_57, S_104_58, S_104_61, S_104_62, S_104_65, S_104_68, S_104_69, S_104_72, S_104_74, S_104_75, S_104_77, S_104_80, S_104_81, S_104_84, S_104_85, S_104_88, S_104_92, S_104_93, S_104_96, S_104_97, S_104_100, S_104_103, S_104_104, S_104_107, S_104_109, S_104_110, S_104_112, S_104_115, S_104_116, S_104_118, S_104_120, S_104_121, S_104_122, S_104_123, S_104_126, S_104_128, S_104_130, S_104_133, S_104_135, S_104_136, S_104_139, S_104_142, S_104_143, S_104_145, S_104_146, S_104_148, S_104_151, S_104_154, S_104_157, S_104_160, S_104_163, S_104_164, S_104_167, H_105]))
              exact new
            · have b4 := b4.trans (hb2 c1)
              rw [bZ_T c1]
              by_cases c2 : lt32 B.2 (eTwo A l (A 3) k h t t2 v w)
              · have new := new (Or.inr c2)
                unfold lt32 at c2
                repeat' (first | (with_reducible refine Br_i ?_ ?_ <;> (intro hbr; first | exact False.elim hbr | skip)) | (with_reducible refine Wl_i ?_) | (simp (disch := first | omega | exact okF _ | exact okI _ | exact okR _ | assumption | exact okN) only [u_at, iI_zero, iI_31, iI_add, iI_sub, iI_mul, iI_neg, ↓iI_max, ↓iI_min, iI_div, emod_f, iI_lt, iI_le, iI_inj, iI_toInt, ↓ii01, ↓ii11, ↓bI_b, bI_0, bI_1, Kt_s, Kt_n, cat0, cat1, cat2, cat3, cat4, rfV, Nat.reduceAdd, Nat.reduceMul, Nat.reduceEqDiff, Int.reduceAdd, Int.reduceSub, Int.reduceMul, Int.reduceNeg, Int.reduceLT, Int.reduceLE, Int.reduceEq, Int.reduceDiv, ↓reduceIte, ↓ite_ww, ↓ite_wi, Br_n, Br_TW, Br_FW, Br_FP, Br_FB, nn_p, and_true, true_and, and_self, true_or, or_true, not_true_eq_false, not_false_eq_true, le_T, le_F, lt_T, lt_F, eq_T, eq_F, Int.add_zero, Int.zero_add, Int.one_mul, Int.mul_one, up_eq, up_ne, Int.add_assoc, Int.add_sub_cancel, Int.sub_zero, Int.sub_self, S_104_0, S_104_1, S_104_4, S_104_7, S_104_10, S_104_12, S_104_13, S_104_15, S_104_16, S_104_18, S_104_19, S_104_21, S_104_22, S_104_25, S_104_26, S_104_29, S_104_31, S_104_32, S_104_33, S_104_36, S_104_37, S_104_40, S_104_41, S_104_44, S_104_45, S_104_46, S_104_49, S_104_50, S_104_53, S_104_55, S_104_57, S_104_58, S_104_61, S_104_62, S_104_65, S_104_68, S_104_69, S_104_72, S_104_74, S_104_75, S_104_77, S_104_80, S_104_81, S_104_84, S_104_85, S_104_88, S_104_92, S_104_93, S_104_96, S_104_97, S_104_100, S_104_103, S_104_104, S_104_107, S_104_109, S_104_110, S_104_112, S_104_115, S_104_116, S_104_118, S_104_120, S_104_121, S_104_122, S_104_123, S_104_126, S_104_128, S_104_130, S_104_133, S_104_135, S_104_136, S_104_139, S_104_142, S_104_143, S_104_145, S_104_146, S_104_148, S_104_151, S_104_154, S_104_157, S_104_160, S_104_163, S_104_164, S_104_167, H_105, b4, c2]))
                exact new
              · have q := kk3 s4 ⟨by omega, F, O4, R4, M4, fun _ => by rw [st, b2, if_neg (fun q => q.elim c1 c2)]; exact b4⟩ (.int (iI (eTwo A l (A 3) k h t t2 v w))) rfl
                rw [st, bZ_T (by omega)] at q
                have c2 : iI (eTwo A l (A 3) k h t t2 v w) ≤ iI B.2 := Classical.byContradiction fun q => c2 q
                repeat' (first | (with_reducible refine Br_i ?_ ?_ <;> (intro hbr; first | exact False.elim hbr | skip)) | (with_reducible refine Wl_i ?_) | (simp (disch := first | omega | exact okF _ | exact okI _ | exact okR _ | assumption | exact okN) only [u_at, iI_zero, iI_31, iI_add, iI_sub, iI_mul, iI_neg, ↓iI_max, ↓iI_min, iI_div, emod_f, iI_lt, iI_le, iI_inj, iI_toInt, ↓ii01, ↓ii11, ↓bI_b, bI_0, bI_1, Kt_s, Kt_n, cat0, cat1, cat2, cat3, cat4, rfV, Nat.reduceAdd, Nat.reduceMul, Nat.reduceEqDiff, Int.reduceAdd, Int.reduceSub, Int.reduceMul, Int.reduceNeg, Int.reduceLT, Int.reduceLE, Int.reduceEq, Int.reduceDiv, ↓reduceIte, ↓ite_ww, ↓ite_wi, Br_n, Br_TW, Br_FW, Br_FP, Br_FB, nn_p, and_true, true_and, and_self, true_or, or_true, not_true_eq_false, not_false_eq_true, le_T, le_F, lt_T, lt_F, eq_T, eq_F, Int.add_zero, Int.zero_add, Int.one_mul, Int.mul_one, up_eq, up_ne, Int.add_assoc, Int.add_sub_cancel, Int.sub_zero, Int.sub_self, S_104_0, S_104_1, S_104_4, S_104_7, S_104_10, S_104_12, S_104_13, S_104_15, S_104_16, S_104_18, S_104_19, S_104_21, S_104_22, S_104_25, S_104_26, S_104_29, S_104_31, S_104_32, S_104_33, S_104_36, S_104_37, S_104_40, S_104_41, S_104_44, S_104_45, S_104_46, S_104_49, S_104_50, S_104_53, S_104_55, S_104_57, S_104_58, S_104_61, S_104_62, S_104_65, S_104_68, S_104_69, S_104_72, S_104_74, S_104_75, S_104_77, S_104_80, S_104_81, S_104_84, S_104_85, S_104_88, S_104_92, S_104_93, S_104_96, S_104_97, S_104_100, S_104_103, S_104_104, S_104_107, S_104_109, S_104_110, S_104_112, S_104_115, S_104_116, S_104_118, S_104_120, S_104_121, S_104_122, S_104_123, S_104_126, S_104_128, S_104_130, S_104_133, S_104_135, S_104_136, S_104_139, S_104_142, S_104_143, S_104_145, S_104_146, S_104_148, S_104_151, S_104_154, S_104_157, S_104_160, S_104_163, S_104_164, S_104_167, H_105, b4, c2]))
                exact q
        · intro s2 ⟨w0', hf2, ho2, ⟨g0, g1, g2, g3, g4, g5, g6, g8⟩, hm2, hb2⟩ v9 o9
          have e50 := hf2.g 50 rfl
          have st := tOut_s (l := l) (n := A 3) (k := k) (h := h) (t := t) (t2 := t2) v0
          have ir := (tIn_r (l := l) (n := A 3) (k := k) (h := h) (t := t) (t2 := t2) (v := v) (p := tOut A l (A 3) k h t t2 v) (by omega) or.1 w0').2 (by omega)
          have kk2 := kk2 s2 ⟨by omega, hf2, ho2, ⟨g0, g1, g2, g3, g5, g6, g8⟩, hm2, fun _ => by rw [st]; exact hb2 (by omega)⟩ (.int (iI (A (10 + (4 * t2 + 2)) + 1))) v9 rfl o9
          rw [st] at kk2
          rw [bZ_T (p := ¬ (tIn A l (A 3) k h t t2 v (tOut A l (A 3) k h t t2 v) (A (10 + (4 * t2 + 2)) + 1)).1 = -1) (by omega)] at kk2 ⊢
          repeat' (first | (with_reducible refine Br_i ?_ ?_ <;> (intro hbr; first | exact False.elim hbr | skip)) | (with_reducible refine Wl_i ?_) | (simp (disch := first | omega | exact okF _ | exact okI _ | exact okR _ | assumption | exact okN) only [u_at, iI_zero, iI_31, iI_add, iI_sub, iI_mul, iI_neg, ↓iI_max, ↓iI_min, iI_div, emod_f, iI_lt, iI_le, iI_inj, iI_toInt, ↓ii01, ↓ii11, ↓bI_b, bI_0, bI_1, Kt_s, Kt_n, cat0, cat1, cat2, cat3, cat4, rfV, Nat.reduceAdd, Nat.reduceMul, Nat.reduceEqDiff, Int.reduceAdd, Int.reduceSub, Int.reduceMul, Int.reduceNeg, Int.reduceLT, Int.reduceLE, Int.reduceEq, Int.reduceDiv, ↓reduceIte, ↓ite_ww, ↓ite_wi, Br_n, Br_TW, Br_FW, Br_FP, Br_FB, nn_p, and_true, true_and, and_self, true_or, or_true, not_true_eq_false, not_false_eq_true, le_T, le_F, lt_T, lt_F, eq_T, eq_F, Int.add_zero, Int.zero_add, Int.one_mul, Int.mul_one, up_eq, up_ne, Int.add_assoc, Int.add_sub_cancel, Int.sub_zero, Int.sub_self, S_104_0, S_104_1, S_104_4, S_104_7, S_104_10, S_104_12, S_104_13, S_104_15, S_104_16, S_104_18, S_104_19, S_104_21, S_104_22, S_104_25, S_104_26, S_104_29, S_104_31, S_104_32, S_104_33, S_104_36, S_104_37, S_104_40, S_104_41, S_104_44, S_104_45, S_104_46, S_104_49, S_104_50, S_104_53, S_104_57, S_104_58, S_104_61, S_104_62, S_104_65, S_104_68, S_104_69, S_104_72, S_104_74, S_104_75, S_104_77, S_104_80, S_104_81, S_104_84, S_104_85, S_104_88, S_104_90, S_104_92, S_104_93, S_104_96, S_104_97, S_104_100, S_104_103, S_104_104, S_104_107, S_104_109, S_104_110, S_104_112, S_104_115, S_104_116, S_104_118, S_104_120, S_104_121, S_104_122, S_104_123, S_104_126, S_104_128, S_104_130, S_104_133, S_104_135, S_104_136, S_104_139, S_104_142, S_104_143, S_104_145, S_104_146, S_104_148, S_104_151, S_104_154, S_104_157, S_104_160, S_104_163, S_104_164, S_104_167, H_105, H_48, c_heavy, e50, u9]))
          exact kk2
      have rw' := fun (d : Nat) (Q : Option Value → aH → Prop) => c_reweigh (d := d) (X := X) (Q := Q) (s := s1) (o := A 3) (i := 0) (w := v) ⟨by omega, by omega⟩
      simp only [Int.mul_zero, Int.zero_add, Int.reduceAdd] at rw'
      have g : ∀ z, ¬ z = A 3 * 12 + 4 → u s1 56 (up (s1 56) (A 3 * 12 + 4) v) 56 z = s1 56 z := fun z hz => by rw [u_eq, up_ne hz]
      have l0 := inner (A (10 + (4 * t2 + 1))) (u s1 56 (up (s1 56) (A 3 * 12 + 4) v)) (by omega) ⟨Int.le_refl _, hf.u rfl, fun z hz => by rw [g z (by omega)]; exact ho z hz, ⟨(g _ (by omega)).trans h0, (g _ (by omega)).trans h1, (g _ (by omega)).trans h2, (g _ (by omega)).trans h3, by rw [u_eq, up_eq rfl], (g _ (by omega)).trans h5, (g _ (by omega)).trans h6, (g _ (by omega)).trans h8⟩, fun o o0 o1 => CO_fr ((by repeat (first | exact Fr.rf _ | refine Fr.u ?_ rfl)) : Fr [56] s1 _) (by omega) rfl (hm1 o o0 o1), fun q => by
        rw [tIn_0] at q ⊢
        rw [u_ne (by decide)]
        refine hb ?_
        by_cases x : A (10 + (4 * t + 1)) < v
        · exact x
        · exfalso
          have e : v = A (10 + (4 * t + 1)) := by omega
          rw [e, tOut_0] at q
          exact q rfl⟩ v9 o9
      rw [tIn_0] at l0
      rw [S_104_55]
      repeat' (first | (with_reducible refine Br_i ?_ ?_ <;> (intro hbr; first | exact False.elim hbr | skip)) | (with_reducible refine Wl_i ?_) | (simp (disch := first | omega | exact okF _ | exact okI _ | exact okR _ | assumption | exact okN) only [u_at, iI_zero, iI_31, iI_add, iI_sub, iI_mul, iI_neg, ↓iI_max, ↓iI_min, iI_div, emod_f, iI_lt, iI_le, iI_inj, iI_toInt, ↓ii01, ↓ii11, ↓bI_b, bI_0, bI_1, Kt_s, Kt_n, cat0, cat1, cat2, cat3, cat4, rfV, Nat.reduceAdd, Nat.reduceMul, Nat.reduceEqDiff, Int.reduceAdd, Int.reduceSub, Int.reduceMul, Int.reduceNeg, Int.reduceLT, Int.reduceLE, Int.reduceEq, Int.reduceDiv, ↓reduceIte, ↓ite_ww, ↓ite_wi, Br_n, Br_TW, Br_FW, Br_FP, Br_FB, nn_p, and_true, true_and, and_self, true_or, or_true, not_true_eq_false, not_false_eq_true, le_T, le_F, lt_T, lt_F, eq_T, eq_F, Int.add_zero, Int.zero_add, Int.one_mul, Int.mul_one, up_eq, up_ne, Int.add_assoc, Int.add_sub_cancel, Int.sub_zero, Int.sub_self, S_104_0, S_104_1, S_104_4, S_104_7, S_104_10, S_104_12, S_104_13, S_104_15, S_104_16, S_104_18, S_104_19, S_104_21, S_104_22, S_104_25, S_104_26, S_104_29, S_104_31, S_104_32, S_104_33, S_104_36, S_104_37, S_104_40, S_104_41, S_104_44, S_104_45, S_104_46, S_104_49, S_104_50, S_104_53, S_104_57, S_104_58, S_104_61, S_104_62, S_104_65, S_104_68, S_104_69, S_104_72, S_104_74, S_104_75, S_104_77, S_104_80, S_104_81, S_104_84, S_104_85, S_104_88, S_104_92, S_104_93, S_104_96, S_104_97, S_104_100, S_104_103, S_104_104, S_104_107, S_104_109, S_104_110, S_104_112, S_104_115, S_104_116, S_104_118, S_104_120, S_104_121, S_104_122, S_104_123, S_104_126, S_104_128, S_104_130, S_104_133, S_104_135, S_104_136, S_104_139, S_104_142, S_104_143, S_104_145, S_104_146, S_104_148, S_104_151, S_104_154, S_104_157, S_104_160, S_104_163, S_104_164, S_104_167, H_105, H_48, c_heavy, c_light, e50, t9, u1, rw']))
      exact l0
    · intro s1 ⟨v0, hf, ho, hr, hm1, hb⟩ v8 v9 o8 o9
      have e50 := hf.g 50 rfl
      have hb := hb (by omega)
      repeat' (first | (with_reducible refine Br_i ?_ ?_ <;> (intro hbr; first | exact False.elim hbr | skip)) | (with_reducible refine Wl_i ?_) | (simp (disch := first | omega | exact okF _ | exact okI _ | exact okR _ | assumption | exact okN) only [u_at, iI_zero, iI_31, iI_add, iI_sub, iI_mul, iI_neg, ↓iI_max, ↓iI_min, iI_div, emod_f, iI_lt, iI_le, iI_inj, iI_toInt, ↓ii01, ↓ii11, ↓bI_b, bI_0, bI_1, Kt_s, Kt_n, cat0, cat1, cat2, cat3, cat4, rfV, Nat.reduceAdd, Nat.reduceMul, Nat.reduceEqDiff, Int.reduceAdd, Int.reduceSub, Int.reduceMul, Int.reduceNeg, Int.reduceLT, Int.reduceLE, Int.reduceEq, Int.reduceDiv, ↓reduceIte, ↓ite_ww, ↓ite_wi, Br_n, Br_TW, Br_FW, Br_FP, Br_FB, nn_p, and_true, true_and, and_self, true_or, or_true, not_true_eq_false, not_false_eq_true, le_T, le_F, lt_T, lt_F, eq_T, eq_F, Int.add_zero, Int.zero_add, Int.one_mul, Int.mul_one, up_eq, up_ne, Int.add_assoc, Int.add_sub_cancel, Int.sub_zero, Int.sub_self, S_104_0, S_104_1, S_104_4, S_104_7, S_104_10, S_104_12, S_104_13, S_104_15, S_104_16, S_104_18, S_104_19, S_104_21, S_104_22, S_104_25, S_104_26, S_104_29, S_104_31, S_104_32, S_104_33, S_104_36, S_104_37, S_104_40, S_104_41, S_104_44, S_104_45, S_104_46, S_104_49, S_104_50, S_104_53, S_104_55, S_104_57, S_104_58, S_104_61, S_104_62, S_104_65, S_104_68, S_104_69, S_104_72, S_104_74, S_104_75, S_104_77, S_104_80, S_104_81, S_104_84, S_104_85, S_104_88, S_104_90, S_104_92, S_104_93, S_104_96, S_104_97, S_104_100, S_104_103, S_104_104, S_104_107, S_104_109, S_104_110, S_104_112, S_104_115, S_104_116, S_104_118, S_104_120, S_104_121, S_104_122, S_104_123, S_104_126, S_104_128, S_104_130, S_104_133, S_104_135, S_104_136, S_104_139, S_104_142, S_104_143, S_104_145, S_104_146, S_104_148, S_104_151, S_104_154, S_104_157, S_104_160, S_104_163, S_104_164, S_104_167, H_105, H_48, c_heavy, e50, t9, hb]))
      exact kk s1 hf ho
  have R1 := row1_at (f := s 56) (n := A 3) (k := k) (h := h) (t := t) (w := A (10 + (4 * t + 1)))
  have ti := fun (d : Nat) (Q : Option Value → aH → Prop) => c_tie (d := d) (X := X) (Q := Q) (s := u s 56 (row1 (s 56) (A 3) k h t (A (10 + (4 * t + 1))))) (o := A 3) (a := t2) (b := A (10 + (4 * t2 + 1))) (c := 0) ⟨by omega, by rw [u_eq, R1.2.2.1]; omega⟩
  rw [u_eq, R1.2.2.1] at ti
  simp only [Int.mul_one, Int.reduceAdd, u_u] at ti
  generalize er : row1 (s 56) (A 3) k h t (A (10 + (4 * t + 1))) = r at *
  have g : ∀ z, (z < A 3 * 12 + 6) → ¬ z = A 3 * 12 + 2 → up (up (up (up r (A 3 * 12 + 6) t2) (A 3 * 12 + 7) (A (10 + (4 * t2 + 1)))) (A 3 * 12 + 8) 0) (A 3 * 12 + 2) 2 z = r z := fun z z0 z1 => by
    rw [up_ne z1, up_ne (by omega), up_ne (by omega), up_ne (by omega)]
  have l0 := outer (A (10 + (4 * t + 1))) (u s 56 (up (up (up (up r (A 3 * 12 + 6) t2) (A 3 * 12 + 7) (A (10 + (4 * t2 + 1)))) (A 3 * 12 + 8) 0) (A 3 * 12 + 2) 2)) (by omega) ⟨Int.le_refl _, by exact (by repeat (first | exact Fr.rf _ | refine Fr.u ?_ rfl)), fun z hz => by
      rw [u_eq, up_ne (by omega), up_ne (by omega), up_ne (by omega), up_ne (by omega), ← er, row1_ne hz], ⟨by rw [u_eq, g _ (by omega) (by omega)]; exact R1.1, by rw [u_eq, g _ (by omega) (by omega)]; exact R1.2.1, by rw [u_eq, up_eq rfl], by rw [u_eq, g _ (by omega) (by omega)]; exact R1.2.2.2.1, by rw [u_eq, g _ (by omega) (by omega)]; exact R1.2.2.2.2.2, by rw [u_eq]; simp (disch := omega) only [up_eq, up_ne], by rw [u_eq]; simp (disch := omega) only [up_eq, up_ne]⟩, fun o o0 o1 => CO_fr ((by repeat (first | exact Fr.rf _ | refine Fr.u ?_ rfl)) : Fr [56] s _) (by omega) rfl (hm o o0 o1), fun q => by omega⟩ (.float 0) (.float 0) rfl rfl
  rw [tOut_0, bZ_F (fun q => q rfl)] at l0
  repeat' (first | (with_reducible refine Br_i ?_ ?_ <;> (intro hbr; first | exact False.elim hbr | skip)) | (with_reducible refine Wl_i ?_) | (simp (disch := first | omega | exact okF _ | exact okI _ | exact okR _ | assumption | exact okN) only [u_at, iI_zero, iI_31, iI_add, iI_sub, iI_mul, iI_neg, ↓iI_max, ↓iI_min, iI_div, emod_f, iI_lt, iI_le, iI_inj, iI_toInt, ↓ii01, ↓ii11, ↓bI_b, bI_0, bI_1, Kt_s, Kt_n, cat0, cat1, cat2, cat3, cat4, rfV, Nat.reduceAdd, Nat.reduceMul, Nat.reduceEqDiff, Int.reduceAdd, Int.reduceSub, Int.reduceMul, Int.reduceNeg, Int.reduceLT, Int.reduceLE, Int.reduceEq, Int.reduceDiv, ↓reduceIte, ↓ite_ww, ↓ite_wi, Br_n, Br_TW, Br_FW, Br_FP, Br_FB, nn_p, and_true, true_and, and_self, true_or, or_true, not_true_eq_false, not_false_eq_true, le_T, le_F, lt_T, lt_F, eq_T, eq_F, Int.add_zero, Int.zero_add, Int.one_mul, Int.mul_one, up_eq, up_ne, Int.add_assoc, Int.add_sub_cancel, Int.sub_zero, Int.sub_self, S_104_0, S_104_1, S_104_4, S_104_7, S_104_10, S_104_12, S_104_13, S_104_15, S_104_16, S_104_18, S_104_19, S_104_21, S_104_22, S_104_25, S_104_26, S_104_29, S_104_31, S_104_32, S_104_33, S_104_36, S_104_37, S_104_40, S_104_41, S_104_44, S_104_45, S_104_46, S_104_49, S_104_50, S_104_53, S_104_57, S_104_58, S_104_61, S_104_62, S_104_65, S_104_68, S_104_69, S_104_72, S_104_74, S_104_75, S_104_77, S_104_80, S_104_81, S_104_84, S_104_85, S_104_88, S_104_90, S_104_92, S_104_93, S_104_96, S_104_97, S_104_100, S_104_103, S_104_104, S_104_107, S_104_109, S_104_110, S_104_112, S_104_115, S_104_116, S_104_118, S_104_120, S_104_121, S_104_122, S_104_123, S_104_126, S_104_128, S_104_130, S_104_133, S_104_135, S_104_136, S_104_139, S_104_142, S_104_143, S_104_145, S_104_146, S_104_148, S_104_151, S_104_154, S_104_157, S_104_160, S_104_163, S_104_164, S_104_167, H_105, H_48, H_55, n3, c_layOne, c_light, t1, u1, er, ti, u_u]))
  exact l0
end CT
