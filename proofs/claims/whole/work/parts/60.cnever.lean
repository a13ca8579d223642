/-! NEVER had, and why, the class -/
section ON
variable {A : Int → Int} {l : lawT} {n h k t w b : Int}
theorem one_vals (W : WF0 A) (hn : 0 ≤ n ∧ n < 22) (hh : 0 ≤ h ∧ h < 4) (ht : 0 ≤ t ∧ t < 10) (hk : 0 ≤ k ∧ k < 6) : oNum (fOne A n k h t w) n = 1 ∧ oPrice (fOne A n k h t w) l n 1 = vPrice A l t (wdAt A h w) 1 ∧ oCost (fOne A n k h t w) l n 1 = vCost A l k t w 1 ∧ oLoad (fOne A n k h t w) n 1 = w ∧ (oLaw (fOne A n k h t w) l n 1 ↔ ¬ vBars A l t (wdAt A h w) 1) ∧ ∀ b, 0 ≤ b → b < 10 → oWorth (fOne A n k h t w) l b n 1 = vWorth A l b t w 1 := by
  have z0 := fOne_0 (A := A) (n := n) (k := k) (h := h) (t := t) (w := w) hn
  have e0 : fOne A n k h t w (180 + 13 * n) = k := by
    have q := fOne_at (A := A) (n := n) (k := k) (t := t) (w := w) (h := h) (c := 0) (by omega)
    rw [Int.add_zero] at q
    exact q
  have e1 : fOne A n k h t w (180 + (13 * n + 1)) = h := fOne_at (c := 1) (by omega)
  have e2 : fOne A n k h t w (180 + (13 * n + 2)) = 1 := fOne_at (c := 2) (by omega)
  have e3 : fOne A n k h t w (180 + (13 * n + (3 + 3 * 0))) = t := fOne_at (c := 3) (by omega)
  have e4 : fOne A n k h t w (180 + (13 * n + (3 + (3 * 0 + 1)))) = w := fOne_at (c := 4) (by omega)
  have e5 : fOne A n k h t w (180 + (13 * n + (3 + (3 * 0 + 2)))) = 0 := fOne_at (c := 5) (by omega)
  have T : fOne A n k h t w (10 + 4 * t) = A (10 + 4 * t) := z0 _ (by omega)
  have T3 : fOne A n k h t w (10 + (4 * t + 3)) = A (10 + (4 * t + 3)) := z0 _ (by omega)
  have wg : wghd (fOne A n k h t w) n 0 = wdAt A h w := by
    unfold wghd wdAt
    rw [e4, e5, e1, z0 _ (by omega), Int.add_zero]
  have s1 : ∀ f : Int → Int, sm f 1 = f 0 := fun f => by
    have q := sm_s (f := f) (z := 0) (Int.le_refl 0)
    rw [sm_0, Int.zero_add, Int.zero_add] at q
    exact q
  refine ⟨e2, ?_, ?_, ?_, ?_, ?_⟩
  · unfold oPrice
    rw [s1, e3, wg, e2, vPrice_cg T]
  · unfold oCost
    rw [s1, e0, e3, e4, e2, vCost_cg T T3 (z0 _ (by omega))]
  · unfold oLoad
    rw [s1, e4, e5, Int.add_zero]
  · unfold oLaw
    constructor
    · intro q
      have := q 0 (by omega) (by omega)
      rw [e3, wg, e2, vBars_cg T] at this
      exact this
    · intro q i i0 i1
      have ei : i = 0 := by omega
      subst ei
      rw [e3, wg, e2, vBars_cg T]
      exact q
  · intro b b0 b1
    unfold oWorth
    rw [s1, e3, e4, e2, vWorth_cg T (z0 _ (by omega)) (z0 _ (by omega))]
theorem like_one (W : WF0 A) (hn : 0 ≤ n ∧ n < 22) (hh : 0 ≤ h ∧ h < 4) (ht : 0 ≤ t ∧ t < 10) (hk : 0 ≤ k ∧ k < 6) : (∃ b, 0 ≤ b ∧ b < A 2 ∧ 0 ≤ oOver (fOne A n k h t w) l b n) ↔ likeAt A l h t w := by
  have w2 := W.1.2.2.1
  obtain ⟨v0, v1, v2, v3, v4, v5⟩ := one_vals (l := l) (w := w) W hn hh ht hk
  have z0 := fOne_0 (A := A) (n := n) (k := k) (h := h) (t := t) (w := w) hn
  have e : ∀ b, 0 ≤ b → b < A 2 → (0 ≤ oOver (fOne A n k h t w) l b n ↔ ¬ vBars A l t (wdAt A h w) 1 ∧ w ≤ A (100 + (6 * b + 3)) ∧ vPrice A l t (wdAt A h w) 1 ≤ vWorth A l b t w 1) := by
    intro b b0 b1
    unfold oOver
    rw [v0, v1, v3, v5 b b0 (by omega), z0 _ (by omega)]
    by_cases c : 0 < (1 : Int) ∧ oLaw (fOne A n k h t w) l n 1 ∧ w ≤ A (100 + (6 * b + 3))
    · rw [if_pos c]
      exact ⟨fun q => ⟨v4.mp c.2.1, c.2.2, by omega⟩, fun q => by have := q.2.2; omega⟩
    · rw [if_neg c]
      exact ⟨fun q => by omega, fun q => absurd ⟨by decide, v4.mpr q.1, q.2.1⟩ c⟩
  unfold likeAt
  constructor
  · rintro ⟨b, b0, b1, q⟩
    have := (e b b0 b1).mp q
    exact ⟨this.1, b, b0, b1, this.2⟩
  · rintro ⟨a, b, b0, b1, q⟩
    exact ⟨b, b0, b1, (e b b0 b1).mpr ⟨a, q⟩⟩
end ON
section CN
variable {d : Nat} {X : hX} {s : sg} {Q : Option Value → aH → Prop} {n h k t w o : Int} {A : Int → Int} {l : lawT}
theorem c_isLiked (ho : 0 ≤ o ∧ o < 22) (hn : 0 ≤ s 53004 0 ∧ s 53004 0 ≤ 10) (hr : ∀ b, 0 ≤ b → b < s 53004 0 → -1 ≤ s (95 + b.toNat) o ∧ s (95 + b.toNat) o ≤ 60000) : Wp (d + 1) 35 0 [.ref 87, .int (iI o), .float 0] [] (hp X s) Q = Q (some (.int (iI (bZ (∃ b, 0 ≤ b ∧ b < s 53004 0 ∧ 0 ≤ s (95 + b.toNat) o))))) (hp X s) := by
  have loop : ∀ i, 0 ≤ i → i ≤ s 53004 0 → (∀ b, 0 ≤ b → b < i → ¬ 0 ≤ s (95 + b.toNat) o) → Wp (d + 1) 35 2 [.ref 87, .int (iI o), .int (iI i)] [] (hp X s) Q = Q (some (.int (iI (bZ (∃ b, 0 ≤ b ∧ b < s 53004 0 ∧ 0 ≤ s (95 + b.toNat) o))))) (hp X s) := by
    refine lp0 ?_ ?_
    · intro i i0 i1 e hno
      have ov := fun (d : Nat) (Q : Option Value → aH → Prop) => c_overTo (d := d) (X := X) (s := s) (Q := Q) (b := i) (o := o) (by omega)
      have rr := hr i i0 i1
      rw [S_35_2]
      by_cases c : 0 ≤ s (95 + i.toNat) o
      · rw [bZ_T ⟨i, i0, i1, c⟩]
        simp (disch := first | omega | exact okF _ | exact okI _ | exact okR _ | assumption | exact okN) only [S_35_0, S_35_1, S_35_3, S_35_4, S_35_7, S_35_10, S_35_13, S_35_16, S_35_17, S_35_18, S_35_19, S_35_22, S_35_23, S_35_26, S_35_27, S_35_28, S_35_31, S_35_34, S_35_35, u_at, iI_zero, iI_31, iI_add, iI_sub, iI_mul, iI_neg, ↓iI_max, ↓iI_min, iI_div, emod_f, iI_lt, iI_le, iI_inj, iI_toInt, ↓ii01, ↓ii11, ↓bI_b, bI_0, bI_1, Kt_s, Kt_n, cat0, cat1, cat2, cat3, cat4, rfV, Nat.reduceAdd, Nat.reduceMul, Nat.reduceEqDiff, Int.reduceAdd, Int.reduceSub, Int.reduceMul, Int.reduceNeg, Int.reduceLT, Int.reduceLE, Int.reduceEq, Int.reduceDiv, ↓reduceIte, ↓ite_ww, ↓ite_wi, Br_n, Br_TW, Br_FW, Br_FP, Br_FB, nn_p, and_true, true_and, and_self, true_or, or_true, not_true_eq_false, not_false_eq_true, le_T, le_F, lt_T, lt_F, eq_T, eq_F, Int.add_zero, Int.zero_add, Int.one_mul, Int.mul_one, up_eq, up_ne, Int.add_assoc, Int.add_sub_cancel, Int.sub_zero, Int.sub_self, H_87, H_48, H_53, ov]
      · rw [← e (fun b b0 b1 => by
          by_cases x : b = i
          · rw [x]; exact c
          · exact hno b b0 (by omega))]
        simp (disch := first | omega | exact okF _ | exact okI _ | exact okR _ | assumption | exact okN) only [S_35_0, S_35_1, S_35_3, S_35_4, S_35_7, S_35_10, S_35_13, S_35_16, S_35_17, S_35_18, S_35_19, S_35_22, S_35_23, S_35_26, S_35_27, S_35_28, S_35_31, S_35_34, S_35_35, u_at, iI_zero, iI_31, iI_add, iI_sub, iI_mul, iI_neg, ↓iI_max, ↓iI_min, iI_div, emod_f, iI_lt, iI_le, iI_inj, iI_toInt, ↓ii01, ↓ii11, ↓bI_b, bI_0, bI_1, Kt_s, Kt_n, cat0, cat1, cat2, cat3, cat4, rfV, Nat.reduceAdd, Nat.reduceMul, Nat.reduceEqDiff, Int.reduceAdd, Int.reduceSub, Int.reduceMul, Int.reduceNeg, Int.reduceLT, Int.reduceLE, Int.reduceEq, Int.reduceDiv, ↓reduceIte, ↓ite_ww, ↓ite_wi, Br_n, Br_TW, Br_FW, Br_FP, Br_FB, nn_p, and_true, true_and, and_self, true_or, or_true, not_true_eq_false, not_false_eq_true, le_T, le_F, lt_T, lt_F, eq_T, eq_F, Int.add_zero, Int.zero_add, Int.one_mul, Int.mul_one, up_eq, up_ne, Int.add_assoc, Int.add_sub_cancel, Int.sub_zero, Int.sub_self, H_87, H_48, H_53, ov]
    · intro hno
      rw [bZ_F (fun ⟨b, b0, b1, q⟩ => hno b b0 b1 q), S_35_2]
      simp (disch := first | omega | exact okF _ | exact okI _ | exact okR _ | assumption | exact okN) only [S_35_0, S_35_1, S_35_3, S_35_4, S_35_7, S_35_10, S_35_13, S_35_16, S_35_17, S_35_18, S_35_19, S_35_22, S_35_23, S_35_26, S_35_27, S_35_28, S_35_31, S_35_34, S_35_35, u_at, iI_zero, iI_31, iI_add, iI_sub, iI_mul, iI_neg, ↓iI_max, ↓iI_min, iI_div, emod_f, iI_lt, iI_le, iI_inj, iI_toInt, ↓ii01, ↓ii11, ↓bI_b, bI_0, bI_1, Kt_s, Kt_n, cat0, cat1, cat2, cat3, cat4, rfV, Nat.reduceAdd, Nat.reduceMul, Nat.reduceEqDiff, Int.reduceAdd, Int.reduceSub, Int.reduceMul, Int.reduceNeg, Int.reduceLT, Int.reduceLE, Int.reduceEq, Int.reduceDiv, ↓reduceIte, ↓ite_ww, ↓ite_wi, Br_n, Br_TW, Br_FW, Br_FP, Br_FB, nn_p, and_true, true_and, and_self, true_or, or_true, not_true_eq_false, not_false_eq_true, le_T, le_F, lt_T, lt_F, eq_T, eq_F, Int.add_zero, Int.zero_add, Int.one_mul, Int.mul_one, up_eq, up_ne, Int.add_assoc, Int.add_sub_cancel, Int.sub_zero, Int.sub_self, H_87, H_48, H_53]
  rw [← loop 0 (by omega) hn.1 (fun b b0 b1 => by omega)]
  simp (disch := first | omega | exact okF _ | exact okI _ | exact okR _ | assumption | exact okN) only [S_35_0, S_35_1, S_35_3, S_35_4, S_35_7, S_35_10, S_35_13, S_35_16, S_35_17, S_35_18, S_35_19, S_35_22, S_35_23, S_35_26, S_35_27, S_35_28, S_35_31, S_35_34, S_35_35, u_at, iI_zero, iI_31, iI_add, iI_sub, iI_mul, iI_neg, ↓iI_max, ↓iI_min, iI_div, emod_f, iI_lt, iI_le, iI_inj, iI_toInt, ↓ii01, ↓ii11, ↓bI_b, bI_0, bI_1, Kt_s, Kt_n, cat0, cat1, cat2, cat3, cat4, rfV, Nat.reduceAdd, Nat.reduceMul, Nat.reduceEqDiff, Int.reduceAdd, Int.reduceSub, Int.reduceMul, Int.reduceNeg, Int.reduceLT, Int.reduceLE, Int.reduceEq, Int.reduceDiv, ↓reduceIte, ↓ite_ww, ↓ite_wi, Br_n, Br_TW, Br_FW, Br_FP, Br_FB, nn_p, and_true, true_and, and_self, true_or, or_true, not_true_eq_false, not_false_eq_true, le_T, le_F, lt_T, lt_F, eq_T, eq_F, Int.add_zero, Int.zero_add, Int.one_mul, Int.mul_one, up_eq, up_ne, Int.add_assoc, Int.add_sub_cancel, Int.sub_zero, Int.sub_self]
def isNA (A : Int → Int) (l : lawT) (t k h r : Int) : Prop := (r = 0 ∧ ∃ w, (A (10 + (4 * t + 1)) ≤ w ∧ w ≤ A (10 + (4 * t + 2))) ∧ whyAt A l t k w h = 0) ∨ ((∀ w, (A (10 + (4 * t + 1)) ≤ w ∧ w ≤ A (10 + (4 * t + 2))) → ¬ whyAt A l t k w h = 0) ∧ ((r = 3 ∧ ∃ w, (A (10 + (4 * t + 1)) ≤ w ∧ w ≤ A (10 + (4 * t + 2))) ∧ whyAt A l t k w h = 3) ∨ (r = 2 ∧ ∀ w, (A (10 + (4 * t + 1)) ≤ w ∧ w ≤ A (10 + (4 * t + 2))) → ¬ whyAt A l t k w h = 3)))
theorem c_whyNeverAt (hI : IC0 0 s A) (hc : curC s l) (hl : lawOK l) (W : WF0 A) (hk : 0 ≤ k ∧ k < A 1) (hh : 0 ≤ h ∧ h < 4) (ht : 0 ≤ t ∧ t < A 0) (kk : ∀ s' r, Fr [56, 85, 86, 88, 89, 90, 91, 92, 93, 95, 96, 97, 98, 99, 100, 101, 102, 103, 104] s s' → outC s s' (A 3) → isNA A l t k h r → Q (some (.int (iI r))) (hp X s')) : Wp (d + 7) 108 0 [.ref 105, .int (iI k), .int (iI t), .int (iI h), .float 0, .float 0, .float 0] [] (hp X s) Q := by
  have w0 := W.1
  unfold W0 at w0
  have wt := W.2.1 t ht.1 ht.2
  have wt2 := wt.2.1
  have n3 : s 55004 0 = A 3 := hI.1.2.2.2.1
  have n2 : s 53004 0 = A 2 := hI.1.2.2.1
  have t1 : s 50 (t * 4 + 1) = A (10 + (4 * t + 1)) := (hI.2.1 t ht.1 ht.2).2.1
  have t2 : s 50 (t * 4 + 2) = A (10 + (4 * t + 2)) := (hI.2.1 t ht.1 ht.2).2.2.1
  have loop : ∀ w s1, w ≤ A (10 + (4 * t + 2)) + 1 → (A (10 + (4 * t + 1)) ≤ w ∧ Fr [56, 85, 86, 88, 89, 90, 91, 92, 93, 95, 96, 97, 98, 99, 100, 101, 102, 103, 104] s s1 ∧ outC s s1 (A 3) ∧ (s1 56 (A 3 * 12) = k ∧ s1 56 (A 3 * 12 + 1) = h ∧ s1 56 (A 3 * 12 + 2) = 1 ∧ s1 56 (A 3 * 12 + 3) = t ∧ s1 56 (A 3 * 12 + 5) = 0) ∧ (∀ v, (A (10 + (4 * t + 1)) ≤ v ∧ v < w) → ¬ whyAt A l t k v h = 0)) → ∀ y, ((y = 3 ∧ ∃ v, (A (10 + (4 * t + 1)) ≤ v ∧ v < w) ∧ whyAt A l t k v h = 3) ∨ (y = 2 ∧ ∀ v, (A (10 + (4 * t + 1)) ≤ v ∧ v < w) → ¬ whyAt A l t k v h = 3)) → Wp (d + 7) 108 34 [.ref 105, .int (iI k), .int (iI t), .int (iI h), .int (iI (A 3)), .int (iI y), .int (iI w)] [] (hp X s1) Q := by
    refine lp ?_ ?_
    · intro w s1 hi ⟨w1, hf, ho, ⟨h0, h1, h2, h3, h5⟩, hno⟩ kk2 y hy
      have e50 := hf.g 50 rfl
      have z0 := fOne_0 (A := A) (n := A 3) (k := k) (h := h) (t := t) (w := w) (by omega)
      have zw := fOne_w (A := A) (n := A 3) (k := k) (h := h) (t := t) (w := w) (by omega) hk hh ht (by omega)
      have rw' := fun (d : Nat) (Q : Option Value → aH → Prop) => c_reweigh (d := d) (X := X) (Q := Q) (s := s1) (o := A 3) (i := 0) (w := w) ⟨by omega, by omega⟩
      simp only [Int.mul_zero, Int.zero_add, Int.reduceAdd] at rw'
      rw [S_108_34]
      repeat' (first | (with_reducible refine Br_i ?_ ?_ <;> (intro hbr; first | exact False.elim hbr | skip)) | (with_reducible refine Wl_i ?_) | (simp (disch := first | omega | exact okF _ | exact okI _ | exact okR _ | assumption | exact okN) only [u_at, iI_zero, iI_31, iI_add, iI_sub, iI_mul, iI_neg, ↓iI_max, ↓iI_min, iI_div, emod_f, iI_lt, iI_le, iI_inj, iI_toInt, ↓ii01, ↓ii11, ↓bI_b, bI_0, bI_1, Kt_s, Kt_n, cat0, cat1, cat2, cat3, cat4, rfV, Nat.reduceAdd, Nat.reduceMul, Nat.reduceEqDiff, Int.reduceAdd, Int.reduceSub, Int.reduceMul, Int.reduceNeg, Int.reduceLT, Int.reduceLE, Int.reduceEq, Int.reduceDiv, ↓reduceIte, ↓ite_ww, ↓ite_wi, Br_n, Br_TW, Br_FW, Br_FP, Br_FB, nn_p, and_true, true_and, and_self, true_or, or_true, not_true_eq_false, not_false_eq_true, le_T, le_F, lt_T, lt_F, eq_T, eq_F, Int.add_zero, Int.zero_add, Int.one_mul, Int.mul_one, up_eq, up_ne, Int.add_assoc, Int.add_sub_cancel, Int.sub_zero, Int.sub_self, S_108_0, S_108_1, S_108_4, S_108_7, S_108_10, S_108_12, S_108_13, S_108_15, S_108_16, S_108_18, S_108_19, S_108_20, S_108_21, S_108_24, S_108_25, S_108_28, S_108_29, S_108_32, S_108_36, S_108_37, S_108_40, S_108_41, S_108_44, S_108_47, S_108_48, S_108_51, S_108_53, S_108_54, S_108_56, S_108_59, S_108_60, S_108_63, S_108_65, S_108_68, S_108_69, S_108_72, S_108_74, S_108_77, S_108_80, S_108_81, S_108_84, S_108_87, S_108_89, S_108_92, S_108_93, S_108_96, S_108_99, S_108_101, S_108_104, S_108_107, S_108_108, S_108_109, S_108_110, S_108_112, S_108_115, S_108_118, S_108_120, H_105, H_48, H_87, c_heavy, e50, t2, rw']))
      generalize es2 : u s1 56 _ = s2
      have f2 : Fr [56] s1 s2 := by rw [← es2]; exact (by repeat (first | exact Fr.rf _ | refine Fr.u ?_ rfl))
      have h56 : s2 56 = up (s1 56) (A 3 * 12 + 4) w := by rw [← es2, u_eq]
      have hf2 := hf.to f2 rfl
      have g : ∀ z, ¬ z = A 3 * 12 + 4 → s2 56 z = s1 56 z := fun z hz => by rw [h56, up_ne hz]
      refine c_weigh (A := fOne A (A 3) k h t w) (IC0_cgA W.1 z0 (IC0_fr hf2 rfl hI)) (curC_fr hf2 rfl hc) hl (WF0_cg z0 W) zw (cO_one ((g _ (by omega)).trans h0) ((g _ (by omega)).trans h1) ((g _ (by omega)).trans h2) ((g _ (by omega)).trans h3) (by rw [h56, up_eq rfl]) ((g _ (by omega)).trans h5)) (by omega) ?_
      intro s3 f3 h3' h4'
      have F := hf2.to f3 rfl
      have e56 := f3.g 56 rfl
      have O : outC s s3 (A 3) := fun z hz => by rw [e56, g z (by omega)]; exact ho z hz
      have R : s3 56 (A 3 * 12) = k ∧ s3 56 (A 3 * 12 + 1) = h ∧ s3 56 (A 3 * 12 + 2) = 1 ∧ s3 56 (A 3 * 12 + 3) = t ∧ s3 56 (A 3 * 12 + 5) = 0 := by
        rw [e56, g _ (by omega), g _ (by omega), g _ (by omega), g _ (by omega), g _ (by omega)]
        exact ⟨h0, h1, h2, h3, h5⟩
      obtain ⟨m1, m2, m3, m4, m5, m6, m7⟩ := h3'
      obtain ⟨v0, v1, v2, v3, v4, v5⟩ := one_vals (l := l) (w := w) W (n := A 3) (k := k) (h := h) (t := t) (by omega) hh (by omega) (by omega)
      rw [v0] at m2 m3
      rw [v1] at m2
      rw [v2] at m3
      have e53 : s3 53004 0 = A 2 := by rw [F.g 53004 rfl]; exact n2
      have m7' : ∀ b, 0 ≤ b → b < A 2 → s3 (95 + b.toNat) (A 3) = oOver (fOne A (A 3) k h t w) l b (A 3) := fun b b0 b1 => m7 b b0 (by rw [z0 2 (by omega)]; exact b1)
      have lk : (∃ b, 0 ≤ b ∧ b < s3 53004 0 ∧ 0 ≤ s3 (95 + b.toNat) (A 3)) ↔ likeAt A l h t w := by
        rw [← like_one (l := l) (w := w) W (n := A 3) (k := k) (by omega) hh (by omega) (by omega), e53]
        constructor
        · rintro ⟨b, b0, b1, q⟩
          rw [m7' b b0 b1] at q
          exact ⟨b, b0, b1, q⟩
        · rintro ⟨b, b0, b1, q⟩
          rw [← m7' b b0 b1] at q
          exact ⟨b, b0, b1, q⟩
      have li := fun (d : Nat) (Q : Option Value → aH → Prop) => c_isLiked (d := d) (X := X) (s := s3) (Q := Q) (o := A 3) (by omega) (by rw [e53]; omega) (fun b b0 b1 => by
        rw [e53] at b1
        rw [m7' b b0 b1]
        exact oOver_r (l := l) (WF0_cg z0 W) zw ⟨b0, by rw [z0 2 (by omega)]; exact b1⟩)
      rw [propext lk] at li
      have pr := vPrice_r (A := A) (l := l) (t := t) (w := wdAt A h w) (n := 1) (by have := (wdAt_r W hh (w := w) (by omega)).2; omega)
      have cr := vCost_r (A := A) (l := l) (n := 1) (W.2.2.1 k hk.1 hk.2) wt (w := w) (by omega)
      by_cases c : likeAt A l h t w
      · have wy : whyAt A l t k w h = if vPrice A l t (wdAt A h w) 1 < vCost A l k t w 1 then 3 else 0 := if_pos c
        by_cases q : vPrice A l t (wdAt A h w) 1 < vCost A l k t w 1
        · rw [if_pos q] at wy
          have kk2 := kk2 s3 ⟨by omega, F, O, R, fun v hv => by
            by_cases x : v = w
            · rw [x, wy]; decide
            · exact hno v (by omega)⟩ 3 (Or.inl ⟨rfl, w, by omega, wy⟩)
          repeat' (first | (with_reducible refine Br_i ?_ ?_ <;> (intro hbr; first | exact False.elim hbr | skip)) | (with_reducible refine Wl_i ?_) | (simp (disch := first | omega | exact okF _ | exact okI _ | exact okR _ | assumption | exact okN) only [u_at, iI_zero, iI_31, iI_add, iI_sub, iI_mul, iI_neg, ↓iI_max, ↓iI_min, iI_div, emod_f, iI_lt, iI_le, iI_inj, iI_toInt, ↓ii01, ↓ii11, ↓bI_b, bI_0, bI_1, Kt_s, Kt_n, cat0, cat1, cat2, cat3, cat4, rfV, Nat.reduceAdd, Nat.reduceMul, Nat.reduceEqDiff, Int.reduceAdd, Int.reduceSub, Int.reduceMul, Int.reduceNeg, Int.reduceLT, Int.reduceLE, Int.reduceEq, Int.reduceDiv, ↓reduceIte, ↓ite_ww, ↓ite_wi, Br_n, Br_TW, Br_FW, Br_FP, Br_FB, nn_p, and_true, true_and, and_self, true_or, or_true, not_true_eq_false, not_false_eq_true, le_T, le_F, lt_T, lt_F, eq_T, eq_F, Int.add_zero, Int.zero_add, Int.one_mul, Int.mul_one, up_eq, up_ne, Int.add_assoc, Int.add_sub_cancel, Int.sub_zero, Int.sub_self, S_108_0, S_108_1, S_108_4, S_108_7, S_108_10, S_108_12, S_108_13, S_108_15, S_108_16, S_108_18, S_108_19, S_108_20, S_108_21, S_108_24, S_108_25, S_108_28, S_108_29, S_108_32, S_108_36, S_108_37, S_108_40, S_108_41, S_108_44, S_108_47, S_108_48, S_108_51, S_108_53, S_108_54, S_108_56, S_108_59, S_108_60, S_108_63, S_108_65, S_108_68, S_108_69, S_108_72, S_108_74, S_108_77, S_108_80, S_108_81, S_108_84, S_108_87, S_108_89, S_108_92, S_108_93, S_108_96, S_108_99, S_108_101, S_108_104, S_108_107, S_108_108, S_108_109, S_108_110, S_108_112, S_108_115, S_108_118, S_108_120, H_105, H_87, c_cell_89, c_cell_90, li, c, m2, m3]))
          exact kk2
        · rw [if_neg q] at wy
          have kk := kk s3 0 F O (Or.inl ⟨rfl, w, by omega, wy⟩)
          repeat' (first | (with_reducible refine Br_i ?_ ?_ <;> (intro hbr; first | exact False.elim hbr | skip)) | (with_reducible refine Wl_i ?_) | (simp (disch := first | omega | exact okF _ | exact okI _ | exact okR _ | assumption | exact okN) only [u_at, iI_zero, iI_31, iI_add, iI_sub, iI_mul, iI_neg, ↓iI_max, ↓iI_min, iI_div, emod_f, iI_lt, iI_le, iI_inj, iI_toInt, ↓ii01, ↓ii11, ↓bI_b, bI_0, bI_1, Kt_s, Kt_n, cat0, cat1, cat2, cat3, cat4, rfV, Nat.reduceAdd, Nat.reduceMul, Nat.reduceEqDiff, Int.reduceAdd, Int.reduceSub, Int.reduceMul, Int.reduceNeg, Int.reduceLT, Int.reduceLE, Int.reduceEq, Int.reduceDiv, ↓reduceIte, ↓ite_ww, ↓ite_wi, Br_n, Br_TW, Br_FW, Br_FP, Br_FB, nn_p, and_true, true_and, and_self, true_or, or_true, not_true_eq_false, not_false_eq_true, le_T, le_F, lt_T, lt_F, eq_T, eq_F, Int.add_zero, Int.zero_add, Int.one_mul, Int.mul_one, up_eq, up_ne, Int.add_assoc, Int.add_sub_cancel, Int.sub_zero, Int.sub_self, S_108_0, S_108_1, S_108_4, S_108_7, S_108_10, S_108_12, S_108_13, S_108_15, S_108_16, S_108_18, S_108_19, S_108_20, S_108_21, S_108_24, S_108_25, S_108_28, S_108_29, S_108_32, S_108_36, S_108_37, S_108_40, S_108_41, S_108_44, S_108_47, S_108_48, S_108_51, S_108_53, S_108_54, S_108_56, S_108_59, S_108_60, S_108_63, S_108_65, S_108_68, S_108_69, S_108_72, S_108_74, S_108_77, S_108_80, S_108_81, S_108_84, S_108_87, S_108_89, S_108_92, S_108_93, S_108_96, S_108_99, S_108_101, S_108_104, S_108_107, S_108_108, S_108_109, S_108_110, S_108_112, S_108_115, S_108_118, S_108_120, H_105, H_87, c_cell_89, c_cell_90, li, c, m2, m3]))
          exact kk
      · have wy : whyAt A l t k w h = 2 := if_neg c
        have kk2 := kk2 s3 ⟨by omega, F, O, R, fun v hv => by
          by_cases x : v = w
          · rw [x, wy]; decide
          · exact hno v (by omega)⟩ y (by
          rcases hy with ⟨a, v, b1, b2⟩ | ⟨a, b⟩
          · exact Or.inl ⟨a, v, by omega, b2⟩
          · exact Or.inr ⟨a, fun v hv => by
              by_cases x : v = w
              · rw [x, wy]; decide
              · exact b v (by omega)⟩)
        repeat' (first | (with_reducible refine Br_i ?_ ?_ <;> (intro hbr; first | exact False.elim hbr | skip)) | (with_reducible refine Wl_i ?_) | (simp (disch := first | omega | exact okF _ | exact okI _ | exact okR _ | assumption | exact okN) only [u_at, iI_zero, iI_31, iI_add, iI_sub, iI_mul, iI_neg, ↓iI_max, ↓iI_min, iI_div, emod_f, iI_lt, iI_le, iI_inj, iI_toInt, ↓ii01, ↓ii11, ↓bI_b, bI_0, bI_1, Kt_s, Kt_n, cat0, cat1, cat2, cat3, cat4, rfV, Nat.reduceAdd, Nat.reduceMul, Nat.reduceEqDiff, Int.reduceAdd, Int.reduceSub, Int.reduceMul, Int.reduceNeg, Int.reduceLT, Int.reduceLE, Int.reduceEq, Int.reduceDiv, ↓reduceIte, ↓ite_ww, ↓ite_wi, Br_n, Br_TW, Br_FW, Br_FP, Br_FB, nn_p, and_true, true_and, and_self, true_or, or_true, not_true_eq_false, not_false_eq_true, le_T, le_F, lt_T, lt_F, eq_T, eq_F, Int.add_zero, Int.zero_add, Int.one_mul, Int.mul_one, up_eq, up_ne, Int.add_assoc, Int.add_sub_cancel, Int.sub_zero, Int.sub_self, S_108_0, S_108_1, S_108_4, S_108_7, S_108_10, S_108_12, S_108_13, S_108_15, S_108_16, S_108_18, S_108_19, S_108_20, S_108_21, S_108_24, S_108_25, S_108_28, S_108_29, S_108_32, S_108_36, S_108_37, S_108_40, S_108_41, S_108_44, S_108_47, S_108_48, S_108_51, S_108_53, S_108_54, S_108_56, S_108_59, S_108_60, S_108_63, S_108_65, S_108_68, S_108_69, S_108_72, S_108_74, S_108_77, S_108_80, S_108_81, S_108_84, S_108_87, S_108_89, S_108_92, S_108_93, S_108_96, S_108_99, S_108_101, S_108_104, S_108_107, S_108_108, S_108_109, S_108_110, S_108_112, S_108_115, S_108_118, S_108_120, H_105, H_87, c_cell_89, c_cell_90, li, c, m2, m3]))
        exact kk2
    · intro s1 ⟨w1, hf, ho, hr, hno⟩ y hy
      have e50 := hf.g 50 rfl
      have kk := kk s1 y hf ho (Or.inr ⟨fun w hw => hno w (by omega), by
        rcases hy with ⟨a, v, b1, b2⟩ | ⟨a, b⟩
        · exact Or.inl ⟨a, v, by omega, b2⟩
        · exact Or.inr ⟨a, fun v hv => b v (by omega)⟩⟩)
      repeat' (first | (with_reducible refine Br_i ?_ ?_ <;> (intro hbr; first | exact False.elim hbr | skip)) | (with_reducible refine Wl_i ?_) | (simp (disch := first | omega | exact okF _ | exact okI _ | exact okR _ | assumption | exact okN) only [u_at, iI_zero, iI_31, iI_add, iI_sub, iI_mul, iI_neg, ↓iI_max, ↓iI_min, iI_div, emod_f, iI_lt, iI_le, iI_inj, iI_toInt, ↓ii01, ↓ii11, ↓bI_b, bI_0, bI_1, Kt_s, Kt_n, cat0, cat1, cat2, cat3, cat4, rfV, Nat.reduceAdd, Nat.reduceMul, Nat.reduceEqDiff, Int.reduceAdd, Int.reduceSub, Int.reduceMul, Int.reduceNeg, Int.reduceLT, Int.reduceLE, Int.reduceEq, Int.reduceDiv, ↓reduceIte, ↓ite_ww, ↓ite_wi, Br_n, Br_TW, Br_FW, Br_FP, Br_FB, nn_p, and_true, true_and, and_self, true_or, or_true, not_true_eq_false, not_false_eq_true, le_T, le_F, lt_T, lt_F, eq_T, eq_F, Int.add_zero, Int.zero_add, Int.one_mul, Int.mul_one, up_eq, up_ne, Int.add_assoc, Int.add_sub_cancel, Int.sub_zero, Int.sub_self, S_108_0, S_108_1, S_108_4, S_108_7, S_108_10, S_108_12, S_108_13, S_108_15, S_108_16, S_108_18, S_108_19, S_108_20, S_108_21, S_108_24, S_108_25, S_108_28, S_108_29, S_108_32, S_108_34, S_108_36, S_108_37, S_108_40, S_108_41, S_108_44, S_108_47, S_108_48, S_108_51, S_108_53, S_108_54, S_108_56, S_108_59, S_108_60, S_108_63, S_108_65, S_108_68, S_108_69, S_108_72, S_108_74, S_108_77, S_108_80, S_108_81, S_108_84, S_108_87, S_108_89, S_108_92, S_108_93, S_108_96, S_108_99, S_108_101, S_108_104, S_108_107, S_108_108, S_108_109, S_108_110, S_108_112, S_108_115, S_108_118, S_108_120, H_105, H_48, c_heavy, e50, t2]))
      exact kk
  have r1 := row1_at (f := s 56) (n := A 3) (k := k) (h := h) (t := t) (w := A (10 + (4 * t + 1)))
  have l0 := loop (A (10 + (4 * t + 1))) (u s 56 (row1 (s 56) (A 3) k h t (A (10 + (4 * t + 1))))) (by omega) ⟨Int.le_refl _, (by repeat (first | exact Fr.rf _ | refine Fr.u ?_ rfl)), fun z hz => by rw [u_eq, row1_ne hz], ⟨by rw [u_eq]; exact r1.1, by rw [u_eq]; exact r1.2.1, by rw [u_eq]; exact r1.2.2.1, by rw [u_eq]; exact r1.2.2.2.1, by rw [u_eq]; exact r1.2.2.2.2.2⟩, fun v hv => by omega⟩ 2 (Or.inr ⟨rfl, fun v hv => by omega⟩)
  repeat' (first | (with_reducible refine Br_i ?_ ?_ <;> (intro hbr; first | exact False.elim hbr | skip)) | (with_reducible refine Wl_i ?_) | (simp (disch := first | omega | exact okF _ | exact okI _ | exact okR _ | assumption | exact okN) only [u_at, iI_zero, iI_31, iI_add, iI_sub, iI_mul, iI_neg, ↓iI_max, ↓iI_min, iI_div, emod_f, iI_lt, iI_le, iI_inj, iI_toInt, ↓ii01, ↓ii11, ↓bI_b, bI_0, bI_1, Kt_s, Kt_n, cat0, cat1, cat2, cat3, cat4, rfV, Nat.reduceAdd, Nat.reduceMul, Nat.reduceEqDiff, Int.reduceAdd, Int.reduceSub, Int.reduceMul, Int.reduceNeg, Int.reduceLT, Int.reduceLE, Int.reduceEq, Int.reduceDiv, ↓reduceIte, ↓ite_ww, ↓ite_wi, Br_n, Br_TW, Br_FW, Br_FP, Br_FB, nn_p, and_true, true_and, and_self, true_or, or_true, not_true_eq_false, not_false_eq_true, le_T, le_F, lt_T, lt_F, eq_T, eq_F, Int.add_zero, Int.zero_add, Int.one_mul, Int.mul_one, up_eq, up_ne, Int.add_assoc, Int.add_sub_cancel, Int.sub_zero, Int.sub_self, S_108_0, S_108_1, S_108_4, S_108_7, S_108_10, S_108_12, S_108_13, S_108_15, S_108_16, S_108_18, S_108_19, S_108_20, S_108_21, S_108_24, S_108_25, S_108_28, S_108_29, S_108_32, S_108_36, S_108_37, S_108_40, S_108_41, S_108_44, S_108_47, S_108_48, S_108_51, S_108_53, S_108_54, S_108_56, S_108_59, S_108_60, S_108_63, S_108_65, S_108_68, S_108_69, S_108_72, S_108_74, S_108_77, S_108_80, S_108_81, S_108_84, S_108_87, S_108_89, S_108_92, S_108_93, S_108_96, S_108_99, S_108_101, S_108_104, S_108_107, S_108_108, S_108_109, S_108_110, S_108_112, S_108_115, S_108_118, S_108_120, H_105, H_48, H_55, n3, c_layOne, c_light, t1]))
  exact l0
theorem c_whyNever (hI : IC0 0 s A) (hc : curC s l) (hl : lawOK l) (W : WF0 A) (ht : 0 ≤ t ∧ t < A 0) (kk : ∀ s' r, Fr [56, 85, 86, 88, 89, 90, 91, 92, 93, 95, 96, 97, 98, 99, 100, 101, 102, 103, 104] s s' → outC s s' (A 3) → isN A l t r → Q (some (.int (iI r))) (hp X s')) : Wp (d + 8) 107 0 [.ref 105, .int (iI t), .float 0, .float 0, .float 0, .float 0, .float 0] [] (hp X s) Q := by
  have w0 := W.1
  unfold W0 at w0
  have n1 : s 51004 0 = A 1 := hI.1.2.1
  have n0 : s 49004 0 = A 0 := hI.1.1
  have l1 : ∀ k s1, k ≤ A 1 → (0 ≤ k ∧ Fr [56, 85, 86, 88, 89, 90, 91, 92, 93, 95, 96, 97, 98, 99, 100, 101, 102, 103, 104] s s1 ∧ outC s s1 (A 3)) → ∀ (m3 : Prop), stN A l t (fun k' _ _ => k' < k) m3 → ∀ v5 v6, okO v5 = true → okO v6 = true → Wp (d + 8) 107 7 [.ref 105, .int (iI t), .int (iI (bZ (∃ k', (0 ≤ k' ∧ k' < k) ∧ mk A k' t))), .int (iI (bZ m3)), .int (iI k), v5, v6] [] (hp X s1) Q := by
    refine lp ?_ ?_
    · intro k s1 hk ⟨k0, hf, ho⟩ kk2 m3 sn v5 v6 o5 o6
      have hI1 := IC0_fr hf rfl hI
      have e51 : s1 51004 0 = A 1 := by rw [hf.g 51004 rfl]; exact n1
      have e49 : s1 49004 0 = A 0 := by rw [hf.g 49004 rfl]; exact n0
      have ck : s1 52 (k * 4 + 1) = A (60 + (5 * k + 1)) := (hI1.2.2.1 k k0 hk).2.1
      have mke := fun (d : Nat) (Q : Option Value → aH → Prop) => c_makes (d := d) (X := X) (s := s1) (Q := Q) (k := k) (t := t) ⟨by omega, by omega, by omega, by omega⟩
      have mq : ((0 ≤ k ∧ k < s1 51004 0) ∧ (0 ≤ t ∧ t < s1 49004 0) ∧ bitp (s1 52 (k * 4 + 1)) t) ↔ mk A k t := by
        rw [ck, e51, e49]
        unfold mk
        exact ⟨fun q => ⟨by omega, q.2.2⟩, fun q => ⟨⟨k0, hk⟩, ht, q.2⟩⟩
      rw [propext mq] at mke
      rw [S_107_7]
      by_cases cm : mk A k t
      · have l2 : ∀ h s2, h ≤ 4 → (0 ≤ h ∧ Fr [56, 85, 86, 88, 89, 90, 91, 92, 93, 95, 96, 97, 98, 99, 100, 101, 102, 103, 104] s s2 ∧ outC s s2 (A 3)) → ∀ (m3 : Prop), stN A l t (fun k' h' _ => k' < k ∨ (k' = k ∧ h' < h)) m3 → ∀ v6, okO v6 = true → Wp (d + 8) 107 40 [.ref 105, .int (iI t), .int (iI 1), .int (iI (bZ m3)), .int (iI k), .int (iI h), v6] [] (hp X s2) Q := by
          refine lp ?_ ?_
          · intro h s2 hh ⟨h0, hf2, ho2⟩ kk3 m3 sn v6 o6
            rw [S_107_40]
            repeat' (first | (with_reducible refine Br_i ?_ ?_ <;> (intro hbr; first | exact False.elim hbr | skip)) | (with_reducible refine Wl_i ?_) | (simp (disch := first | omega | exact okF _ | exact okI _ | exact okR _ | assumption | exact okN) only [u_at, iI_zero, iI_31, iI_add, iI_sub, iI_mul, iI_neg, ↓iI_max, ↓iI_min, iI_div, emod_f, iI_lt, iI_le, iI_inj, iI_toInt, ↓ii01, ↓ii11, ↓bI_b, bI_0, bI_1, Kt_s, Kt_n, cat0, cat1, cat2, cat3, cat4, rfV, Nat.reduceAdd, Nat.reduceMul, Nat.reduceEqDiff, Int.reduceAdd, Int.reduceSub, Int.reduceMul, Int.reduceNeg, Int.reduceLT, Int.reduceLE, Int.reduceEq, Int.reduceDiv, ↓reduceIte, ↓ite_ww, ↓ite_wi, Br_n, Br_TW, Br_FW, Br_FP, Br_FB, nn_p, and_true, true_and, and_self, true_or, or_true, not_true_eq_false, not_false_eq_true, le_T, le_F, lt_T, lt_F, eq_T, eq_F, Int.add_zero, Int.zero_add, Int.one_mul, Int.mul_one, up_eq, up_ne, Int.add_assoc, Int.add_sub_cancel, Int.sub_zero, Int.sub_self, S_107_0, S_107_1, S_107_2, S_107_3, S_107_4, S_107_5, S_107_7, S_107_9, S_107_10, S_107_13, S_107_16, S_107_19, S_107_22, S_107_23, S_107_26, S_107_28, S_107_29, S_107_32, S_107_35, S_107_36, S_107_37, S_107_38, S_107_42, S_107_43, S_107_46, S_107_47, S_107_49, S_107_50, S_107_52, S_107_55, S_107_57, S_107_59, S_107_62, S_107_63, S_107_64, S_107_66, S_107_67, S_107_70, S_107_71, S_107_72, S_107_75, S_107_78, S_107_81, S_107_84, S_107_85, S_107_88, S_107_89, S_107_92, S_107_93, S_107_96, S_107_97, S_107_100, S_107_101, H_105]))
            refine c_whyNeverAt (IC0_fr hf2 rfl hI) (curC_fr hf2 rfl hc) hl W ⟨k0, hk⟩ ⟨h0, hh⟩ ht ?_
            intro s3 r f3 o3 hr
            have F := hf2.to f3 rfl
            have O : outC s s3 (A 3) := fun z hz => (o3 z hz).trans (ho2 z hz)
            rcases hr with ⟨a, w, b1, b2⟩ | ⟨no, hr⟩
            · subst a
              have kk := kk s3 0 F O (Or.inr (Or.inl ⟨rfl, k, h, w, ⟨k0, hk⟩, cm, ⟨h0, hh⟩, b1, b2⟩))
              repeat' (first | (with_reducible refine Br_i ?_ ?_ <;> (intro hbr; first | exact False.elim hbr | skip)) | (with_reducible refine Wl_i ?_) | (simp (disch := first | omega | exact okF _ | exact okI _ | exact okR _ | assumption | exact okN) only [u_at, iI_zero, iI_31, iI_add, iI_sub, iI_mul, iI_neg, ↓iI_max, ↓iI_min, iI_div, emod_f, iI_lt, iI_le, iI_inj, iI_toInt, ↓ii01, ↓ii11, ↓bI_b, bI_0, bI_1, Kt_s, Kt_n, cat0, cat1, cat2, cat3, cat4, rfV, Nat.reduceAdd, Nat.reduceMul, Nat.reduceEqDiff, Int.reduceAdd, Int.reduceSub, Int.reduceMul, Int.reduceNeg, Int.reduceLT, Int.reduceLE, Int.reduceEq, Int.reduceDiv, ↓reduceIte, ↓ite_ww, ↓ite_wi, Br_n, Br_TW, Br_FW, Br_FP, Br_FB, nn_p, and_true, true_and, and_self, true_or, or_true, not_true_eq_false, not_false_eq_true, le_T, le_F, lt_T, lt_F, eq_T, eq_F, Int.add_zero, Int.zero_add, Int.one_mul, Int.mul_one, up_eq, up_ne, Int.add_assoc, Int.add_sub_cancel, Int.sub_zero, Int.sub_self, S_107_0, S_107_1, S_107_2, S_107_3, S_107_4, S_107_5, S_107_7, S_107_9, S_107_10, S_107_13, S_107_16, S_107_19, S_107_22, S_107_23, S_107_26, S_107_28, S_107_29, S_107_32, S_107_35, S_107_36, S_107_37, S_107_38, S_107_42, S_107_43, S_107_46, S_107_47, S_107_49, S_107_50, S_107_52, S_107_55, S_107_57, S_107_59, S_107_62, S_107_63, S_107_64, S_107_66, S_107_67, S_107_70, S_107_71, S_107_72, S_107_75, S_107_78, S_107_81, S_107_84, S_107_85, S_107_88, S_107_89, S_107_92, S_107_93, S_107_96, S_107_97, S_107_100, S_107_101]))
              exact kk
            · rcases hr with ⟨a, w, b1, b2⟩ | ⟨a, b⟩
              · subst a
                have sn2 : stN A l t (fun k' h' _ => k' < k ∨ (k' = k ∧ h' < h + 1)) True := by
                  refine ⟨fun k' h' w' q1 q2 q3 q4 q5 => ?_, fun _ => ⟨k, h, w, ⟨k0, hk⟩, cm, ⟨h0, hh⟩, b1, b2⟩⟩
                  by_cases x : k' = k ∧ h' = h
                  · rw [x.1, x.2]; exact ⟨no w' q4, fun _ => trivial⟩
                  · exact ⟨(sn.1 k' h' w' q1 q2 q3 q4 (by omega)).1, fun _ => trivial⟩
                have kk3 := kk3 s3 ⟨by omega, F, O⟩ True sn2 (.int (iI 3)) rfl
                rw [bZ_T trivial] at kk3
                repeat' (first | (with_reducible refine Br_i ?_ ?_ <;> (intro hbr; first | exact False.elim hbr | skip)) | (with_reducible refine Wl_i ?_) | (simp (disch := first | omega | exact okF _ | exact okI _ | exact okR _ | assumption | exact okN) only [u_at, iI_zero, iI_31, iI_add, iI_sub, iI_mul, iI_neg, ↓iI_max, ↓iI_min, iI_div, emod_f, iI_lt, iI_le, iI_inj, iI_toInt, ↓ii01, ↓ii11, ↓bI_b, bI_0, bI_1, Kt_s, Kt_n, cat0, cat1, cat2, cat3, cat4, rfV, Nat.reduceAdd, Nat.reduceMul, Nat.reduceEqDiff, Int.reduceAdd, Int.reduceSub, Int.reduceMul, Int.reduceNeg, Int.reduceLT, Int.reduceLE, Int.reduceEq, Int.reduceDiv, ↓reduceIte, ↓ite_ww, ↓ite_wi, Br_n, Br_TW, Br_FW, Br_FP, Br_FB, nn_p, and_true, true_and, and_self, true_or, or_true, not_true_eq_false, not_false_eq_true, le_T, le_F, lt_T, lt_F, eq_T, eq_F, Int.add_zero, Int.zero_add, Int.one_mul, Int.mul_one, up_eq, up_ne, Int.add_assoc, Int.add_sub_cancel, Int.sub_zero, Int.sub_self, S_107_0, S_107_1, S_107_2, S_107_3, S_107_4, S_107_5, S_107_7, S_107_9, S_107_10, S_107_13, S_107_16, S_107_19, S_107_22, S_107_23, S_107_26, S_107_28, S_107_29, S_107_32, S_107_35, S_107_36, S_107_37, S_107_38, S_107_42, S_107_43, S_107_46, S_107_47, S_107_49, S_107_50, S_107_52, S_107_55, S_107_57, S_107_59, S_107_62, S_107_63, S_107_64, S_107_66, S_107_67, S_107_70, S_107_71, S_107_72, S_107_75, S_107_78, S_107_81, S_107_84, S_107_85, S_107_88, S_107_89, S_107_92, S_107_93, S_107_96, S_107_97, S_107_100, S_107_101]))
                exact kk3
              · subst a
                have sn2 : stN A l t (fun k' h' _ => k' < k ∨ (k' = k ∧ h' < h + 1)) m3 := by
                  refine ⟨fun k' h' w' q1 q2 q3 q4 q5 => ?_, sn.2⟩
                  by_cases x : k' = k ∧ h' = h
                  · rw [x.1, x.2]; exact ⟨no w' q4, fun y => absurd y (b w' q4)⟩
                  · exact sn.1 k' h' w' q1 q2 q3 q4 (by omega)
                have kk3 := kk3 s3 ⟨by omega, F, O⟩ m3 sn2 (.int (iI 2)) rfl
                repeat' (first | (with_reducible refine Br_i ?_ ?_ <;> (intro hbr; first | exact False.elim hbr | skip)) | (with_reducible refine Wl_i ?_) | (simp (disch := first | omega | exact okF _ | exact okI _ | exact okR _ | assumption | exact okN) only [u_at, iI_zero, iI_31, iI_add, iI_sub, iI_mul, iI_neg, ↓iI_max, ↓iI_min, iI_div, emod_f, iI_lt, iI_le, iI_inj, iI_toInt, ↓ii01, ↓ii11, ↓bI_b, bI_0, bI_1, Kt_s, Kt_n, cat0, cat1, cat2, cat3, cat4, rfV, Nat.reduceAdd, Nat.reduceMul, Nat.reduceEqDiff, Int.reduceAdd, Int.reduceSub, Int.reduceMul, Int.reduceNeg, Int.reduceLT, Int.reduceLE, Int.reduceEq, Int.reduceDiv, ↓reduceIte, ↓ite_ww, ↓ite_wi, Br_n, Br_TW, Br_FW, Br_FP, Br_FB, nn_p, and_true, true_and, and_self, true_or, or_true, not_true_eq_false, not_false_eq_true, le_T, le_F, lt_T, lt_F, eq_T, eq_F, Int.add_zero, Int.zero_add, Int.one_mul, Int.mul_one, up_eq, up_ne, Int.add_assoc, Int.add_sub_cancel, Int.sub_zero, Int.sub_self, S_107_0, S_107_1, S_107_2, S_107_3, S_107_4, S_107_5, S_107_7, S_107_9, S_107_10, S_107_13, S_107_16, S_107_19, S_107_22, S_107_23, S_107_26, S_107_28, S_107_29, S_107_32, S_107_35, S_107_36, S_107_37, S_107_38, S_107_42, S_107_43, S_107_46, S_107_47, S_107_49, S_107_50, S_107_52, S_107_55, S_107_57, S_107_59, S_107_62, S_107_63, S_107_64, S_107_66, S_107_67, S_107_70, S_107_71, S_107_72, S_107_75, S_107_78, S_107_81, S_107_84, S_107_85, S_107_88, S_107_89, S_107_92, S_107_93, S_107_96, S_107_97, S_107_100, S_107_101]))
                exact kk3
          · intro s2 ⟨h0, hf2, ho2⟩ m3 sn v6 o6
            have kk2 := kk2 s2 ⟨by omega, hf2, ho2⟩ m3 (stN_cg sn (fun k' h' w' _ _ _ _ q => by omega)) (.int (iI 4)) v6 rfl o6
            rw [bZ_T (p := ∃ k', (0 ≤ k' ∧ k' < k + 1) ∧ mk A k' t) ⟨k, by omega, cm⟩] at kk2
            repeat' (first | (with_reducible refine Br_i ?_ ?_ <;> (intro hbr; first | exact False.elim hbr | skip)) | (with_reducible refine Wl_i ?_) | (simp (disch := first | omega | exact okF _ | exact okI _ | exact okR _ | assumption | exact okN) only [u_at, iI_zero, iI_31, iI_add, iI_sub, iI_mul, iI_neg, ↓iI_max, ↓iI_min, iI_div, emod_f, iI_lt, iI_le, iI_inj, iI_toInt, ↓ii01, ↓ii11, ↓bI_b, bI_0, bI_1, Kt_s, Kt_n, cat0, cat1, cat2, cat3, cat4, rfV, Nat.reduceAdd, Nat.reduceMul, Nat.reduceEqDiff, Int.reduceAdd, Int.reduceSub, Int.reduceMul, Int.reduceNeg, Int.reduceLT, Int.reduceLE, Int.reduceEq, Int.reduceDiv, ↓reduceIte, ↓ite_ww, ↓ite_wi, Br_n, Br_TW, Br_FW, Br_FP, Br_FB, nn_p, and_true, true_and, and_self, true_or, or_true, not_true_eq_false, not_false_eq_true, le_T, le_F, lt_T, lt_F, eq_T, eq_F, Int.add_zero, Int.zero_add, Int.one_mul, Int.mul_one, up_eq, up_ne, Int.add_assoc, Int.add_sub_cancel, Int.sub_zero, Int.sub_self, S_107_0, S_107_1, S_107_2, S_107_3, S_107_4, S_107_5, S_107_9, S_107_10, S_107_13, S_107_16, S_107_19, S_107_22, S_107_23, S_107_26, S_107_28, S_107_29, S_107_32, S_107_35, S_107_36, S_107_37, S_107_38, S_107_40, S_107_42, S_107_43, S_107_46, S_107_47, S_107_49, S_107_50, S_107_52, S_107_55, S_107_57, S_107_59, S_107_62, S_107_63, S_107_64, S_107_66, S_107_67, S_107_70, S_107_71, S_107_72, S_107_75, S_107_78, S_107_81, S_107_84, S_107_85, S_107_88, S_107_89, S_107_92, S_107_93, S_107_96, S_107_97, S_107_100, S_107_101]))
            exact kk2
        have l0 := l2 0 s1 (by omega) ⟨by omega, hf, ho⟩ m3 (stN_cg sn (fun k' h' w' _ _ _ _ q => by omega)) v6 o6
        repeat' (first | (with_reducible refine Br_i ?_ ?_ <;> (intro hbr; first | exact False.elim hbr | skip)) | (with_reducible refine Wl_i ?_) | (simp (disch := first | omega | exact okF _ | exact okI _ | exact okR _ | assumption | exact okN) only [u_at, iI_zero, iI_31, iI_add, iI_sub, iI_mul, iI_neg, ↓iI_max, ↓iI_min, iI_div, emod_f, iI_lt, iI_le, iI_inj, iI_toInt, ↓ii01, ↓ii11, ↓bI_b, bI_0, bI_1, Kt_s, Kt_n, cat0, cat1, cat2, cat3, cat4, rfV, Nat.reduceAdd, Nat.reduceMul, Nat.reduceEqDiff, Int.reduceAdd, Int.reduceSub, Int.reduceMul, Int.reduceNeg, Int.reduceLT, Int.reduceLE, Int.reduceEq, Int.reduceDiv, ↓reduceIte, ↓ite_ww, ↓ite_wi, Br_n, Br_TW, Br_FW, Br_FP, Br_FB, nn_p, and_true, true_and, and_self, true_or, or_true, not_true_eq_false, not_false_eq_true, le_T, le_F, lt_T, lt_F, eq_T, eq_F, Int.add_zero, Int.zero_add, Int.one_mul, Int.mul_one, up_eq, up_ne, Int.add_assoc, Int.add_sub_cancel, Int.sub_zero, Int.sub_self, S_107_0, S_107_1, S_107_2, S_107_3, S_107_4, S_107_5, S_107_9, S_107_10, S_107_13, S_107_16, S_107_19, S_107_22, S_107_23, S_107_26, S_107_28, S_107_29, S_107_32, S_107_35, S_107_36, S_107_37, S_107_38, S_107_42, S_107_43, S_107_46, S_107_47, S_107_49, S_107_50, S_107_52, S_107_55, S_107_57, S_107_59, S_107_62, S_107_63, S_107_64, S_107_66, S_107_67, S_107_70, S_107_71, S_107_72, S_107_75, S_107_78, S_107_81, S_107_84, S_107_85, S_107_88, S_107_89, S_107_92, S_107_93, S_107_96, S_107_97, S_107_100, S_107_101, H_105, H_48, H_51, e51, mke, cm]))
        exact l0
      · have kk2 := kk2 s1 ⟨by omega, hf, ho⟩ m3 (stN_cg sn (fun k' h' w' _ q0 _ _ q => by
          by_cases x : k' = k
          · rw [x] at q0; exact absurd q0 cm
          · omega)) v5 v6 o5 o6
        have sp : (∃ k', (0 ≤ k' ∧ k' < k + 1) ∧ mk A k' t) ↔ ∃ k', (0 ≤ k' ∧ k' < k) ∧ mk A k' t := by
          constructor
          · rintro ⟨k', q, q2⟩
            by_cases x : k' = k
            · rw [x] at q2; exact absurd q2 cm
            · exact ⟨k', by omega, q2⟩
          · rintro ⟨k', q, q2⟩
            exact ⟨k', by omega, q2⟩
        rw [propext sp] at kk2
        repeat' (first | (with_reducible refine Br_i ?_ ?_ <;> (intro hbr; first | exact False.elim hbr | skip)) | (with_reducible refine Wl_i ?_) | (simp (disch := first | omega | exact okF _ | exact okI _ | exact okR _ | assumption | exact okN) only [u_at, iI_zero, iI_31, iI_add, iI_sub, iI_mul, iI_neg, ↓iI_max, ↓iI_min, iI_div, emod_f, iI_lt, iI_le, iI_inj, iI_toInt, ↓ii01, ↓ii11, ↓bI_b, bI_0, bI_1, Kt_s, Kt_n, cat0, cat1, cat2, cat3, cat4, rfV, Nat.reduceAdd, Nat.reduceMul, Nat.reduceEqDiff, Int.reduceAdd, Int.reduceSub, Int.reduceMul, Int.reduceNeg, Int.reduceLT, Int.reduceLE, Int.reduceEq, Int.reduceDiv, ↓reduceIte, ↓ite_ww, ↓ite_wi, Br_n, Br_TW, Br_FW, Br_FP, Br_FB, nn_p, and_true, true_and, and_self, true_or, or_true, not_true_eq_false, not_false_eq_true, le_T, le_F, lt_T, lt_F, eq_T, eq_F, Int.add_zero, Int.zero_add, Int.one_mul, Int.mul_one, up_eq, up_ne, Int.add_assoc, Int.add_sub_cancel, Int.sub_zero, Int.sub_self, S_107_0, S_107_1, S_107_2, S_107_3, S_107_4, S_107_5, S_107_9, S_107_10, S_107_13, S_107_16, S_107_19, S_107_22, S_107_23, S_107_26, S_107_28, S_107_29, S_107_32, S_107_35, S_107_36, S_107_37, S_107_38, S_107_40, S_107_42, S_107_43, S_107_46, S_107_47, S_107_49, S_107_50, S_107_52, S_107_55, S_107_57, S_107_59, S_107_62, S_107_63, S_107_64, S_107_66, S_107_67, S_107_70, S_107_71, S_107_72, S_107_75, S_107_78, S_107_81, S_107_84, S_107_85, S_107_88, S_107_89, S_107_92, S_107_93, S_107_96, S_107_97, S_107_100, S_107_101, H_105, H_48, H_51, e51, mke, cm]))
        exact kk2
    · intro s1 ⟨k0, hf, ho⟩ m3 sn v5 v6 o5 o6
      have e51 : s1 51004 0 = A 1 := by rw [hf.g 51004 rfl]; exact n1
      have n0' : ¬ exN A l t 0 := fun ⟨k, h, w, a, b, c, e, q⟩ => (sn.1 k h w a b c e a.2).1 q
      have n3' : ¬ m3 → ¬ exN A l t 3 := fun x ⟨k, h, w, a, b, c, e, q⟩ => x ((sn.1 k h w a b c e a.2).2 q)
      by_cases cm : ∃ k', (0 ≤ k' ∧ k' < A 1) ∧ mk A k' t
      · rw [bZ_T cm]
        by_cases c3 : m3
        · rw [bZ_T c3]
          have kk := kk s1 3 hf ho (Or.inr (Or.inr (Or.inl ⟨rfl, n0', sn.2 c3⟩)))
          repeat' (first | (with_reducible refine Br_i ?_ ?_ <;> (intro hbr; first | exact False.elim hbr | skip)) | (with_reducible refine Wl_i ?_) | (simp (disch := first | omega | exact okF _ | exact okI _ | exact okR _ | assumption | exact okN) only [u_at, iI_zero, iI_31, iI_add, iI_sub, iI_mul, iI_neg, ↓iI_max, ↓iI_min, iI_div, emod_f, iI_lt, iI_le, iI_inj, iI_toInt, ↓ii01, ↓ii11, ↓bI_b, bI_0, bI_1, Kt_s, Kt_n, cat0, cat1, cat2, cat3, cat4, rfV, Nat.reduceAdd, Nat.reduceMul, Nat.reduceEqDiff, Int.reduceAdd, Int.reduceSub, Int.reduceMul, Int.reduceNeg, Int.reduceLT, Int.reduceLE, Int.reduceEq, Int.reduceDiv, ↓reduceIte, ↓ite_ww, ↓ite_wi, Br_n, Br_TW, Br_FW, Br_FP, Br_FB, nn_p, and_true, true_and, and_self, true_or, or_true, not_true_eq_false, not_false_eq_true, le_T, le_F, lt_T, lt_F, eq_T, eq_F, Int.add_zero, Int.zero_add, Int.one_mul, Int.mul_one, up_eq, up_ne, Int.add_assoc, Int.add_sub_cancel, Int.sub_zero, Int.sub_self, S_107_0, S_107_1, S_107_2, S_107_3, S_107_4, S_107_5, S_107_7, S_107_9, S_107_10, S_107_13, S_107_16, S_107_19, S_107_22, S_107_23, S_107_26, S_107_28, S_107_29, S_107_32, S_107_35, S_107_36, S_107_37, S_107_38, S_107_40, S_107_42, S_107_43, S_107_46, S_107_47, S_107_49, S_107_50, S_107_52, S_107_55, S_107_57, S_107_59, S_107_62, S_107_63, S_107_64, S_107_66, S_107_67, S_107_70, S_107_71, S_107_72, S_107_75, S_107_78, S_107_81, S_107_84, S_107_85, S_107_88, S_107_89, S_107_92, S_107_93, S_107_96, S_107_97, S_107_100, S_107_101, H_105, H_48, H_51, e51]))
          exact kk
        · rw [bZ_F c3]
          have kk := kk s1 2 hf ho (Or.inr (Or.inr (Or.inr ⟨rfl, cm, n0', n3' c3⟩)))
          repeat' (first | (with_reducible refine Br_i ?_ ?_ <;> (intro hbr; first | exact False.elim hbr | skip)) | (with_reducible refine Wl_i ?_) | (simp (disch := first | omega | exact okF _ | exact okI _ | exact okR _ | assumption | exact okN) only [u_at, iI_zero, iI_31, iI_add, iI_sub, iI_mul, iI_neg, ↓iI_max, ↓iI_min, iI_div, emod_f, iI_lt, iI_le, iI_inj, iI_toInt, ↓ii01, ↓ii11, ↓bI_b, bI_0, bI_1, Kt_s, Kt_n, cat0, cat1, cat2, cat3, cat4, rfV, Nat.reduceAdd, Nat.reduceMul, Nat.reduceEqDiff, Int.reduceAdd, Int.reduceSub, Int.reduceMul, Int.reduceNeg, Int.reduceLT, Int.reduceLE, Int.reduceEq, Int.reduceDiv, ↓reduceIte, ↓ite_ww, ↓ite_wi, Br_n, Br_TW, Br_FW, Br_FP, Br_FB, nn_p, and_true, true_and, and_self, true_or, or_true, not_true_eq_false, not_false_eq_true, le_T, le_F, lt_T, lt_F, eq_T, eq_F, Int.add_zero, Int.zero_add, Int.one_mul, Int.mul_one, up_eq, up_ne, Int.add_assoc, Int.add_sub_cancel, Int.sub_zero, Int.sub_self, S_107_0, S_107_1, S_107_2, S_107_3, S_107_4, S_107_5, S_107_7, S_107_9, S_107_10, S_107_13, S_107_16, S_107_19, S_107_22, S_107_23, S_107_26, S_107_28, S_107_29, S_107_32, S_107_35, S_107_36, S_107_37, S_107_38, S_107_40, S_107_42, S_107_43, S_107_46, S_107_47, S_107_49, S_107_50, S_107_52, S_107_55, S_107_57, S_107_59, S_107_62, S_107_63, S_107_64, S_107_66, S_107_67, S_107_70, S_107_71, S_107_72, S_107_75, S_107_78, S_107_81, S_107_84, S_107_85, S_107_88, S_107_89, S_107_92, S_107_93, S_107_96, S_107_97, S_107_100, S_107_101, H_105, H_48, H_51, e51]))
          exact kk
      · rw [bZ_F cm]
        have kk := kk s1 1 hf ho (Or.inl ⟨rfl, fun k a b q => cm ⟨k, ⟨a, b⟩, q⟩⟩)
        repeat' (first | (with_reducible refine Br_i ?_ ?_ <;> (intro hbr; first | exact False.elim hbr | skip)) | (with_reducible refine Wl_i ?_) | (simp (disch := first | omega | exact okF _ | exact okI _ | exact okR _ | assumption | exact okN) only [u_at, iI_zero, iI_31, iI_add, iI_sub, iI_mul, iI_neg, ↓iI_max, ↓iI_min, iI_div, emod_f, iI_lt, iI_le, iI_inj, iI_toInt, ↓ii01, ↓ii11, ↓bI_b, bI_0, bI_1, Kt_s, Kt_n, cat0, cat1, cat2, cat3, cat4, rfV, Nat.reduceAdd, Nat.reduceMul, Nat.reduceEqDiff, Int.reduceAdd, Int.reduceSub, Int.reduceMul, Int.reduceNeg, Int.reduceLT, Int.reduceLE, Int.reduceEq, Int.reduceDiv, ↓reduceIte, ↓ite_ww, ↓ite_wi, Br_n, Br_TW, Br_FW, Br_FP, Br_FB, nn_p, and_true, true_and, and_self, true_or, or_true, not_true_eq_false, not_false_eq_true, le_T, le_F, lt_T, lt_F, eq_T, eq_F, Int.add_zero, Int.zero_add, Int.one_mul, Int.mul_one, up_eq, up_ne, Int.add_assoc, Int.add_sub_cancel, Int.sub_zero, Int.sub_self, S_107_0, S_107_1, S_107_2, S_107_3, S_107_4, S_107_5, S_107_7, S_107_9, S_107_10, S_107_13, S_107_16, S_107_19, S_107_22, S_107_23, S_107_26, S_107_28, S_107_29, S_107_32, S_107_35, S_107_36, S_107_37, S_107_38, S_107_40, S_107_42, S_107_43, S_107_46, S_107_47, S_107_49, S_107_50, S_107_52, S_107_55, S_107_57, S_107_59, S_107_62, S_107_63, S_107_64, S_107_66, S_107_67, S_107_70, S_107_71, S_107_72, S_107_75, S_107_78, S_107_81, S_107_84, S_107_85, S_107_88, S_107_89, S_107_92, S_107_93, S_107_96, S_107_97, S_107_100, S_107_101, H_105, H_48, H_51, e51]))
        exact kk
  have l0 := l1 0 s w0.2.1.1 ⟨by omega, Fr.rf s, fun _ _ => rfl⟩ False ⟨fun k h w a _ _ _ q => by omega, fun x => x.elim⟩ (.float 0) (.float 0) rfl rfl
  rw [bZ_F not_false, bZ_F (fun ⟨k', q, _⟩ => by omega)] at l0
  repeat' (first | (with_reducible refine Br_i ?_ ?_ <;> (intro hbr; first | exact False.elim hbr | skip)) | (with_reducible refine Wl_i ?_) | (simp (disch := first | omega | exact okF _ | exact okI _ | exact okR _ | assumption | exact okN) only [u_at, iI_zero, iI_31, iI_add, iI_sub, iI_mul, iI_neg, ↓iI_max, ↓iI_min, iI_div, emod_f, iI_lt, iI_le, iI_inj, iI_toInt, ↓ii01, ↓ii11, ↓bI_b, bI_0, bI_1, Kt_s, Kt_n, cat0, cat1, cat2, cat3, cat4, rfV, Nat.reduceAdd, Nat.reduceMul, Nat.reduceEqDiff, Int.reduceAdd, Int.reduceSub, Int.reduceMul, Int.reduceNeg, Int.reduceLT, Int.reduceLE, Int.reduceEq, Int.reduceDiv, ↓reduceIte, ↓ite_ww, ↓ite_wi, Br_n, Br_TW, Br_FW, Br_FP, Br_FB, nn_p, and_true, true_and, and_self, true_or, or_true, not_true_eq_false, not_false_eq_true, le_T, le_F, lt_T, lt_F, eq_T, eq_F, Int.add_zero, Int.zero_add, Int.one_mul, Int.mul_one, up_eq, up_ne, Int.add_assoc, Int.add_sub_cancel, Int.sub_zero, Int.sub_self, S_107_0, S_107_1, S_107_2, S_107_3, S_107_4, S_107_5, S_107_9, S_107_10, S_107_13, S_107_16, S_107_19, S_107_22, S_107_23, S_107_26, S_107_28, S_107_29, S_107_32, S_107_35, S_107_36, S_107_37, S_107_38, S_107_40, S_107_42, S_107_43, S_107_46, S_107_47, S_107_49, S_107_50, S_107_52, S_107_55, S_107_57, S_107_59, S_107_62, S_107_63, S_107_64, S_107_66, S_107_67, S_107_70, S_107_71, S_107_72, S_107_75, S_107_78, S_107_81, S_107_84, S_107_85, S_107_88, S_107_89, S_107_92, S_107_93, S_107_96, S_107_97, S_107_100, S_107_101]))
  exact l0
end CN
