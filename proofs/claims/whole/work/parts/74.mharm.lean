/-! HARM, LEAST HARM, CHANGED: the reference -/
/-- the law of a text; without: no clauses -/
def Lw (L : Int → lawT) (t : Int) : lawT := if 0 ≤ t then L t else []
/-- the texts that are told, on both sides -/
def LI (s : sg) (n : Int) (L : Int → lawT) : Prop := lC s 11 0 [] ∧ ∀ t, 0 ≤ t → t < n → lawOK (L t) ∧ lC s (lq t) 0 (L t) ∧ lM s t 0 (L t)
noncomputable def gOf (A : Int → Int) (l : lawT) (b : Int) : Int := Classical.epsilon (fun y => isG A l b y)
noncomputable def rCould (A : Int → Int) (l : lawT) : Int := sm (fun b => A (100 + 6 * b) * gOf A l b) (A 2)
noncomputable def hrm (A : Int → Int) (L : Int → lawT) (t : Int) : Int := rCould (up A 5 t) (Lw L t) - hadOf (up A 5 t) (Lw L t)
noncomputable def rHarm (A : Int → Int) (L : Int → lawT) (t w : Int) : Int := @ite _ ((t = -1 ∨ 0 ≤ t ∧ t ≤ A 4 - 1) ∧ 0 ≤ w ∧ w ≤ 2) (Classical.propDecidable _) (if w = 0 then rCould (up A 5 t) (Lw L t) else if w = 1 then hadOf (up A 5 t) (Lw L t) else hrm A L t) (-1000000000)
/-- the least of a row of values, as ints -/
noncomputable def lst (e : Int → Int) (t : Int) (p : Int × Int) : Int × Int := @ite _ (p.1 = -1 ∨ lt32 (e t) p.2) (Classical.propDecidable _) (t, e t) p
noncomputable def lfd (e : Int → Int) (z : Int) : Int × Int := fd (lst e) (-1, 0) 0 z
/-- the bits of those of whom P holds -/
noncomputable def bts (P : Int → Prop) (n : Int) : Int32 := fd (fun k b => @ite _ (P k) (Classical.propDecidable _) (b ||| (iI 1 <<< (iI k &&& iI 31))) b) (iI 0) 0 n
/-- who has more, or less -/
noncomputable def rChg (A : Int → Int) (L : Int → lawT) (t w : Int) : Int32 :=
  let Y := year A (Lw L (A 5)) (A 3)
  let Z := year (up A 5 t) (Lw L t) (A 3)
  @ite _ ((t = -1 ∨ 0 ≤ t ∧ t ≤ A 4 - 1) ∧ 0 ≤ w ∧ w ≤ 3) (Classical.propDecidable _)
    (if w = 0 then bts (fun k => Y.2.2.2.2 k < Z.2.2.2.2 k) (A 2) else if w = 1 then bts (fun k => Z.2.2.2.2 k < Y.2.2.2.2 k) (A 2) else if w = 2 then bts (fun k => Y.2.1 k < Z.2.1 k) (A 1) else bts (fun k => Z.2.1 k < Y.2.1 k) (A 1)) (iI (-1))
section MH
variable {d : Nat} {X : hX} {s s2 : sg} {Q : Option Value → aH → Prop} {t w z n y b : Int} {A B : Int → Int} {L : Int → lawT} {l : lawT}
theorem gOf_e (h : isG A l b y) : y = gOf A l b := isG_u h (Classical.epsilon_spec (p := fun y => isG A l b y) ⟨y, h⟩)
theorem rCould_e {G : Int → Int} (h : ∀ b, 0 ≤ b → b < A 2 → isG A l b (G b)) : sm (fun b => A (100 + 6 * b) * G b) (A 2) = rCould A l := sm_cg (fun b b0 b1 => by rw [gOf_e (h b b0 b1)])
theorem lfd_0 {e : Int → Int} : lfd e 0 = (-1, 0) := fd_0 (Int.le_refl 0)
theorem lfd_s {e : Int → Int} (h : 0 ≤ z) : lfd e (z + 1) = lst e z (lfd e z) := fd_s h
theorem lfd_r {e : Int → Int} (h : 0 ≤ z) : -1 ≤ (lfd e z).1 ∧ (lfd e z).1 < z := by
  refine i_ind (P := fun z => -1 ≤ (lfd e z).1 ∧ (lfd e z).1 < z) h (by rw [lfd_0]; exact ⟨Int.le_refl _, by show (-1 : Int) < 0; omega⟩) ?_
  intro z z0 z1 ih
  rw [lfd_s z0]
  unfold lst
  by_cases c : (lfd e z).1 = -1 ∨ lt32 (e z) (lfd e z).2
  · rw [if_pos c]
    exact ⟨by show -1 ≤ z; omega, by show z < z + 1; omega⟩
  · rw [if_neg c]
    omega
theorem bts_0 {P : Int → Prop} : bts P 0 = iI 0 := fd_0 (Int.le_refl 0)
theorem bts_s {P : Int → Prop} (h : 0 ≤ z) : bts P (z + 1) = @ite _ (P z) (Classical.propDecidable _) (bts P z ||| (iI 1 <<< (iI z &&& iI 31))) (bts P z) := fd_s h
theorem lawOK_nil : lawOK [] := ⟨by show (0 : Nat) ≤ 10; omega, fun c h => (by cases h), List.Pairwise.nil⟩
theorem LI_fr {K : List Nat} (f : Fr K s s2) (w1 : ninL K = true) (w2 : (nin 126 K && nin 127 K && nin 128 K && nin 129 K && nin 130 K) = true) (h : LI s n L) : LI s2 n L := by
  simp only [Bool.and_eq_true] at w2
  obtain ⟨⟨⟨⟨a, b⟩, c⟩, d⟩, e⟩ := w2
  refine ⟨lC_fr f w1 (Or.inl rfl) h.1, fun t t0 t1 => ?_⟩
  obtain ⟨h1, h2, h3⟩ := h.2 t t0 t1
  exact ⟨h1, lC_fr f w1 (lq_L t) h2, lM_cg ⟨f 126 a, f 127 b, f 128 c, f 129 d, f 130 e⟩ h3⟩
/-- what a text's number gives -/
theorem LI_at (h : LI s n L) (hn : n ≤ 6) (ht : -1 ≤ t ∧ t < n) : lawOK (Lw L t) ∧ lC s (lq t) 0 (Lw L t) ∧ (s 123 5 = t → curM s (Lw L t)) := by
  by_cases c : 0 ≤ t
  · obtain ⟨h1, h2, h3⟩ := h.2 t c ht.2
    have e : Lw L t = L t := if_pos c
    rw [e]
    exact ⟨h1, h2, fun e5 => Or.inr ⟨by omega, by rw [e5]; exact h3⟩⟩
  · have e : Lw L t = [] := if_neg c
    have q : lq t = 11 := if_neg (by omega)
    rw [e, q]
    exact ⟨lawOK_nil, h.1, fun e5 => Or.inl ⟨by omega, rfl⟩⟩
/-- another text rules -/
theorem WF_5 (h : ∀ z, ¬ z = 5 → B z = A z) (h5 : -1 ≤ B 5 ∧ B 5 ≤ A 4 - 1) (W : WF A) : WF B := by
  obtain ⟨⟨w0, a, b, c, e, g⟩, k⟩ := W
  unfold W0 at w0
  refine ⟨⟨?_, fun x x0 x1 => ?_, fun x x0 x1 => ?_, fun x x0 x1 => ?_, fun x x0 x1 => ?_, fun x x0 x1 => ?_⟩, fun x x0 x1 => ?_⟩
  · unfold W0
    rw [h 0 (by omega), h 1 (by omega), h 2 (by omega), h 3 (by omega), h 4 (by omega), h 6 (by omega)]
    exact ⟨w0.1, w0.2.1, w0.2.2.1, w0.2.2.2.1, w0.2.2.2.2.1, h5, w0.2.2.2.2.2.2⟩
  · rw [h 0 (by omega)] at x1
    unfold WT
    rw [h _ (by omega), h _ (by omega), h _ (by omega), h _ (by omega)]
    exact a x x0 x1
  · rw [h 1 (by omega)] at x1
    unfold WK
    rw [h _ (by omega), h _ (by omega), h _ (by omega)]
    exact b x x0 x1
  · rw [h 2 (by omega)] at x1
    unfold WB
    rw [h _ (by omega), h _ (by omega), h _ (by omega), h _ (by omega)]
    exact c x x0 x1
  · rw [h _ (by omega)]
    exact e x x0 x1
  · rw [h 6 (by omega)] at x1
    unfold WG
    rw [h _ (by omega), h _ (by omega), h _ (by omega)]
    exact g x x0 x1
  · rw [h 3 (by omega)] at x1
    obtain ⟨k1, k2, k3, k4⟩ := k x x0 x1
    unfold WO
    rw [h _ (by omega), h _ (by omega), h _ (by omega), h _ (by omega)]
    refine ⟨k1, k2, k3, fun i i0 i1 => ?_⟩
    unfold WI
    rw [h _ (by omega), h _ (by omega), h _ (by omega), h _ (by omega)]
    exact k4 i i0 i1
theorem WF_u5 (W : WF A) (ht : t = -1 ∨ 0 ≤ t ∧ t ≤ A 4 - 1) : WF (up A 5 t) := by
  have := W.1.1.2.2.2.2.1
  exact WF_5 (fun z q => up_ne q) (by rw [up_eq rfl]; omega) W
theorem m_harm (hA : s 123 = A) (hL : LI s (A 4) L) (W : WF A) (ht : (-2147483648 ≤ t ∧ t < 2147483648)) (hw : (-2147483648 ≤ w ∧ w < 2147483648)) (kk : ∀ s', Fr [123, 139, 140, 141, 142, 143, 144, 145, 146, 147, 148, 149, 150, 151, 152] s s' → s' 123 = A → Q (some (.int (iI (rHarm A L t w)))) (hp X s')) : Wp (d + 9) 249 0 [.ref 122, .int (iI t), .int (iI w), .float 0, .float 0] [] (hp X s) Q := by
  have n4 := W.1.1.2.2.2.2.1
  have n5 := W.1.1.2.2.2.2.2.1
  by_cases c : (t = -1 ∨ 0 ≤ t ∧ t ≤ A 4 - 1) ∧ 0 ≤ w ∧ w ≤ 2
  · rw [rHarm, if_pos c] at kk
    obtain ⟨c1, c2⟩ := c
    have W5 := WF_u5 W c1
    have f1 : Fr [123] s (u s 123 (up A 5 t)) := (by repeat (first | exact Fr.rf _ | refine Fr.u ?_ rfl))
    have at5 := LI_at (t := t) (LI_fr f1 rfl rfl hL) (by omega) (by omega)
    have cm := at5.2.2 (by rw [u_eq, up_eq rfl])
    have lok := at5.1
    have a3 : up A 5 t 3 = A 3 := up_ne (by omega)
    have e5 : up (up A 5 t) 5 (A 5) = A := by rw [up_up, up_id rfl]
    have kd : w = 0 ∨ w = 1 ∨ w = 2 := by omega
    rcases kd with q | q | q <;> subst q
    · repeat' (first | (with_reducible refine Br_i ?_ ?_ <;> (intro hbr; first | exact False.elim hbr | skip)) | (with_reducible refine Wl_i ?_) | (simp (disch := first | omega | exact okF _ | exact okI _ | exact okR _ | assumption | exact okN) only [u_at, iI_zero, iI_31, iI_add, iI_sub, iI_mul, iI_neg, ↓iI_max, ↓iI_min, iI_div, emod_f, iI_lt, iI_le, iI_inj, iI_toInt, ↓ii01, ↓ii11, ↓bI_b, bI_0, bI_1, Kt_s, Kt_n, cat0, cat1, cat2, cat3, cat4, rfV, Nat.reduceAdd, Nat.reduceMul, Nat.reduceEqDiff, Int.reduceAdd, Int.reduceSub, Int.reduceMul, Int.reduceNeg, Int.reduceLT, Int.reduceLE, Int.reduceEq, Int.reduceDiv, ↓reduceIte, ↓ite_ww, ↓ite_wi, Br_n, Br_TW, Br_FW, Br_FP, Br_FB, nn_p, and_true, true_and, and_self, true_or, or_true, not_true_eq_false, not_false_eq_true, le_T, le_F, lt_T, lt_F, eq_T, eq_F, Int.add_zero, Int.zero_add, Int.one_mul, Int.mul_one, up_eq, up_ne, Int.add_assoc, Int.add_sub_cancel, Int.sub_zero, Int.sub_self, S_249_0, S_249_1, S_249_2, S_249_5, S_249_6, S_249_7, S_249_10, S_249_13, S_249_14, S_249_15, S_249_16, S_249_19, S_249_22, S_249_25, S_249_26, S_249_27, S_249_30, S_249_31, S_249_32, S_249_33, S_249_34, S_249_37, S_249_38, S_249_39, S_249_40, S_249_41, S_249_44, S_249_45, S_249_48, S_249_51, S_249_52, S_249_53, S_249_56, S_249_57, S_249_60, S_249_63, S_249_64, S_249_67, S_249_68, S_249_71, S_249_72, S_249_74, S_249_75, S_249_78, S_249_79, S_249_80, S_249_81, S_249_83, H_122, H_123, m_isText hA, m_in, hA]))
      all_goals first | (exfalso; omega) | skip
      all_goals
        refine m_could (A := up A 5 t) (u_eq _ _ _) cm lok W5.1 fun s' G f' hG => ?_
        have ev := rCould_e hG
        generalize sm (fun b => up A 5 t (100 + 6 * b) * G b) (up A 5 t 2) = v at ev ⊢
        have e1 : s' 123 = up A 5 t := (f'.g 123 rfl).trans (u_eq _ _ _)
        have kk := kk (u s' 123 A) (((f1.up rfl).tr (f'.up rfl)).u rfl) (u_eq _ _ _)
        rw [if_pos rfl, ← ev] at kk
        repeat' (first | (with_reducible refine Br_i ?_ ?_ <;> (intro hbr; first | exact False.elim hbr | skip)) | (with_reducible refine Wl_i ?_) | (simp (disch := first | omega | exact okF _ | exact okI _ | exact okR _ | assumption | exact okN) only [u_at, iI_zero, iI_31, iI_add, iI_sub, iI_mul, iI_neg, ↓iI_max, ↓iI_min, iI_div, emod_f, iI_lt, iI_le, iI_inj, iI_toInt, ↓ii01, ↓ii11, ↓bI_b, bI_0, bI_1, Kt_s, Kt_n, cat0, cat1, cat2, cat3, cat4, rfV, Nat.reduceAdd, Nat.reduceMul, Nat.reduceEqDiff, Int.reduceAdd, Int.reduceSub, Int.reduceMul, Int.reduceNeg, Int.reduceLT, Int.reduceLE, Int.reduceEq, Int.reduceDiv, ↓reduceIte, ↓ite_ww, ↓ite_wi, Br_n, Br_TW, Br_FW, Br_FP, Br_FB, nn_p, and_true, true_and, and_self, true_or, or_true, not_true_eq_false, not_false_eq_true, le_T, le_F, lt_T, lt_F, eq_T, eq_F, Int.add_zero, Int.zero_add, Int.one_mul, Int.mul_one, up_eq, up_ne, Int.add_assoc, Int.add_sub_cancel, Int.sub_zero, Int.sub_self, S_249_0, S_249_1, S_249_2, S_249_5, S_249_6, S_249_7, S_249_10, S_249_13, S_249_14, S_249_15, S_249_16, S_249_19, S_249_22, S_249_25, S_249_26, S_249_27, S_249_30, S_249_31, S_249_32, S_249_33, S_249_34, S_249_37, S_249_38, S_249_39, S_249_40, S_249_41, S_249_44, S_249_45, S_249_48, S_249_51, S_249_52, S_249_53, S_249_56, S_249_57, S_249_60, S_249_63, S_249_64, S_249_67, S_249_68, S_249_71, S_249_72, S_249_74, S_249_75, S_249_78, S_249_79, S_249_80, S_249_81, S_249_83, H_122, H_123, e1, e5]))
        exact kk
    · repeat' (first | (with_reducible refine Br_i ?_ ?_ <;> (intro hbr; first | exact False.elim hbr | skip)) | (with_reducible refine Wl_i ?_) | (simp (disch := first | omega | exact okF _ | exact okI _ | exact okR _ | assumption | exact okN) only [u_at, iI_zero, iI_31, iI_add, iI_sub, iI_mul, iI_neg, ↓iI_max, ↓iI_min, iI_div, emod_f, iI_lt, iI_le, iI_inj, iI_toInt, ↓ii01, ↓ii11, ↓bI_b, bI_0, bI_1, Kt_s, Kt_n, cat0, cat1, cat2, cat3, cat4, rfV, Nat.reduceAdd, Nat.reduceMul, Nat.reduceEqDiff, Int.reduceAdd, Int.reduceSub, Int.reduceMul, Int.reduceNeg, Int.reduceLT, Int.reduceLE, Int.reduceEq, Int.reduceDiv, ↓reduceIte, ↓ite_ww, ↓ite_wi, Br_n, Br_TW, Br_FW, Br_FP, Br_FB, nn_p, and_true, true_and, and_self, true_or, or_true, not_true_eq_false, not_false_eq_true, le_T, le_F, lt_T, lt_F, eq_T, eq_F, Int.add_zero, Int.zero_add, Int.one_mul, Int.mul_one, up_eq, up_ne, Int.add_assoc, Int.add_sub_cancel, Int.sub_zero, Int.sub_self, S_249_0, S_249_1, S_249_2, S_249_5, S_249_6, S_249_7, S_249_10, S_249_13, S_249_14, S_249_15, S_249_16, S_249_19, S_249_22, S_249_25, S_249_26, S_249_27, S_249_30, S_249_31, S_249_32, S_249_33, S_249_34, S_249_37, S_249_38, S_249_39, S_249_40, S_249_41, S_249_44, S_249_45, S_249_48, S_249_51, S_249_52, S_249_53, S_249_56, S_249_57, S_249_60, S_249_63, S_249_64, S_249_67, S_249_68, S_249_71, S_249_72, S_249_74, S_249_75, S_249_78, S_249_79, S_249_80, S_249_81, S_249_83, H_122, H_123, m_isText hA, m_in, hA]))
      all_goals first | (exfalso; omega) | skip
      all_goals
        refine m_had (A := up A 5 t) (u_eq _ _ _) cm lok W5.1 W5.2 fun s' f' => ?_
        have e1 : s' 123 = up A 5 t := (f'.g 123 rfl).trans (u_eq _ _ _)
        have kk := kk (u s' 123 A) (((f1.up rfl).tr (f'.up rfl)).u rfl) (u_eq _ _ _)
        rw [if_neg (by omega), if_pos rfl] at kk
        repeat' (first | (with_reducible refine Br_i ?_ ?_ <;> (intro hbr; first | exact False.elim hbr | skip)) | (with_reducible refine Wl_i ?_) | (simp (disch := first | omega | exact okF _ | exact okI _ | exact okR _ | assumption | exact okN) only [u_at, iI_zero, iI_31, iI_add, iI_sub, iI_mul, iI_neg, ↓iI_max, ↓iI_min, iI_div, emod_f, iI_lt, iI_le, iI_inj, iI_toInt, ↓ii01, ↓ii11, ↓bI_b, bI_0, bI_1, Kt_s, Kt_n, cat0, cat1, cat2, cat3, cat4, rfV, Nat.reduceAdd, Nat.reduceMul, Nat.reduceEqDiff, Int.reduceAdd, Int.reduceSub, Int.reduceMul, Int.reduceNeg, Int.reduceLT, Int.reduceLE, Int.reduceEq, Int.reduceDiv, ↓reduceIte, ↓ite_ww, ↓ite_wi, Br_n, Br_TW, Br_FW, Br_FP, Br_FB, nn_p, and_true, true_and, and_self, true_or, or_true, not_true_eq_false, not_false_eq_true, le_T, le_F, lt_T, lt_F, eq_T, eq_F, Int.add_zero, Int.zero_add, Int.one_mul, Int.mul_one, up_eq, up_ne, Int.add_assoc, Int.add_sub_cancel, Int.sub_zero, Int.sub_self, S_249_0, S_249_1, S_249_2, S_249_5, S_249_6, S_249_7, S_249_10, S_249_13, S_249_14, S_249_15, S_249_16, S_249_19, S_249_22, S_249_25, S_249_26, S_249_27, S_249_30, S_249_31, S_249_32, S_249_33, S_249_34, S_249_37, S_249_38, S_249_39, S_249_40, S_249_41, S_249_44, S_249_45, S_249_48, S_249_51, S_249_52, S_249_53, S_249_56, S_249_57, S_249_60, S_249_63, S_249_64, S_249_67, S_249_68, S_249_71, S_249_72, S_249_74, S_249_75, S_249_78, S_249_79, S_249_80, S_249_81, S_249_83, H_122, H_123, e1, e5]))
        exact kk
    · repeat' (first | (with_reducible refine Br_i ?_ ?_ <;> (intro hbr; first | exact False.elim hbr | skip)) | (with_reducible refine Wl_i ?_) | (simp (disch := first | omega | exact okF _ | exact okI _ | exact okR _ | assumption | exact okN) only [u_at, iI_zero, iI_31, iI_add, iI_sub, iI_mul, iI_neg, ↓iI_max, ↓iI_min, iI_div, emod_f, iI_lt, iI_le, iI_inj, iI_toInt, ↓ii01, ↓ii11, ↓bI_b, bI_0, bI_1, Kt_s, Kt_n, cat0, cat1, cat2, cat3, cat4, rfV, Nat.reduceAdd, Nat.reduceMul, Nat.reduceEqDiff, Int.reduceAdd, Int.reduceSub, Int.reduceMul, Int.reduceNeg, Int.reduceLT, Int.reduceLE, Int.reduceEq, Int.reduceDiv, ↓reduceIte, ↓ite_ww, ↓ite_wi, Br_n, Br_TW, Br_FW, Br_FP, Br_FB, nn_p, and_true, true_and, and_self, true_or, or_true, not_true_eq_false, not_false_eq_true, le_T, le_F, lt_T, lt_F, eq_T, eq_F, Int.add_zero, Int.zero_add, Int.one_mul, Int.mul_one, up_eq, up_ne, Int.add_assoc, Int.add_sub_cancel, Int.sub_zero, Int.sub_self, S_249_0, S_249_1, S_249_2, S_249_5, S_249_6, S_249_7, S_249_10, S_249_13, S_249_14, S_249_15, S_249_16, S_249_19, S_249_22, S_249_25, S_249_26, S_249_27, S_249_30, S_249_31, S_249_32, S_249_33, S_249_34, S_249_37, S_249_38, S_249_39, S_249_40, S_249_41, S_249_44, S_249_45, S_249_48, S_249_51, S_249_52, S_249_53, S_249_56, S_249_57, S_249_60, S_249_63, S_249_64, S_249_67, S_249_68, S_249_71, S_249_72, S_249_74, S_249_75, S_249_78, S_249_79, S_249_80, S_249_81, S_249_83, H_122, H_123, m_isText hA, m_in, hA]))
      all_goals first | (exfalso; omega) | skip
      all_goals
        refine m_could (A := up A 5 t) (u_eq _ _ _) cm lok W5.1 fun s' G f' hG => ?_
        have ev := rCould_e hG
        generalize sm (fun b => up A 5 t (100 + 6 * b) * G b) (up A 5 t 2) = v at ev ⊢
        have e1 : s' 123 = up A 5 t := (f'.g 123 rfl).trans (u_eq _ _ _)
        repeat' (first | (with_reducible refine Br_i ?_ ?_ <;> (intro hbr; first | exact False.elim hbr | skip)) | (with_reducible refine Wl_i ?_) | (simp (disch := first | omega | exact okF _ | exact okI _ | exact okR _ | assumption | exact okN) only [u_at, iI_zero, iI_31, iI_add, iI_sub, iI_mul, iI_neg, ↓iI_max, ↓iI_min, iI_div, emod_f, iI_lt, iI_le, iI_inj, iI_toInt, ↓ii01, ↓ii11, ↓bI_b, bI_0, bI_1, Kt_s, Kt_n, cat0, cat1, cat2, cat3, cat4, rfV, Nat.reduceAdd, Nat.reduceMul, Nat.reduceEqDiff, Int.reduceAdd, Int.reduceSub, Int.reduceMul, Int.reduceNeg, Int.reduceLT, Int.reduceLE, Int.reduceEq, Int.reduceDiv, ↓reduceIte, ↓ite_ww, ↓ite_wi, Br_n, Br_TW, Br_FW, Br_FP, Br_FB, nn_p, and_true, true_and, and_self, true_or, or_true, not_true_eq_false, not_false_eq_true, le_T, le_F, lt_T, lt_F, eq_T, eq_F, Int.add_zero, Int.zero_add, Int.one_mul, Int.mul_one, up_eq, up_ne, Int.add_assoc, Int.add_sub_cancel, Int.sub_zero, Int.sub_self, S_249_0, S_249_1, S_249_2, S_249_5, S_249_6, S_249_7, S_249_10, S_249_13, S_249_14, S_249_15, S_249_16, S_249_19, S_249_22, S_249_25, S_249_26, S_249_27, S_249_30, S_249_31, S_249_32, S_249_33, S_249_34, S_249_37, S_249_38, S_249_39, S_249_40, S_249_41, S_249_44, S_249_45, S_249_48, S_249_51, S_249_52, S_249_53, S_249_56, S_249_57, S_249_60, S_249_63, S_249_64, S_249_67, S_249_68, S_249_71, S_249_72, S_249_74, S_249_75, S_249_78, S_249_79, S_249_80, S_249_81, S_249_83, H_122]))
        refine m_had e1 (curM_fr f' rfl (congrFun (f'.g 123 rfl) 5) cm) lok W5.1 W5.2 fun s2 f2 => ?_
        have e2 : s2 123 = up A 5 t := (f2.g 123 rfl).trans e1
        have kk := kk (u s2 123 A) ((((f1.up rfl).tr (f'.up rfl)).tr (f2.up rfl)).u rfl) (u_eq _ _ _)
        rw [if_neg (by omega), if_neg (by omega), hrm, ← ev] at kk
        repeat' (first | (with_reducible refine Br_i ?_ ?_ <;> (intro hbr; first | exact False.elim hbr | skip)) | (with_reducible refine Wl_i ?_) | (simp (disch := first | omega | exact okF _ | exact okI _ | exact okR _ | assumption | exact okN) only [u_at, iI_zero, iI_31, iI_add, iI_sub, iI_mul, iI_neg, ↓iI_max, ↓iI_min, iI_div, emod_f, iI_lt, iI_le, iI_inj, iI_toInt, ↓ii01, ↓ii11, ↓bI_b, bI_0, bI_1, Kt_s, Kt_n, cat0, cat1, cat2, cat3, cat4, rfV, Nat.reduceAdd, Nat.reduceMul, Nat.reduceEqDiff, Int.reduceAdd, Int.reduceSub, Int.reduceMul, Int.reduceNeg, Int.reduceLT, Int.reduceLE, Int.reduceEq, Int.reduceDiv, ↓reduceIte, ↓ite_ww, ↓ite_wi, Br_n, Br_TW, Br_FW, Br_FP, Br_FB, nn_p, and_true, true_and, and_self, true_or, or_true, not_true_eq_false, not_false_eq_true, le_T, le_F, lt_T, lt_F, eq_T, eq_F, Int.add_zero, Int.zero_add, Int.one_mul, Int.mul_one, up_eq, up_ne, Int.add_assoc, Int.add_sub_cancel, Int.sub_zero, Int.sub_self, S_249_0, S_249_1, S_249_2, S_249_5, S_249_6, S_249_7, S_249_10, S_249_13, S_249_14, S_249_15, S_249_16, S_249_19, S_249_22, S_249_25, S_249_26, S_249_27, S_249_30, S_249_31, S_249_32, S_249_33, S_249_34, S_249_37, S_249_38, S_249_39, S_249_40, S_249_41, S_249_44, S_249_45, S_249_48, S_249_51, S_249_52, S_249_53, S_249_56, S_249_57, S_249_60, S_249_63, S_249_64, S_249_67, S_249_68, S_249_71, S_249_72, S_249_74, S_249_75, S_249_78, S_249_79, S_249_80, S_249_81, S_249_83, H_122, H_123, e2, e5]))
        exact kk
  · rw [rHarm, if_neg c] at kk
    have kk := kk s (Fr.rf s) hA
    replace c := Hd_i c
    repeat' (first | (with_reducible refine Br_i ?_ ?_ <;> (intro hbr; first | exact False.elim hbr | skip)) | (with_reducible refine Wl_i ?_) | (simp (disch := first | omega | exact okF _ | exact okI _ | exact okR _ | assumption | exact okN) only [u_at, iI_zero, iI_31, iI_add, iI_sub, iI_mul, iI_neg, ↓iI_max, ↓iI_min, iI_div, emod_f, iI_lt, iI_le, iI_inj, iI_toInt, ↓ii01, ↓ii11, ↓bI_b, bI_0, bI_1, Kt_s, Kt_n, cat0, cat1, cat2, cat3, cat4, rfV, Nat.reduceAdd, Nat.reduceMul, Nat.reduceEqDiff, Int.reduceAdd, Int.reduceSub, Int.reduceMul, Int.reduceNeg, Int.reduceLT, Int.reduceLE, Int.reduceEq, Int.reduceDiv, ↓reduceIte, ↓ite_ww, ↓ite_wi, Br_n, Br_TW, Br_FW, Br_FP, Br_FB, nn_p, and_true, true_and, and_self, true_or, or_true, not_true_eq_false, not_false_eq_true, le_T, le_F, lt_T, lt_F, eq_T, eq_F, Int.add_zero, Int.zero_add, Int.one_mul, Int.mul_one, up_eq, up_ne, Int.add_assoc, Int.add_sub_cancel, Int.sub_zero, Int.sub_self, S_249_0, S_249_1, S_249_2, S_249_5, S_249_6, S_249_7, S_249_10, S_249_13, S_249_14, S_249_15, S_249_16, S_249_19, S_249_22, S_249_25, S_249_26, S_249_27, S_249_30, S_249_31, S_249_32, S_249_33, S_249_34, S_249_37, S_249_38, S_249_39, S_249_40, S_249_41, S_249_44, S_249_45, S_249_48, S_249_51, S_249_52, S_249_53, S_249_56, S_249_57, S_249_60, S_249_63, S_249_64, S_249_67, S_249_68, S_249_71, S_249_72, S_249_74, S_249_75, S_249_78, S_249_79, S_249_80, S_249_81, S_249_83, H_122, H_123, m_isText hA, m_in, hA]))
    all_goals first | exact kk | (exfalso; have c := Hd_o c; omega)
theorem m_least (hA : s 123 = A) (hL : LI s (A 4) L) (W : WF A) (kk : ∀ s', Fr [123, 139, 140, 141, 142, 143, 144, 145, 146, 147, 148, 149, 150, 151, 152] s s' → s' 123 = A → Q (some (.int (iI (lfd (hrm A L) (A 4)).1))) (hp X s')) : Wp (d + 10) 250 0 [.ref 122, .float 0, .float 0, .float 0, .float 0] [] (hp X s) Q := by
  have n4 := W.1.1.2.2.2.2.1
  have loop : ∀ z s1, z ≤ A 4 → (0 ≤ z ∧ Fr [123, 139, 140, 141, 142, 143, 144, 145, 146, 147, 148, 149, 150, 151, 152] s s1 ∧ s1 123 = A) → ∀ v4, okO v4 = true → Wp (d + 10) 250 6 [.ref 122, .int (iI (lfd (hrm A L) z).1), .int (iI (lfd (hrm A L) z).2), .int (iI z), v4] [] (hp X s1) Q := by
    refine lp ?_ ?_
    · intro z s1 hz ⟨z0, hf, hA1⟩ kk2 v4 o4
      rw [S_250_6]
      repeat' (first | (with_reducible refine Br_i ?_ ?_ <;> (intro hbr; first | exact False.elim hbr | skip)) | (with_reducible refine Wl_i ?_) | (simp (disch := first | omega | exact okF _ | exact okI _ | exact okR _ | assumption | exact okN) only [u_at, iI_zero, iI_31, iI_add, iI_sub, iI_mul, iI_neg, ↓iI_max, ↓iI_min, iI_div, emod_f, iI_lt, iI_le, iI_inj, iI_toInt, ↓ii01, ↓ii11, ↓bI_b, bI_0, bI_1, Kt_s, Kt_n, cat0, cat1, cat2, cat3, cat4, rfV, Nat.reduceAdd, Nat.reduceMul, Nat.reduceEqDiff, Int.reduceAdd, Int.reduceSub, Int.reduceMul, Int.reduceNeg, Int.reduceLT, Int.reduceLE, Int.reduceEq, Int.reduceDiv, ↓reduceIte, ↓ite_ww, ↓ite_wi, Br_n, Br_TW, Br_FW, Br_FP, Br_FB, nn_p, and_true, true_and, and_self, true_or, or_true, not_true_eq_false, not_false_eq_true, le_T, le_F, lt_T, lt_F, eq_T, eq_F, Int.add_zero, Int.zero_add, Int.one_mul, Int.mul_one, up_eq, up_ne, Int.add_assoc, Int.add_sub_cancel, Int.sub_zero, Int.sub_self, S_250_0, S_250_1, S_250_2, S_250_3, S_250_4, S_250_5, S_250_7, S_250_8, S_250_11, S_250_12, S_250_13, S_250_16, S_250_17, S_250_18, S_250_19, S_250_22, S_250_24, S_250_25, S_250_26, S_250_29, S_250_31, S_250_32, S_250_35, S_250_36, S_250_37, S_250_39, S_250_40, S_250_43, S_250_46, S_250_47, H_122, H_123, hA1]))
      refine m_harm hA1 (LI_fr hf rfl rfl hL) W (by omega) (by omega) fun s2 f2 hA2 => ?_
      have eh : rHarm A L z 2 = hrm A L z := by
        rw [rHarm, if_pos ⟨Or.inr ⟨z0, by omega⟩, by omega, by omega⟩, if_neg (by omega), if_neg (by omega)]
      have rr := lfd_r (e := hrm A L) z0
      have st := lfd_s (e := hrm A L) z0
      unfold lst at st
      have kk2 := kk2 s2 ⟨by omega, hf.tr f2, hA2⟩ (.int (iI (hrm A L z))) rfl
      rw [st] at kk2
      rw [eh]
      generalize lfd (hrm A L) z = B at *
      by_cases c : B.1 = -1 ∨ lt32 (hrm A L z) B.2
      · rw [if_pos c] at kk2
        by_cases c1 : B.1 = -1
        · repeat' (first | (with_reducible refine Br_i ?_ ?_ <;> (intro hbr; first | exact False.elim hbr | skip)) | (with_reducible refine Wl_i ?_) | (simp (disch := first | omega | exact okF _ | exact okI _ | exact okR _ | assumption | exact okN) only [u_at, iI_zero, iI_31, iI_add, iI_sub, iI_mul, iI_neg, ↓iI_max, ↓iI_min, iI_div, emod_f, iI_lt, iI_le, iI_inj, iI_toInt, ↓ii01, ↓ii11, ↓bI_b, bI_0, bI_1, Kt_s, Kt_n, cat0, cat1, cat2, cat3, cat4, rfV, Nat.reduceAdd, Nat.reduceMul, Nat.reduceEqDiff, Int.reduceAdd, Int.reduceSub, Int.reduceMul, Int.reduceNeg, Int.reduceLT, Int.reduceLE, Int.reduceEq, Int.reduceDiv, ↓reduceIte, ↓ite_ww, ↓ite_wi, Br_n, Br_TW, Br_FW, Br_FP, Br_FB, nn_p, and_true, true_and, and_self, true_or, or_true, not_true_eq_false, not_false_eq_true, le_T, le_F, lt_T, lt_F, eq_T, eq_F, Int.add_zero, Int.zero_add, Int.one_mul, Int.mul_one, up_eq, up_ne, Int.add_assoc, Int.add_sub_cancel, Int.sub_zero, Int.sub_self, S_250_0, S_250_1, S_250_2, S_250_3, S_250_4, S_250_5, S_250_7, S_250_8, S_250_11, S_250_12, S_250_13, S_250_16, S_250_17, S_250_18, S_250_19, S_250_22, S_250_24, S_250_25, S_250_26, S_250_29, S_250_31, S_250_32, S_250_35, S_250_36, S_250_37, S_250_39, S_250_40, S_250_43, S_250_46, S_250_47, H_122, c1]))
          exact kk2
        · have c2 := c.resolve_left c1
          unfold lt32 at c2
          repeat' (first | (with_reducible refine Br_i ?_ ?_ <;> (intro hbr; first | exact False.elim hbr | skip)) | (with_reducible refine Wl_i ?_) | (simp (disch := first | omega | exact okF _ | exact okI _ | exact okR _ | assumption | exact okN) only [u_at, iI_zero, iI_31, iI_add, iI_sub, iI_mul, iI_neg, ↓iI_max, ↓iI_min, iI_div, emod_f, iI_lt, iI_le, iI_inj, iI_toInt, ↓ii01, ↓ii11, ↓bI_b, bI_0, bI_1, Kt_s, Kt_n, cat0, cat1, cat2, cat3, cat4, rfV, Nat.reduceAdd, Nat.reduceMul, Nat.reduceEqDiff, Int.reduceAdd, Int.reduceSub, Int.reduceMul, Int.reduceNeg, Int.reduceLT, Int.reduceLE, Int.reduceEq, Int.reduceDiv, ↓reduceIte, ↓ite_ww, ↓ite_wi, Br_n, Br_TW, Br_FW, Br_FP, Br_FB, nn_p, and_true, true_and, and_self, true_or, or_true, not_true_eq_false, not_false_eq_true, le_T, le_F, lt_T, lt_F, eq_T, eq_F, Int.add_zero, Int.zero_add, Int.one_mul, Int.mul_one, up_eq, up_ne, Int.add_assoc, Int.add_sub_cancel, Int.sub_zero, Int.sub_self, S_250_0, S_250_1, S_250_2, S_250_3, S_250_4, S_250_5, S_250_7, S_250_8, S_250_11, S_250_12, S_250_13, S_250_16, S_250_17, S_250_18, S_250_19, S_250_22, S_250_24, S_250_25, S_250_26, S_250_29, S_250_31, S_250_32, S_250_35, S_250_36, S_250_37, S_250_39, S_250_40, S_250_43, S_250_46, S_250_47, H_122, c2]))
          exact kk2
      · rw [if_neg c] at kk2
        have c1 : ¬ B.1 = -1 := fun q => c (Or.inl q)
        have c2 : iI B.2 ≤ iI (hrm A L z) := Classical.byContradiction fun q => c (Or.inr q)
        repeat' (first | (with_reducible refine Br_i ?_ ?_ <;> (intro hbr; first | exact False.elim hbr | skip)) | (with_reducible refine Wl_i ?_) | (simp (disch := first | omega | exact okF _ | exact okI _ | exact okR _ | assumption | exact okN) only [u_at, iI_zero, iI_31, iI_add, iI_sub, iI_mul, iI_neg, ↓iI_max, ↓iI_min, iI_div, emod_f, iI_lt, iI_le, iI_inj, iI_toInt, ↓ii01, ↓ii11, ↓bI_b, bI_0, bI_1, Kt_s, Kt_n, cat0, cat1, cat2, cat3, cat4, rfV, Nat.reduceAdd, Nat.reduceMul, Nat.reduceEqDiff, Int.reduceAdd, Int.reduceSub, Int.reduceMul, Int.reduceNeg, Int.reduceLT, Int.reduceLE, Int.reduceEq, Int.reduceDiv, ↓reduceIte, ↓ite_ww, ↓ite_wi, Br_n, Br_TW, Br_FW, Br_FP, Br_FB, nn_p, and_true, true_and, and_self, true_or, or_true, not_true_eq_false, not_false_eq_true, le_T, le_F, lt_T, lt_F, eq_T, eq_F, Int.add_zero, Int.zero_add, Int.one_mul, Int.mul_one, up_eq, up_ne, Int.add_assoc, Int.add_sub_cancel, Int.sub_zero, Int.sub_self, S_250_0, S_250_1, S_250_2, S_250_3, S_250_4, S_250_5, S_250_7, S_250_8, S_250_11, S_250_12, S_250_13, S_250_16, S_250_17, S_250_18, S_250_19, S_250_22, S_250_24, S_250_25, S_250_26, S_250_29, S_250_31, S_250_32, S_250_35, S_250_36, S_250_37, S_250_39, S_250_40, S_250_43, S_250_46, S_250_47, H_122, c1, c2]))
        exact kk2
    · intro s1 ⟨z0, hf, hA1⟩ v4 o4
      have kk := kk s1 hf hA1
      rw [S_250_6]
      repeat' (first | (with_reducible refine Br_i ?_ ?_ <;> (intro hbr; first | exact False.elim hbr | skip)) | (with_reducible refine Wl_i ?_) | (simp (disch := first | omega | exact okF _ | exact okI _ | exact okR _ | assumption | exact okN) only [u_at, iI_zero, iI_31, iI_add, iI_sub, iI_mul, iI_neg, ↓iI_max, ↓iI_min, iI_div, emod_f, iI_lt, iI_le, iI_inj, iI_toInt, ↓ii01, ↓ii11, ↓bI_b, bI_0, bI_1, Kt_s, Kt_n, cat0, cat1, cat2, cat3, cat4, rfV, Nat.reduceAdd, Nat.reduceMul, Nat.reduceEqDiff, Int.reduceAdd, Int.reduceSub, Int.reduceMul, Int.reduceNeg, Int.reduceLT, Int.reduceLE, Int.reduceEq, Int.reduceDiv, ↓reduceIte, ↓ite_ww, ↓ite_wi, Br_n, Br_TW, Br_FW, Br_FP, Br_FB, nn_p, and_true, true_and, and_self, true_or, or_true, not_true_eq_false, not_false_eq_true, le_T, le_F, lt_T, lt_F, eq_T, eq_F, Int.add_zero, Int.zero_add, Int.one_mul, Int.mul_one, up_eq, up_ne, Int.add_assoc, Int.add_sub_cancel, Int.sub_zero, Int.sub_self, S_250_0, S_250_1, S_250_2, S_250_3, S_250_4, S_250_5, S_250_7, S_250_8, S_250_11, S_250_12, S_250_13, S_250_16, S_250_17, S_250_18, S_250_19, S_250_22, S_250_24, S_250_25, S_250_26, S_250_29, S_250_31, S_250_32, S_250_35, S_250_36, S_250_37, S_250_39, S_250_40, S_250_43, S_250_46, S_250_47, H_122, H_123, hA1]))
      exact kk
  have l0 := loop 0 s (by omega) ⟨by omega, Fr.rf s, hA⟩ (.float 0) rfl
  rw [lfd_0] at l0
  repeat' (first | (with_reducible refine Br_i ?_ ?_ <;> (intro hbr; first | exact False.elim hbr | skip)) | (with_reducible refine Wl_i ?_) | (simp (disch := first | omega | exact okF _ | exact okI _ | exact okR _ | assumption | exact okN) only [u_at, iI_zero, iI_31, iI_add, iI_sub, iI_mul, iI_neg, ↓iI_max, ↓iI_min, iI_div, emod_f, iI_lt, iI_le, iI_inj, iI_toInt, ↓ii01, ↓ii11, ↓bI_b, bI_0, bI_1, Kt_s, Kt_n, cat0, cat1, cat2, cat3, cat4, rfV, Nat.reduceAdd, Nat.reduceMul, Nat.reduceEqDiff, Int.reduceAdd, Int.reduceSub, Int.reduceMul, Int.reduceNeg, Int.reduceLT, Int.reduceLE, Int.reduceEq, Int.reduceDiv, ↓reduceIte, ↓ite_ww, ↓ite_wi, Br_n, Br_TW, Br_FW, Br_FP, Br_FB, nn_p, and_true, true_and, and_self, true_or, or_true, not_true_eq_false, not_false_eq_true, le_T, le_F, lt_T, lt_F, eq_T, eq_F, Int.add_zero, Int.zero_add, Int.one_mul, Int.mul_one, up_eq, up_ne, Int.add_assoc, Int.add_sub_cancel, Int.sub_zero, Int.sub_self, S_250_0, S_250_1, S_250_2, S_250_3, S_250_4, S_250_5, S_250_7, S_250_8, S_250_11, S_250_12, S_250_13, S_250_16, S_250_17, S_250_18, S_250_19, S_250_22, S_250_24, S_250_25, S_250_26, S_250_29, S_250_31, S_250_32, S_250_35, S_250_36, S_250_37, S_250_39, S_250_40, S_250_43, S_250_46, S_250_47, H_122]))
  exact l0
end MH
