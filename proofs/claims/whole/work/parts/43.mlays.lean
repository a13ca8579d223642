/-! THE REFERENCE: an offer as it is weighed -/
theorem sm_b {f : Int → Int} {hi a b : Int} (h : 0 ≤ hi ∧ hi ≤ 3) (k : ∀ z, 0 ≤ z → z < hi → a ≤ f z ∧ f z ≤ b) (ha : a ≤ 0 ∧ 0 ≤ b) : 3 * a ≤ sm f hi ∧ sm f hi ≤ 3 * b := by
  have q : a * hi ≤ sm f hi ∧ sm f hi ≤ b * hi := by
    refine i_ind (P := fun z => z ≤ hi → a * z ≤ sm f z ∧ sm f z ≤ b * z) h.1 (by intro _; rw [sm_0]; omega) ?_ (Int.le_refl hi)
    intro z z0 z1 ih z2
    have := ih (by omega)
    have := k z z0 z1
    rw [sm_s z0, Int.mul_add, Int.mul_add]
    omega
  have e : hi = 0 ∨ hi = 1 ∨ hi = 2 ∨ hi = 3 := by omega
  rcases e with e | e | e | e <;> subst e <;> omega
theorem mul_b {a b m n : Int} (ha : 0 ≤ a ∧ a ≤ m) (hb : 0 ≤ b ∧ b ≤ n) : 0 ≤ a * b ∧ a * b ≤ m * n := ⟨Int.mul_nonneg ha.1 hb.1, Int.mul_le_mul ha.2 hb.2 hb.1 (by omega)⟩
section OV
variable {A : Int → Int} {l : lawT} {o i b j : Int}
theorem wghd_r (W : WF0 A) (hO : WO A o) (hi : 0 ≤ i ∧ i < A (180 + (13 * o + 2))) : (0 ≤ (A (180 + (13 * o + (3 + (3 * i + 1)))) + A (180 + (13 * o + (3 + (3 * i + 2))))) * A (170 + A (180 + (13 * o + 1))) ∧ (A (180 + (13 * o + (3 + (3 * i + 1)))) + A (180 + (13 * o + (3 + (3 * i + 2))))) * A (170 + A (180 + (13 * o + 1))) ≤ 7350) ∧ 0 ≤ wghd A o i ∧ wghd A o i ≤ 73 := by
  have w := hO.2.2.2 i hi.1 hi.2
  have p := W.2.2.2.2.1 _ hO.2.1.1 hO.2.1.2
  have m := mul_b (a := A (180 + (13 * o + (3 + (3 * i + 1)))) + A (180 + (13 * o + (3 + (3 * i + 2))))) (b := A (170 + A (180 + (13 * o + 1)))) (m := 49) (n := 150) (by have := w.2; omega) (by omega)
  unfold wghd
  omega
theorem vCost_r {k t w n : Int} (hk : WK A k) (ht : WT A t) (hw : 0 ≤ w ∧ w ≤ 40) : 0 ≤ vCost A l k t w n ∧ vCost A l k t w n ≤ 102861 := by
  have h := vHours_r (A := A) (l := l) (t := t) (n := n) hw
  have m1 := mul_b (a := vHours A l t w n) (b := A (60 + (5 * k + 2))) (m := 999) (n := 99) (by omega) hk.2.2
  have m2 := mul_b (a := A (10 + (4 * t + 3))) (b := w) (m := 99) (n := 40) ht.2.2 hw
  unfold vCost
  omega
theorem oHours_r (hO : WO A o) (hj : 0 ≤ j ∧ j ≤ A (180 + (13 * o + 2))) : (0 ≤ oHours A l o j ∧ oHours A l o j ≤ 2997) ∧ (1 ≤ j → 1 ≤ oHours A l o j) := by
  have w3 := hO.2.2.1
  have k : ∀ z, 0 ≤ z → z < j → 1 ≤ vHours A l (A (180 + (13 * o + (3 + 3 * z)))) (A (180 + (13 * o + (3 + (3 * z + 1))))) (A (180 + (13 * o + 2))) ∧ vHours A l (A (180 + (13 * o + (3 + 3 * z)))) (A (180 + (13 * o + (3 + (3 * z + 1))))) (A (180 + (13 * o + 2))) ≤ 999 := by
    intro z z0 z1
    have w := hO.2.2.2 z z0 (by omega)
    exact vHours_r (by have := w.2.1; omega)
  refine ⟨?_, ?_⟩
  · have q := sm_b (f := fun i => vHours A l (A (180 + (13 * o + (3 + 3 * i)))) (A (180 + (13 * o + (3 + (3 * i + 1))))) (A (180 + (13 * o + 2)))) (hi := j) (a := 0) (b := 999) (by omega) (fun z a b => by have := k z a b; exact ⟨by omega, this.2⟩) (by omega)
    unfold oHours
    omega
  · intro h1
    unfold oHours
    have e : j = (j - 1) + 1 := by omega
    rw [e, sm_s (by omega)]
    have q := sm_b (f := fun i => vHours A l (A (180 + (13 * o + (3 + 3 * i)))) (A (180 + (13 * o + (3 + (3 * i + 1))))) (A (180 + (13 * o + 2)))) (hi := j - 1) (a := 0) (b := 999) (by omega) (fun z a b => by have := k z a (by omega); exact ⟨by omega, this.2⟩) (by omega)
    have := k (j - 1) (by omega) (by omega)
    omega
theorem oPrice_r (W : WF0 A) (hO : WO A o) (hj : 0 ≤ j ∧ j ≤ A (180 + (13 * o + 2))) : 0 ≤ oPrice A l o j ∧ oPrice A l o j ≤ 29997 := by
  have w3 := hO.2.2.1
  have q := sm_b (f := fun i => vPrice A l (A (180 + (13 * o + (3 + 3 * i)))) (wghd A o i) (A (180 + (13 * o + 2)))) (hi := j) (a := 0) (b := 9999) (by omega) (fun z a b => by
    have := wghd_r W hO (i := z) (by omega)
    exact vPrice_r (by omega)) (by omega)
  unfold oPrice
  omega
theorem oCost_r (W : WF0 A) (hO : WO A o) (hj : 0 ≤ j ∧ j ≤ A (180 + (13 * o + 2))) : 0 ≤ oCost A l o j ∧ oCost A l o j ≤ 308583 := by
  have w3 := hO.2.2.1
  have q := sm_b (f := fun i => vCost A l (A (180 + 13 * o)) (A (180 + (13 * o + (3 + 3 * i)))) (A (180 + (13 * o + (3 + (3 * i + 1))))) (A (180 + (13 * o + 2)))) (hi := j) (a := 0) (b := 102861) (by omega) (fun z a b => by
    have w := hO.2.2.2 z a (by omega)
    exact vCost_r (W.2.2.1 _ hO.1.1 hO.1.2) (W.2.1 _ w.1.1 w.1.2) (by have := w.2.1; omega)) (by omega)
  unfold oCost
  omega
theorem oLoad_r (hO : WO A o) (hj : 0 ≤ j ∧ j ≤ A (180 + (13 * o + 2))) : 0 ≤ oLoad A o j ∧ oLoad A o j ≤ 147 := by
  have w3 := hO.2.2.1
  have q := sm_b (f := fun i => A (180 + (13 * o + (3 + (3 * i + 1)))) + A (180 + (13 * o + (3 + (3 * i + 2))))) (hi := j) (a := 0) (b := 49) (by omega) (fun z a b => by
    have w := hO.2.2.2 z a (by omega)
    have := w.2
    omega) (by omega)
  unfold oLoad
  omega
theorem oWorth_r (W : WF0 A) (hO : WO A o) (hb : 0 ≤ b ∧ b < A 2) (hj : 0 ≤ j ∧ j ≤ A (180 + (13 * o + 2))) : -29997 ≤ oWorth A l b o j ∧ oWorth A l b o j ≤ 29997 := by
  have w3 := hO.2.2.1
  have q := sm_b (f := fun i => vWorth A l b (A (180 + (13 * o + (3 + 3 * i)))) (A (180 + (13 * o + (3 + (3 * i + 1))))) (A (180 + (13 * o + 2)))) (hi := j) (a := -9999) (b := 9999) (by omega) (fun z a b2 => vWorth_r (W.2.2.2.1 _ hb.1 hb.2)) (by omega)
  unfold oWorth
  omega
theorem oLaw_s {j : Int} (h : 0 ≤ j) : oLaw A l o (j + 1) ↔ oLaw A l o j ∧ ¬ vBars A l (A (180 + (13 * o + (3 + 3 * j)))) (wghd A o j) (A (180 + (13 * o + 2))) := by
  constructor
  · intro q
    exact ⟨fun i a b => q i a (by omega), q j h (by omega)⟩
  · rintro ⟨q, r⟩ i a b
    by_cases e : i = j
    · rw [e]; exact r
    · exact q i a (by omega)
theorem oLaw_0 : oLaw A l o 0 := fun i a b => by omega
end OV
/-- the reference's rows hold the offer o -/
def MO (A : Int → Int) (l : lawT) (o : Int) (s : sg) : Prop := s 141 o = oHours A l o (oNum A o) ∧ s 142 o = oPrice A l o (oNum A o) ∧ s 143 o = oCost A l o (oNum A o) ∧ s 144 o = oLoad A o (oNum A o) ∧ s 145 o = bZ (oLaw A l o (oNum A o)) ∧ ∀ b, 0 ≤ b → b < A 2 → s 146 (10 * o + b) = oWorth A l b o (oNum A o)
def sameM (s s2 : sg) (p : Int) : Prop := s2 141 p = s 141 p ∧ s2 142 p = s 142 p ∧ s2 143 p = s 143 p ∧ s2 144 p = s 144 p ∧ s2 145 p = s 145 p ∧ ∀ b, 0 ≤ b → b < 10 → s2 146 (10 * p + b) = s 146 (10 * p + b)
theorem MO_same {A : Int → Int} {l : lawT} {o : Int} {s s2 : sg} (h2 : A 2 ≤ 10) (h : MO A l o s) (k : sameM s s2 o) : MO A l o s2 := by
  obtain ⟨a, b, c, d, e, f⟩ := h
  obtain ⟨a2, b2, c2, d2, e2, f2⟩ := k
  exact ⟨a2.trans a, b2.trans b, c2.trans c, d2.trans d, e2.trans e, fun z z0 z1 => (f2 z z0 (by omega)).trans (f z z0 z1)⟩
section ML
variable {d : Nat} {X : hX} {s : sg} {Q : Option Value → aH → Prop} {b t w n o : Int} {A : Int → Int} {l : lawT}
theorem m_worthOfOffer (hA : s 123 = A) (hc : curM s l) (hl : lawOK l) (W : WF0 A) (hO : WO A o) (ho : 0 ≤ o ∧ o < 22) (hb : 0 ≤ b ∧ b < A 2) (k : ∀ s', Fr [139, 140] s s' → Q (some (.int (iI (oWorth A l b o (oNum A o))))) (hp X s')) : Wp (d + 5) 228 0 [.ref 122, .int (iI b), .int (iI o), .float 0, .float 0, .float 0] [] (hp X s) Q := by
  have w2 := W.1.2.2.1
  have w0 := W.1.1
  have w3 := hO.2.2.1
  have loop : ∀ i s1, i ≤ A (180 + (13 * o + 2)) → (0 ≤ i ∧ Fr [139, 140] s s1) → Wp (d + 5) 228 13 [.ref 122, .int (iI b), .int (iI o), .int (iI (A (180 + (13 * o + 2)))), .int (iI (oWorth A l b o i)), .int (iI i)] [] (hp X s1) Q := by
    refine lp ?_ ?_
    · intro i s1 hi ⟨h0, hf⟩ kk
      have hA1 : s1 123 = A := (hf.g 123 rfl).trans hA
      have wi := hO.2.2.2 i h0 hi
      have wt := W.2.1 _ wi.1.1 wi.1.2
      have wi1 := wi.1
      have wi2 := wi.2.1
      rw [S_228_13]
      repeat' (first | (with_reducible refine Br_i ?_ ?_ <;> (intro hbr; first | exact False.elim hbr | skip)) | (with_reducible refine Wl_i ?_) | (simp (disch := first | omega | exact okF _ | exact okI _ | exact okR _ | assumption | exact okN) only [u_at, iI_zero, iI_31, iI_add, iI_sub, iI_mul, iI_neg, ↓iI_max, ↓iI_min, iI_div, emod_f, iI_lt, iI_le, iI_inj, iI_toInt, ↓ii01, ↓ii11, ↓bI_b, bI_0, bI_1, Kt_s, Kt_n, cat0, cat1, cat2, cat3, cat4, rfV, Nat.reduceAdd, Nat.reduceMul, Nat.reduceEqDiff, Int.reduceAdd, Int.reduceSub, Int.reduceMul, Int.reduceNeg, Int.reduceLT, Int.reduceLE, Int.reduceEq, Int.reduceDiv, ↓reduceIte, ↓ite_ww, ↓ite_wi, Br_n, Br_TW, Br_FW, Br_FP, Br_FB, nn_p, and_true, true_and, and_self, true_or, or_true, not_true_eq_false, not_false_eq_true, le_T, le_F, lt_T, lt_F, eq_T, eq_F, Int.add_zero, Int.zero_add, Int.one_mul, Int.mul_one, up_eq, up_ne, Int.add_assoc, Int.add_sub_cancel, Int.sub_zero, Int.sub_self, S_228_0, S_228_1, S_228_2, S_228_3, S_228_6, S_228_7, S_228_8, S_228_10, S_228_11, S_228_15, S_228_16, S_228_19, S_228_21, S_228_22, S_228_23, S_228_24, S_228_25, S_228_26, S_228_27, S_228_29, S_228_30, S_228_31, S_228_34, S_228_35, S_228_36, S_228_37, S_228_38, S_228_40, S_228_41, S_228_42, S_228_43, S_228_44, S_228_47, S_228_48, S_228_51, S_228_52, S_228_54, S_228_57, S_228_60, S_228_62, H_122, m_offerOf, hA1]))
      refine m_worthOf hA1 (curM_fr hf rfl (by rw [hf.g 123 rfl]) hc) hl wt (W.2.2.2.1 _ hb.1 hb.2) (by omega) ?_
      intro s2 f2
      have hs : oWorth A l b o (i + 1) = oWorth A l b o i + vWorth A l b (A (180 + (13 * o + (3 + 3 * i)))) (A (180 + (13 * o + (3 + (3 * i + 1))))) (A (180 + (13 * o + 2))) := sm_s h0
      have kk := kk s2 ⟨by omega, hf.tr f2⟩
      rw [hs] at kk
      repeat' (first | (with_reducible refine Br_i ?_ ?_ <;> (intro hbr; first | exact False.elim hbr | skip)) | (with_reducible refine Wl_i ?_) | (simp (disch := first | omega | exact okF _ | exact okI _ | exact okR _ | assumption | exact okN) only [u_at, iI_zero, iI_31, iI_add, iI_sub, iI_mul, iI_neg, ↓iI_max, ↓iI_min, iI_div, emod_f, iI_lt, iI_le, iI_inj, iI_toInt, ↓ii01, ↓ii11, ↓bI_b, bI_0, bI_1, Kt_s, Kt_n, cat0, cat1, cat2, cat3, cat4, rfV, Nat.reduceAdd, Nat.reduceMul, Nat.reduceEqDiff, Int.reduceAdd, Int.reduceSub, Int.reduceMul, Int.reduceNeg, Int.reduceLT, Int.reduceLE, Int.reduceEq, Int.reduceDiv, ↓reduceIte, ↓ite_ww, ↓ite_wi, Br_n, Br_TW, Br_FW, Br_FP, Br_FB, nn_p, and_true, true_and, and_self, true_or, or_true, not_true_eq_false, not_false_eq_true, le_T, le_F, lt_T, lt_F, eq_T, eq_F, Int.add_zero, Int.zero_add, Int.one_mul, Int.mul_one, up_eq, up_ne, Int.add_assoc, Int.add_sub_cancel, Int.sub_zero, Int.sub_self, S_228_0, S_228_1, S_228_2, S_228_3, S_228_6, S_228_7, S_228_8, S_228_10, S_228_11, S_228_15, S_228_16, S_228_19, S_228_21, S_228_22, S_228_23, S_228_24, S_228_25, S_228_26, S_228_27, S_228_29, S_228_30, S_228_31, S_228_34, S_228_35, S_228_36, S_228_37, S_228_38, S_228_40, S_228_41, S_228_42, S_228_43, S_228_44, S_228_47, S_228_48, S_228_51, S_228_52, S_228_54, S_228_57, S_228_60, S_228_62]))
      exact kk
    · intro s1 ⟨h0, hf⟩
      repeat' (first | (with_reducible refine Br_i ?_ ?_ <;> (intro hbr; first | exact False.elim hbr | skip)) | (with_reducible refine Wl_i ?_) | (simp (disch := first | omega | exact okF _ | exact okI _ | exact okR _ | assumption | exact okN) only [u_at, iI_zero, iI_31, iI_add, iI_sub, iI_mul, iI_neg, ↓iI_max, ↓iI_min, iI_div, emod_f, iI_lt, iI_le, iI_inj, iI_toInt, ↓ii01, ↓ii11, ↓bI_b, bI_0, bI_1, Kt_s, Kt_n, cat0, cat1, cat2, cat3, cat4, rfV, Nat.reduceAdd, Nat.reduceMul, Nat.reduceEqDiff, Int.reduceAdd, Int.reduceSub, Int.reduceMul, Int.reduceNeg, Int.reduceLT, Int.reduceLE, Int.reduceEq, Int.reduceDiv, ↓reduceIte, ↓ite_ww, ↓ite_wi, Br_n, Br_TW, Br_FW, Br_FP, Br_FB, nn_p, and_true, true_and, and_self, true_or, or_true, not_true_eq_false, not_false_eq_true, le_T, le_F, lt_T, lt_F, eq_T, eq_F, Int.add_zero, Int.zero_add, Int.one_mul, Int.mul_one, up_eq, up_ne, Int.add_assoc, Int.add_sub_cancel, Int.sub_zero, Int.sub_self, S_228_0, S_228_1, S_228_2, S_228_3, S_228_6, S_228_7, S_228_8, S_228_10, S_228_11, S_228_13, S_228_15, S_228_16, S_228_19, S_228_21, S_228_22, S_228_23, S_228_24, S_228_25, S_228_26, S_228_27, S_228_29, S_228_30, S_228_31, S_228_34, S_228_35, S_228_36, S_228_37, S_228_38, S_228_40, S_228_41, S_228_42, S_228_43, S_228_44, S_228_47, S_228_48, S_228_51, S_228_52, S_228_54, S_228_57, S_228_60, S_228_62]))
      exact k s1 hf
  have l0 := loop 0 s (by omega) ⟨by omega, Fr.rf s⟩
  have e0 : oWorth A l b o 0 = 0 := sm_0 _
  rw [e0] at l0
  repeat' (first | (with_reducible refine Br_i ?_ ?_ <;> (intro hbr; first | exact False.elim hbr | skip)) | (with_reducible refine Wl_i ?_) | (simp (disch := first | omega | exact okF _ | exact okI _ | exact okR _ | assumption | exact okN) only [u_at, iI_zero, iI_31, iI_add, iI_sub, iI_mul, iI_neg, ↓iI_max, ↓iI_min, iI_div, emod_f, iI_lt, iI_le, iI_inj, iI_toInt, ↓ii01, ↓ii11, ↓bI_b, bI_0, bI_1, Kt_s, Kt_n, cat0, cat1, cat2, cat3, cat4, rfV, Nat.reduceAdd, Nat.reduceMul, Nat.reduceEqDiff, Int.reduceAdd, Int.reduceSub, Int.reduceMul, Int.reduceNeg, Int.reduceLT, Int.reduceLE, Int.reduceEq, Int.reduceDiv, ↓reduceIte, ↓ite_ww, ↓ite_wi, Br_n, Br_TW, Br_FW, Br_FP, Br_FB, nn_p, and_true, true_and, and_self, true_or, or_true, not_true_eq_false, not_false_eq_true, le_T, le_F, lt_T, lt_F, eq_T, eq_F, Int.add_zero, Int.zero_add, Int.one_mul, Int.mul_one, up_eq, up_ne, Int.add_assoc, Int.add_sub_cancel, Int.sub_zero, Int.sub_self, S_228_0, S_228_1, S_228_2, S_228_3, S_228_6, S_228_7, S_228_8, S_228_10, S_228_11, S_228_15, S_228_16, S_228_19, S_228_21, S_228_22, S_228_23, S_228_24, S_228_25, S_228_26, S_228_27, S_228_29, S_228_30, S_228_31, S_228_34, S_228_35, S_228_36, S_228_37, S_228_38, S_228_40, S_228_41, S_228_42, S_228_43, S_228_44, S_228_47, S_228_48, S_228_51, S_228_52, S_228_54, S_228_57, S_228_60, S_228_62, H_122, m_offerOf, hA]))
  exact l0
theorem m_laysOffer (hA : s 123 = A) (hc : curM s l) (hl : lawOK l) (W : WF0 A) (hO : WO A o) (ho : 0 ≤ o ∧ o < 22) (k : ∀ s', Fr [139, 140, 141, 142, 143, 144, 145, 146] s s' → MO A l o s' → (∀ p, 0 ≤ p → ¬ p = o → sameM s s' p) → Q none (hp X s')) : Wp (d + 6) 227 0 [.ref 122, .int (iI o), .float 0, .float 0, .float 0, .float 0, .float 0, .float 0] [] (hp X s) Q := by
  have w2 := W.1.2.2.1
  have w0 := W.1.1
  have w1 := W.1.2.1
  have wO0 := hO.1
  have wO1 := hO.2.1
  have w3 := hO.2.2.1
  have tl : ∀ s0, Fr [139, 140, 141, 142, 143, 144, 145, 146] s s0 → s0 146 = s 146 → (s0 141 = up (s 141) o (oHours A l o (oNum A o)) ∧ s0 142 = up (s 142) o (oPrice A l o (oNum A o)) ∧ s0 143 = up (s 143) o (oCost A l o (oNum A o)) ∧ s0 144 = up (s 144) o (oLoad A o (oNum A o)) ∧ s0 145 = up (s 145) o (bZ (oLaw A l o (oNum A o)))) → ∀ v4 v5 v6 v7, Wp (d + 6) 227 229 [.ref 122, .int (iI o), .int (iI (A (180 + (13 * o + 2)))), .int (iI 0), v4, v5, v6, v7] [] (hp X s0) Q := by
    intro s0 hf0 e146 hh v4 v5 v6 v7
    have loop : ∀ i s1, i ≤ A 2 → (0 ≤ i ∧ Fr [139, 140, 146] s0 s1 ∧ (∀ b, 0 ≤ b → b < i → s1 146 (10 * o + b) = oWorth A l b o (oNum A o)) ∧ ∀ p b, 0 ≤ p → ¬ p = o → 0 ≤ b → b < 10 → s1 146 (10 * p + b) = s 146 (10 * p + b)) → Wp (d + 6) 227 229 [.ref 122, .int (iI o), .int (iI (A (180 + (13 * o + 2)))), .int (iI i), v4, v5, v6, v7] [] (hp X s1) Q := by
      refine lp ?_ ?_
      · intro i s1 hi ⟨h0, hf, h1, h2⟩ kk
        have hfs := hf0.to hf rfl
        have hA1 : s1 123 = A := (hfs.g 123 rfl).trans hA
        rw [S_227_229]
        repeat' (first | (with_reducible refine Br_i ?_ ?_ <;> (intro hbr; first | exact False.elim hbr | skip)) | (with_reducible refine Wl_i ?_) | (simp (disch := first | omega | exact okF _ | exact okI _ | exact okR _ | assumption | exact okN) only [u_at, iI_zero, iI_31, iI_add, iI_sub, iI_mul, iI_neg, ↓iI_max, ↓iI_min, iI_div, emod_f, iI_lt, iI_le, iI_inj, iI_toInt, ↓ii01, ↓ii11, ↓bI_b, bI_0, bI_1, Kt_s, Kt_n, cat0, cat1, cat2, cat3, cat4, rfV, Nat.reduceAdd, Nat.reduceMul, Nat.reduceEqDiff, Int.reduceAdd, Int.reduceSub, Int.reduceMul, Int.reduceNeg, Int.reduceLT, Int.reduceLE, Int.reduceEq, Int.reduceDiv, ↓reduceIte, ↓ite_ww, ↓ite_wi, Br_n, Br_TW, Br_FW, Br_FP, Br_FB, nn_p, and_true, true_and, and_self, true_or, or_true, not_true_eq_false, not_false_eq_true, le_T, le_F, lt_T, lt_F, eq_T, eq_F, Int.add_zero, Int.zero_add, Int.one_mul, Int.mul_one, up_eq, up_ne, Int.add_assoc, Int.add_sub_cancel, Int.sub_zero, Int.sub_self, S_227_0, S_227_1, S_227_2, S_227_3, S_227_6, S_227_7, S_227_8, S_227_11, S_227_12, S_227_13, S_227_14, S_227_15, S_227_18, S_227_19, S_227_20, S_227_21, S_227_22, S_227_25, S_227_26, S_227_27, S_227_28, S_227_29, S_227_32, S_227_33, S_227_34, S_227_35, S_227_36, S_227_39, S_227_40, S_227_41, S_227_42, S_227_43, S_227_44, S_227_45, S_227_46, S_227_49, S_227_50, S_227_51, S_227_52, S_227_53, S_227_54, S_227_55, S_227_56, S_227_59, S_227_61, S_227_62, S_227_63, S_227_64, S_227_65, S_227_66, S_227_67, S_227_68, S_227_69, S_227_70, S_227_73, S_227_75, S_227_76, S_227_77, S_227_78, S_227_79, S_227_80, S_227_81, S_227_82, S_227_83, S_227_84, S_227_87, S_227_89, S_227_91, S_227_93, S_227_94, S_227_95, S_227_98, S_227_101, S_227_102, S_227_103, S_227_104, S_227_107, S_227_108, S_227_109, S_227_110, S_227_112, S_227_113, S_227_115, S_227_116, S_227_119, S_227_120, S_227_121, S_227_122, S_227_123, S_227_125, S_227_127, S_227_128, S_227_131, S_227_132, S_227_133, S_227_134, S_227_137, S_227_138, S_227_139, S_227_140, S_227_141, S_227_143, S_227_145, S_227_146, S_227_149, S_227_150, S_227_151, S_227_152, S_227_155, S_227_156, S_227_157, S_227_158, S_227_159, S_227_160, S_227_161, S_227_162, S_227_165, S_227_167, S_227_169, S_227_170, S_227_173, S_227_174, S_227_175, S_227_176, S_227_179, S_227_180, S_227_181, S_227_182, S_227_184, S_227_186, S_227_187, S_227_188, S_227_189, S_227_190, S_227_193, S_227_194, S_227_195, S_227_198, S_227_199, S_227_200, S_227_203, S_227_204, S_227_206, S_227_208, S_227_209, S_227_212, S_227_215, S_227_216, S_227_219, S_227_220, S_227_221, S_227_224, S_227_227, S_227_228, S_227_230, S_227_231, S_227_234, S_227_235, S_227_236, S_227_239, S_227_240, S_227_243, S_227_245, S_227_246, S_227_247, S_227_248, S_227_249, S_227_250, S_227_251, S_227_252, S_227_255, S_227_256, S_227_259, S_227_262, H_122, H_123, hA1]))
        refine m_worthOfOffer hA1 (curM_fr hfs rfl (by rw [hfs.g 123 rfl]) hc) hl W hO ho (by omega) ?_
        intro s2 f2
        have e2 := f2.g 146 rfl
        repeat' (first | (with_reducible refine Br_i ?_ ?_ <;> (intro hbr; first | exact False.elim hbr | skip)) | (with_reducible refine Wl_i ?_) | (simp (disch := first | omega | exact okF _ | exact okI _ | exact okR _ | assumption | exact okN) only [u_at, iI_zero, iI_31, iI_add, iI_sub, iI_mul, iI_neg, ↓iI_max, ↓iI_min, iI_div, emod_f, iI_lt, iI_le, iI_inj, iI_toInt, ↓ii01, ↓ii11, ↓bI_b, bI_0, bI_1, Kt_s, Kt_n, cat0, cat1, cat2, cat3, cat4, rfV, Nat.reduceAdd, Nat.reduceMul, Nat.reduceEqDiff, Int.reduceAdd, Int.reduceSub, Int.reduceMul, Int.reduceNeg, Int.reduceLT, Int.reduceLE, Int.reduceEq, Int.reduceDiv, ↓reduceIte, ↓ite_ww, ↓ite_wi, Br_n, Br_TW, Br_FW, Br_FP, Br_FB, nn_p, and_true, true_and, and_self, true_or, or_true, not_true_eq_false, not_false_eq_true, le_T, le_F, lt_T, lt_F, eq_T, eq_F, Int.add_zero, Int.zero_add, Int.one_mul, Int.mul_one, up_eq, up_ne, Int.add_assoc, Int.add_sub_cancel, Int.sub_zero, Int.sub_self, S_227_0, S_227_1, S_227_2, S_227_3, S_227_6, S_227_7, S_227_8, S_227_11, S_227_12, S_227_13, S_227_14, S_227_15, S_227_18, S_227_19, S_227_20, S_227_21, S_227_22, S_227_25, S_227_26, S_227_27, S_227_28, S_227_29, S_227_32, S_227_33, S_227_34, S_227_35, S_227_36, S_227_39, S_227_40, S_227_41, S_227_42, S_227_43, S_227_44, S_227_45, S_227_46, S_227_49, S_227_50, S_227_51, S_227_52, S_227_53, S_227_54, S_227_55, S_227_56, S_227_59, S_227_61, S_227_62, S_227_63, S_227_64, S_227_65, S_227_66, S_227_67, S_227_68, S_227_69, S_227_70, S_227_73, S_227_75, S_227_76, S_227_77, S_227_78, S_227_79, S_227_80, S_227_81, S_227_82, S_227_83, S_227_84, S_227_87, S_227_89, S_227_91, S_227_93, S_227_94, S_227_95, S_227_98, S_227_101, S_227_102, S_227_103, S_227_104, S_227_107, S_227_108, S_227_109, S_227_110, S_227_112, S_227_113, S_227_115, S_227_116, S_227_119, S_227_120, S_227_121, S_227_122, S_227_123, S_227_125, S_227_127, S_227_128, S_227_131, S_227_132, S_227_133, S_227_134, S_227_137, S_227_138, S_227_139, S_227_140, S_227_141, S_227_143, S_227_145, S_227_146, S_227_149, S_227_150, S_227_151, S_227_152, S_227_155, S_227_156, S_227_157, S_227_158, S_227_159, S_227_160, S_227_161, S_227_162, S_227_165, S_227_167, S_227_169, S_227_170, S_227_173, S_227_174, S_227_175, S_227_176, S_227_179, S_227_180, S_227_181, S_227_182, S_227_184, S_227_186, S_227_187, S_227_188, S_227_189, S_227_190, S_227_193, S_227_194, S_227_195, S_227_198, S_227_199, S_227_200, S_227_203, S_227_204, S_227_206, S_227_208, S_227_209, S_227_212, S_227_215, S_227_216, S_227_219, S_227_220, S_227_221, S_227_224, S_227_227, S_227_228, S_227_230, S_227_231, S_227_234, S_227_235, S_227_236, S_227_239, S_227_240, S_227_243, S_227_245, S_227_246, S_227_247, S_227_248, S_227_249, S_227_250, S_227_251, S_227_252, S_227_255, S_227_256, S_227_259, S_227_262, H_122, H_146]))
        refine kk _ ⟨by omega, (hf.tr (f2.up rfl)).u rfl, ?_, ?_⟩
        · intro b b0 b1
          rw [u_eq, up_at]
          by_cases e : b = i
          · rw [if_pos (by omega), e]
          · rw [if_neg (by omega), e2]
            exact h1 b b0 (by omega)
        · intro p b p0 p1 b0 b1
          rw [u_eq, up_ne (by omega), e2]
          exact h2 p b p0 p1 b0 b1
      · intro s1 ⟨h0, hf, h1, h2⟩
        have hfs := hf0.to hf rfl
        have hA1 : s1 123 = A := (hfs.g 123 rfl).trans hA
        obtain ⟨q1, q2, q3, q4, q5⟩ := hh
        have g1 := (hf.g 141 rfl).trans q1
        have g2 := (hf.g 142 rfl).trans q2
        have g3 := (hf.g 143 rfl).trans q3
        have g4 := (hf.g 144 rfl).trans q4
        have g5 := (hf.g 145 rfl).trans q5
        repeat' (first | (with_reducible refine Br_i ?_ ?_ <;> (intro hbr; first | exact False.elim hbr | skip)) | (with_reducible refine Wl_i ?_) | (simp (disch := first | omega | exact okF _ | exact okI _ | exact okR _ | assumption | exact okN) only [u_at, iI_zero, iI_31, iI_add, iI_sub, iI_mul, iI_neg, ↓iI_max, ↓iI_min, iI_div, emod_f, iI_lt, iI_le, iI_inj, iI_toInt, ↓ii01, ↓ii11, ↓bI_b, bI_0, bI_1, Kt_s, Kt_n, cat0, cat1, cat2, cat3, cat4, rfV, Nat.reduceAdd, Nat.reduceMul, Nat.reduceEqDiff, Int.reduceAdd, Int.reduceSub, Int.reduceMul, Int.reduceNeg, Int.reduceLT, Int.reduceLE, Int.reduceEq, Int.reduceDiv, ↓reduceIte, ↓ite_ww, ↓ite_wi, Br_n, Br_TW, Br_FW, Br_FP, Br_FB, nn_p, and_true, true_and, and_self, true_or, or_true, not_true_eq_false, not_false_eq_true, le_T, le_F, lt_T, lt_F, eq_T, eq_F, Int.add_zero, Int.zero_add, Int.one_mul, Int.mul_one, up_eq, up_ne, Int.add_assoc, Int.add_sub_cancel, Int.sub_zero, Int.sub_self, S_227_0, S_227_1, S_227_2, S_227_3, S_227_6, S_227_7, S_227_8, S_227_11, S_227_12, S_227_13, S_227_14, S_227_15, S_227_18, S_227_19, S_227_20, S_227_21, S_227_22, S_227_25, S_227_26, S_227_27, S_227_28, S_227_29, S_227_32, S_227_33, S_227_34, S_227_35, S_227_36, S_227_39, S_227_40, S_227_41, S_227_42, S_227_43, S_227_44, S_227_45, S_227_46, S_227_49, S_227_50, S_227_51, S_227_52, S_227_53, S_227_54, S_227_55, S_227_56, S_227_59, S_227_61, S_227_62, S_227_63, S_227_64, S_227_65, S_227_66, S_227_67, S_227_68, S_227_69, S_227_70, S_227_73, S_227_75, S_227_76, S_227_77, S_227_78, S_227_79, S_227_80, S_227_81, S_227_82, S_227_83, S_227_84, S_227_87, S_227_89, S_227_91, S_227_93, S_227_94, S_227_95, S_227_98, S_227_101, S_227_102, S_227_103, S_227_104, S_227_107, S_227_108, S_227_109, S_227_110, S_227_112, S_227_113, S_227_115, S_227_116, S_227_119, S_227_120, S_227_121, S_227_122, S_227_123, S_227_125, S_227_127, S_227_128, S_227_131, S_227_132, S_227_133, S_227_134, S_227_137, S_227_138, S_227_139, S_227_140, S_227_141, S_227_143, S_227_145, S_227_146, S_227_149, S_227_150, S_227_151, S_227_152, S_227_155, S_227_156, S_227_157, S_227_158, S_227_159, S_227_160, S_227_161, S_227_162, S_227_165, S_227_167, S_227_169, S_227_170, S_227_173, S_227_174, S_227_175, S_227_176, S_227_179, S_227_180, S_227_181, S_227_182, S_227_184, S_227_186, S_227_187, S_227_188, S_227_189, S_227_190, S_227_193, S_227_194, S_227_195, S_227_198, S_227_199, S_227_200, S_227_203, S_227_204, S_227_206, S_227_208, S_227_209, S_227_212, S_227_215, S_227_216, S_227_219, S_227_220, S_227_221, S_227_224, S_227_227, S_227_228, S_227_229, S_227_230, S_227_231, S_227_234, S_227_235, S_227_236, S_227_239, S_227_240, S_227_243, S_227_245, S_227_246, S_227_247, S_227_248, S_227_249, S_227_250, S_227_251, S_227_252, S_227_255, S_227_256, S_227_259, S_227_262, H_122, H_123, hA1]))
        refine k s1 hfs ?_ ?_
        · unfold MO
          rw [g1, g2, g3, g4, g5, up_eq rfl, up_eq rfl, up_eq rfl, up_eq rfl, up_eq rfl]
          exact ⟨rfl, rfl, rfl, rfl, rfl, h1⟩
        · intro p p0 p1
          unfold sameM
          rw [g1, g2, g3, g4, g5, up_ne p1, up_ne p1, up_ne p1, up_ne p1, up_ne p1]
          exact ⟨rfl, rfl, rfl, rfl, rfl, fun b b0 b1 => h2 p b p0 p1 b0 b1⟩
    exact loop 0 s0 (by omega) ⟨by omega, Fr.rf s0, fun b b0 b1 => by omega, fun p b _ _ _ _ => by rw [e146]⟩
  have loop : ∀ i s1, i ≤ A (180 + (13 * o + 2)) → (0 ≤ i ∧ Fr [139, 140, 141, 142, 143, 144, 145] s s1 ∧ s1 141 = up (s 141) o (oHours A l o i) ∧ s1 142 = up (s 142) o (oPrice A l o i) ∧ s1 143 = up (s 143) o (oCost A l o i) ∧ s1 144 = up (s 144) o (oLoad A o i) ∧ s1 145 = up (s 145) o (bZ (oLaw A l o i))) → ∀ v4 v5 v6 v7, okO v4 = true → okO v5 = true → okO v6 = true → okO v7 = true → Wp (d + 6) 227 44 [.ref 122, .int (iI o), .int (iI (A (180 + (13 * o + 2)))), .int (iI i), v4, v5, v6, v7] [] (hp X s1) Q := by
    refine lp ?_ ?_
    · intro i s1 hi ⟨h0, hf, g1, g2, g3, g4, g5⟩ kk v4 v5 v6 v7 o4 o5 o6 o7
      have hA1 : s1 123 = A := (hf.g 123 rfl).trans hA
      have wi := hO.2.2.2 i h0 hi
      have wt := W.2.1 _ wi.1.1 wi.1.2
      have wi1 := wi.1
      have wi2 := wi.2
      have wg := wghd_r W hO ⟨h0, hi⟩
      have hcs := curM_fr hf rfl (by rw [hf.g 123 rfl]) hc
      have r1 := (oHours_r (l := l) hO (j := i) (by omega)).1
      have r2 := oPrice_r (l := l) W hO (j := i) (by omega)
      have r3 := oCost_r (l := l) W hO (j := i) (by omega)
      have r4 := oLoad_r hO (j := i) (by omega)
      have wdef : (A (180 + (13 * o + (3 + (3 * i + 1)))) + A (180 + (13 * o + (3 + (3 * i + 2))))) * A (170 + A (180 + (13 * o + 1))) / 100 = wghd A o i := rfl
      rw [S_227_44]
      repeat' (first | (with_reducible refine Br_i ?_ ?_ <;> (intro hbr; first | exact False.elim hbr | skip)) | (with_reducible refine Wl_i ?_) | (simp (disch := first | omega | exact okF _ | exact okI _ | exact okR _ | assumption | exact okN) only [u_at, iI_zero, iI_31, iI_add, iI_sub, iI_mul, iI_neg, ↓iI_max, ↓iI_min, iI_div, emod_f, iI_lt, iI_le, iI_inj, iI_toInt, ↓ii01, ↓ii11, ↓bI_b, bI_0, bI_1, Kt_s, Kt_n, cat0, cat1, cat2, cat3, cat4, rfV, Nat.reduceAdd, Nat.reduceMul, Nat.reduceEqDiff, Int.reduceAdd, Int.reduceSub, Int.reduceMul, Int.reduceNeg, Int.reduceLT, Int.reduceLE, Int.reduceEq, Int.reduceDiv, ↓reduceIte, ↓ite_ww, ↓ite_wi, Br_n, Br_TW, Br_FW, Br_FP, Br_FB, nn_p, and_true, true_and, and_self, true_or, or_true, not_true_eq_false, not_false_eq_true, le_T, le_F, lt_T, lt_F, eq_T, eq_F, Int.add_zero, Int.zero_add, Int.one_mul, Int.mul_one, up_eq, up_ne, Int.add_assoc, Int.add_sub_cancel, Int.sub_zero, Int.sub_self, S_227_0, S_227_1, S_227_2, S_227_3, S_227_6, S_227_7, S_227_8, S_227_11, S_227_12, S_227_13, S_227_14, S_227_15, S_227_18, S_227_19, S_227_20, S_227_21, S_227_22, S_227_25, S_227_26, S_227_27, S_227_28, S_227_29, S_227_32, S_227_33, S_227_34, S_227_35, S_227_36, S_227_39, S_227_40, S_227_41, S_227_42, S_227_43, S_227_45, S_227_46, S_227_49, S_227_50, S_227_51, S_227_52, S_227_53, S_227_54, S_227_55, S_227_56, S_227_59, S_227_61, S_227_62, S_227_63, S_227_64, S_227_65, S_227_66, S_227_67, S_227_68, S_227_69, S_227_70, S_227_73, S_227_75, S_227_76, S_227_77, S_227_78, S_227_79, S_227_80, S_227_81, S_227_82, S_227_83, S_227_84, S_227_87, S_227_89, S_227_91, S_227_93, S_227_94, S_227_95, S_227_98, S_227_101, S_227_102, S_227_103, S_227_104, S_227_107, S_227_108, S_227_109, S_227_110, S_227_112, S_227_113, S_227_115, S_227_116, S_227_119, S_227_120, S_227_121, S_227_122, S_227_123, S_227_125, S_227_127, S_227_128, S_227_131, S_227_132, S_227_133, S_227_134, S_227_137, S_227_138, S_227_139, S_227_140, S_227_141, S_227_143, S_227_145, S_227_146, S_227_149, S_227_150, S_227_151, S_227_152, S_227_155, S_227_156, S_227_157, S_227_158, S_227_159, S_227_160, S_227_161, S_227_162, S_227_165, S_227_167, S_227_169, S_227_170, S_227_173, S_227_174, S_227_175, S_227_176, S_227_179, S_227_180, S_227_181, S_227_182, S_227_184, S_227_186, S_227_187, S_227_188, S_227_189, S_227_190, S_227_193, S_227_194, S_227_195, S_227_198, S_227_199, S_227_200, S_227_203, S_227_204, S_227_206, S_227_208, S_227_209, S_227_212, S_227_215, S_227_216, S_227_219, S_227_220, S_227_221, S_227_224, S_227_227, S_227_228, S_227_229, S_227_230, S_227_231, S_227_234, S_227_235, S_227_236, S_227_239, S_227_240, S_227_243, S_227_245, S_227_246, S_227_247, S_227_248, S_227_249, S_227_250, S_227_251, S_227_252, S_227_255, S_227_256, S_227_259, S_227_262, H_122, H_123, H_141, m_offerOf, hA1, wdef]))
      refine m_hoursOf hA1 hcs hl wt (by omega) ?_
      intro s2 f2
      have hA2 : s2 123 = A := (f2.g 123 rfl).trans hA1
      have b2 := vHours_r (A := A) (l := l) (t := A (180 + (13 * o + (3 + 3 * i)))) (w := A (180 + (13 * o + (3 + (3 * i + 1))))) (n := A (180 + (13 * o + 2))) (by omega)
      have e1 := (f2.g 141 rfl).trans g1
      repeat' (first | (with_reducible refine Br_i ?_ ?_ <;> (intro hbr; first | exact False.elim hbr | skip)) | (with_reducible refine Wl_i ?_) | (simp (disch := first | omega | exact okF _ | exact okI _ | exact okR _ | assumption | exact okN) only [u_at, iI_zero, iI_31, iI_add, iI_sub, iI_mul, iI_neg, ↓iI_max, ↓iI_min, iI_div, emod_f, iI_lt, iI_le, iI_inj, iI_toInt, ↓ii01, ↓ii11, ↓bI_b, bI_0, bI_1, Kt_s, Kt_n, cat0, cat1, cat2, cat3, cat4, rfV, Nat.reduceAdd, Nat.reduceMul, Nat.reduceEqDiff, Int.reduceAdd, Int.reduceSub, Int.reduceMul, Int.reduceNeg, Int.reduceLT, Int.reduceLE, Int.reduceEq, Int.reduceDiv, ↓reduceIte, ↓ite_ww, ↓ite_wi, Br_n, Br_TW, Br_FW, Br_FP, Br_FB, nn_p, and_true, true_and, and_self, true_or, or_true, not_true_eq_false, not_false_eq_true, le_T, le_F, lt_T, lt_F, eq_T, eq_F, Int.add_zero, Int.zero_add, Int.one_mul, Int.mul_one, up_eq, up_ne, Int.add_assoc, Int.add_sub_cancel, Int.sub_zero, Int.sub_self, S_227_0, S_227_1, S_227_2, S_227_3, S_227_6, S_227_7, S_227_8, S_227_11, S_227_12, S_227_13, S_227_14, S_227_15, S_227_18, S_227_19, S_227_20, S_227_21, S_227_22, S_227_25, S_227_26, S_227_27, S_227_28, S_227_29, S_227_32, S_227_33, S_227_34, S_227_35, S_227_36, S_227_39, S_227_40, S_227_41, S_227_42, S_227_43, S_227_45, S_227_46, S_227_49, S_227_50, S_227_51, S_227_52, S_227_53, S_227_54, S_227_55, S_227_56, S_227_59, S_227_61, S_227_62, S_227_63, S_227_64, S_227_65, S_227_66, S_227_67, S_227_68, S_227_69, S_227_70, S_227_73, S_227_75, S_227_76, S_227_77, S_227_78, S_227_79, S_227_80, S_227_81, S_227_82, S_227_83, S_227_84, S_227_87, S_227_89, S_227_91, S_227_93, S_227_94, S_227_95, S_227_98, S_227_101, S_227_102, S_227_103, S_227_104, S_227_107, S_227_108, S_227_109, S_227_110, S_227_112, S_227_113, S_227_115, S_227_116, S_227_119, S_227_120, S_227_121, S_227_122, S_227_123, S_227_125, S_227_127, S_227_128, S_227_131, S_227_132, S_227_133, S_227_134, S_227_137, S_227_138, S_227_139, S_227_140, S_227_141, S_227_143, S_227_145, S_227_146, S_227_149, S_227_150, S_227_151, S_227_152, S_227_155, S_227_156, S_227_157, S_227_158, S_227_159, S_227_160, S_227_161, S_227_162, S_227_165, S_227_167, S_227_169, S_227_170, S_227_173, S_227_174, S_227_175, S_227_176, S_227_179, S_227_180, S_227_181, S_227_182, S_227_184, S_227_186, S_227_187, S_227_188, S_227_189, S_227_190, S_227_193, S_227_194, S_227_195, S_227_198, S_227_199, S_227_200, S_227_203, S_227_204, S_227_206, S_227_208, S_227_209, S_227_212, S_227_215, S_227_216, S_227_219, S_227_220, S_227_221, S_227_224, S_227_227, S_227_228, S_227_229, S_227_230, S_227_231, S_227_234, S_227_235, S_227_236, S_227_239, S_227_240, S_227_243, S_227_245, S_227_246, S_227_247, S_227_248, S_227_249, S_227_250, S_227_251, S_227_252, S_227_255, S_227_256, S_227_259, S_227_262, H_122, H_123, H_141, H_142, m_offerOf, hA2, e1, g1]))
      refine m_priceOf (s := u s2 141 _) hA2 (curM_fr ((f2.up (L2 := [139, 140, 141]) rfl).u (K := 141) rfl) rfl (by show s2 123 5 = s1 123 5; rw [hA2, hA1]) hcs) hl wt (by omega) ?_
      intro s3 f3
      sorry
    · intro s1 ⟨h0, hf, g1, g2, g3, g4, g5⟩ v4 v5 v6 v7 o4 o5 o6 o7
      repeat' (first | (with_reducible refine Br_i ?_ ?_ <;> (intro hbr; first | exact False.elim hbr | skip)) | (with_reducible refine Wl_i ?_) | (simp (disch := first | omega | exact okF _ | exact okI _ | exact okR _ | assumption | exact okN) only [u_at, iI_zero, iI_31, iI_add, iI_sub, iI_mul, iI_neg, ↓iI_max, ↓iI_min, iI_div, emod_f, iI_lt, iI_le, iI_inj, iI_toInt, ↓ii01, ↓ii11, ↓bI_b, bI_0, bI_1, Kt_s, Kt_n, cat0, cat1, cat2, cat3, cat4, rfV, Nat.reduceAdd, Nat.reduceMul, Nat.reduceEqDiff, Int.reduceAdd, Int.reduceSub, Int.reduceMul, Int.reduceNeg, Int.reduceLT, Int.reduceLE, Int.reduceEq, Int.reduceDiv, ↓reduceIte, ↓ite_ww, ↓ite_wi, Br_n, Br_TW, Br_FW, Br_FP, Br_FB, nn_p, and_true, true_and, and_self, true_or, or_true, not_true_eq_false, not_false_eq_true, le_T, le_F, lt_T, lt_F, eq_T, eq_F, Int.add_zero, Int.zero_add, Int.one_mul, Int.mul_one, up_eq, up_ne, Int.add_assoc, Int.add_sub_cancel, Int.sub_zero, Int.sub_self, S_227_0, S_227_1, S_227_2, S_227_3, S_227_6, S_227_7, S_227_8, S_227_11, S_227_12, S_227_13, S_227_14, S_227_15, S_227_18, S_227_19, S_227_20, S_227_21, S_227_22, S_227_25, S_227_26, S_227_27, S_227_28, S_227_29, S_227_32, S_227_33, S_227_34, S_227_35, S_227_36, S_227_39, S_227_40, S_227_41, S_227_42, S_227_43, S_227_44, S_227_45, S_227_46, S_227_49, S_227_50, S_227_51, S_227_52, S_227_53, S_227_54, S_227_55, S_227_56, S_227_59, S_227_61, S_227_62, S_227_63, S_227_64, S_227_65, S_227_66, S_227_67, S_227_68, S_227_69, S_227_70, S_227_73, S_227_75, S_227_76, S_227_77, S_227_78, S_227_79, S_227_80, S_227_81, S_227_82, S_227_83, S_227_84, S_227_87, S_227_89, S_227_91, S_227_93, S_227_94, S_227_95, S_227_98, S_227_101, S_227_102, S_227_103, S_227_104, S_227_107, S_227_108, S_227_109, S_227_110, S_227_112, S_227_113, S_227_115, S_227_116, S_227_119, S_227_120, S_227_121, S_227_122, S_227_123, S_227_125, S_227_127, S_227_128, S_227_131, S_227_132, S_227_133, S_227_134, S_227_137, S_227_138, S_227_139, S_227_140, S_227_141, S_227_143, S_227_145, S_227_146, S_227_149, S_227_150, S_227_151, S_227_152, S_227_155, S_227_156, S_227_157, S_227_158, S_227_159, S_227_160, S_227_161, S_227_162, S_227_165, S_227_167, S_227_169, S_227_170, S_227_173, S_227_174, S_227_175, S_227_176, S_227_179, S_227_180, S_227_181, S_227_182, S_227_184, S_227_186, S_227_187, S_227_188, S_227_189, S_227_190, S_227_193, S_227_194, S_227_195, S_227_198, S_227_199, S_227_200, S_227_203, S_227_204, S_227_206, S_227_208, S_227_209, S_227_212, S_227_215, S_227_216, S_227_219, S_227_220, S_227_221, S_227_224, S_227_227, S_227_228, S_227_230, S_227_231, S_227_234, S_227_235, S_227_236, S_227_239, S_227_240, S_227_243, S_227_245, S_227_246, S_227_247, S_227_248, S_227_249, S_227_250, S_227_251, S_227_252, S_227_255, S_227_256, S_227_259, S_227_262]))
      exact tl s1 (hf.up rfl) (hf.g 146 rfl) ⟨g1, g2, g3, g4, g5⟩ v4 v5 v6 v7
  have l0 := loop 0 (u (u (u (u (u s 141 (up (s 141) o 0)) 142 (up (s 142) o 0)) 143 (up (s 143) o 0)) 144 (up (s 144) o 0)) 145 (up (s 145) o 1)) (by omega) ⟨by omega, (by repeat (first | exact Fr.rf _ | refine Fr.u ?_ rfl)), by rw [show oHours A l o 0 = 0 from sm_0 _]; rfl, by rw [show oPrice A l o 0 = 0 from sm_0 _]; rfl, by rw [show oCost A l o 0 = 0 from sm_0 _]; rfl, by rw [show oLoad A o 0 = 0 from sm_0 _]; rfl, by rw [bZ_T oLaw_0]; rfl⟩ (.float 0) (.float 0) (.float 0) (.float 0) rfl rfl rfl rfl
  repeat' (first | (with_reducible refine Br_i ?_ ?_ <;> (intro hbr; first | exact False.elim hbr | skip)) | (with_reducible refine Wl_i ?_) | (simp (disch := first | omega | exact okF _ | exact okI _ | exact okR _ | assumption | exact okN) only [u_at, iI_zero, iI_31, iI_add, iI_sub, iI_mul, iI_neg, ↓iI_max, ↓iI_min, iI_div, emod_f, iI_lt, iI_le, iI_inj, iI_toInt, ↓ii01, ↓ii11, ↓bI_b, bI_0, bI_1, Kt_s, Kt_n, cat0, cat1, cat2, cat3, cat4, rfV, Nat.reduceAdd, Nat.reduceMul, Nat.reduceEqDiff, Int.reduceAdd, Int.reduceSub, Int.reduceMul, Int.reduceNeg, Int.reduceLT, Int.reduceLE, Int.reduceEq, Int.reduceDiv, ↓reduceIte, ↓ite_ww, ↓ite_wi, Br_n, Br_TW, Br_FW, Br_FP, Br_FB, nn_p, and_true, true_and, and_self, true_or, or_true, not_true_eq_false, not_false_eq_true, le_T, le_F, lt_T, lt_F, eq_T, eq_F, Int.add_zero, Int.zero_add, Int.one_mul, Int.mul_one, up_eq, up_ne, Int.add_assoc, Int.add_sub_cancel, Int.sub_zero, Int.sub_self, S_227_0, S_227_1, S_227_2, S_227_3, S_227_6, S_227_7, S_227_8, S_227_11, S_227_12, S_227_13, S_227_14, S_227_15, S_227_18, S_227_19, S_227_20, S_227_21, S_227_22, S_227_25, S_227_26, S_227_27, S_227_28, S_227_29, S_227_32, S_227_33, S_227_34, S_227_35, S_227_36, S_227_39, S_227_40, S_227_41, S_227_42, S_227_43, S_227_45, S_227_46, S_227_49, S_227_50, S_227_51, S_227_52, S_227_53, S_227_54, S_227_55, S_227_56, S_227_59, S_227_61, S_227_62, S_227_63, S_227_64, S_227_65, S_227_66, S_227_67, S_227_68, S_227_69, S_227_70, S_227_73, S_227_75, S_227_76, S_227_77, S_227_78, S_227_79, S_227_80, S_227_81, S_227_82, S_227_83, S_227_84, S_227_87, S_227_89, S_227_91, S_227_93, S_227_94, S_227_95, S_227_98, S_227_101, S_227_102, S_227_103, S_227_104, S_227_107, S_227_108, S_227_109, S_227_110, S_227_112, S_227_113, S_227_115, S_227_116, S_227_119, S_227_120, S_227_121, S_227_122, S_227_123, S_227_125, S_227_127, S_227_128, S_227_131, S_227_132, S_227_133, S_227_134, S_227_137, S_227_138, S_227_139, S_227_140, S_227_141, S_227_143, S_227_145, S_227_146, S_227_149, S_227_150, S_227_151, S_227_152, S_227_155, S_227_156, S_227_157, S_227_158, S_227_159, S_227_160, S_227_161, S_227_162, S_227_165, S_227_167, S_227_169, S_227_170, S_227_173, S_227_174, S_227_175, S_227_176, S_227_179, S_227_180, S_227_181, S_227_182, S_227_184, S_227_186, S_227_187, S_227_188, S_227_189, S_227_190, S_227_193, S_227_194, S_227_195, S_227_198, S_227_199, S_227_200, S_227_203, S_227_204, S_227_206, S_227_208, S_227_209, S_227_212, S_227_215, S_227_216, S_227_219, S_227_220, S_227_221, S_227_224, S_227_227, S_227_228, S_227_229, S_227_230, S_227_231, S_227_234, S_227_235, S_227_236, S_227_239, S_227_240, S_227_243, S_227_245, S_227_246, S_227_247, S_227_248, S_227_249, S_227_250, S_227_251, S_227_252, S_227_255, S_227_256, S_227_259, S_227_262, H_122, H_123, H_141, H_142, H_143, H_144, H_145, m_offerOf, hA]))
  exact l0
end ML
