/-! PARSING, the class -/
def FW (k : Nat) (L : List Nat) (s s2 : sg) : Prop := ∀ a, nin a L = true → ¬ a = k + 1 → ¬ a = 1000 * k + 4 → s2 a = s a
def lwr (s : sg) (k : Nat) (m c : Int) : sg := u (u s (k + 1) (up (s (k + 1)) m c)) (1000 * k + 4) (fun _ => m + 1)
/-- the reader stands at the token j -/
def RD (s : sg) (k : Nat) (B : Int → Int) (n T j : Int) : Prop := CUT s B n T ∧ s 16900 0 = (k : Int) ∧ s 16005 0 = j ∧ 0 ≤ j ∧ j ≤ T
/-- a method reads what sub says -/
def cOK (X : hX) (B : Int → Int) (n T : Int) (k : Nat) (w : Int) (y hgt : Nat) (ls : List Value) (sub : Int → prr) : Prop := ∀ (d : Nat) (s : sg) (Q : Option Value → aH → Prop) (j m : Int), RD s k B n T j → s 16006 0 = w → s (1000 * k + 4) 0 = m → (0 ≤ m ∧ m ≤ j) → ((sub j).1 = 0 → ∀ s', FW k [16005] s s' → s' 16005 0 = (sub j).2.1 → s' (1000 * k + 4) 0 = m + (sub j).2.2.length → seg (s' (k + 1)) m ((sub j).2.2.map enc) → (∀ z, z < m → s' (k + 1) z = s (k + 1) z) → Q (some (.int (iI 1))) (hp X s')) → (¬ (sub j).1 = 0 → ∀ s', FW k [16001, 16002, 16005] s s' → s' 16001 0 = (sub j).1 → s' 16002 0 = pla B n (sub j).2.1 → Q (some (.int (iI 0))) (hp X s')) → Wp (d + hgt) y 0 (.ref 16 :: ls) [] (hp X s) Q
section CP0
variable {s s1 s2 : sg} {k : Nat} {K : List Nat} {f : Int → Int} {c m : Int}
theorem FW.rf (s : sg) : FW k K s s := fun _ _ _ _ => rfl
theorem FW.tr (h1 : FW k K s s1) (h2 : FW k K s1 s2) : FW k K s s2 := fun a e1 e2 e3 => (h2 a e1 e2 e3).trans (h1 a e1 e2 e3)
theorem FW.up {K2 : List Nat} (h : FW k K s s1) (w : sub K K2 = true) : FW k K2 s s1 := fun a e1 e2 e3 => h a (nin_sub w a e1) e2 e3
theorem FW.u {y : Nat} (h : FW k K s s1) (w : nin y K = false) : FW k K s (u s1 y f) := by
  intro a e1 e2 e3
  rw [u_ne (fun q => by rw [q, w] at e1; cases e1)]
  exact h a e1 e2 e3
theorem FW.wr (h : FW k K s s1) : FW k K s (lwr s1 k m c) := by
  intro a e1 e2 e3
  unfold lwr
  rw [u_ne e3, u_ne e2]
  exact h a e1 e2 e3
theorem FW.at (hk : isLw k) (h : FW k K s s1) (a : Nat) (w : nin a K = true) (w2 : a < 12 ∨ (47 < a ∧ a < 11000) ∨ 43999 < a ∨ (11999 < a ∧ a < 18000)) : s1 a = s a := h a w (by unfold isLw at hk; omega) (by unfold isLw at hk; omega)
end CP0
section CP
variable {d : Nat} {X : hX} {s s1 s2 s3 : sg} {Q : Option Value → aH → Prop} {c j m n T w i z x v : Int} {B : Int → Int} {k h : Nat} {K : List Nat} {f g : Int → Int} {a b : List Int} {sub : Int → prr} {wb : Bool}
theorem RD_fr (hk : isLw k) (f : FW k [16001, 16002, 16005] s s1) (R : RD s k B n T j) (e : s1 16005 0 = x) (hx : 0 ≤ x ∧ x ≤ T) : RD s1 k B n T x := by
  obtain ⟨⟨c1, c2, c3, c4, c5⟩, h1, h2, h3⟩ := R
  refine ⟨⟨c1, c2, c3, ?_, fun j j0 j1 => ?_⟩, ?_, e, hx⟩
  · rw [f.at hk 6005 rfl (by omega)]; exact c4
  · rw [f.at hk 8 rfl (by omega), f.at hk 9 rfl (by omega), f.at hk 10 rfl (by omega)]
    exact c5 j j0 j1
  · rw [f.at hk 16900 rfl (by omega)]; exact h1
theorem lwr_at : lwr s k m c (k + 1) = up (s (k + 1)) m c := by
  unfold lwr
  rw [u_ne (by omega), u_eq]
theorem lwr_len : lwr s k m c (1000 * k + 4) 0 = m + 1 := by
  unfold lwr
  rw [u_eq]
theorem lwr_o (hk : isLw k) {a : Nat} (w : a < 12 ∨ (47 < a ∧ a < 11000) ∨ 43999 < a ∨ (11999 < a ∧ a < 18000)) : lwr s k m c a = s a := by
  unfold lwr isLw at *
  rw [u_ne (by omega), u_ne (by omega)]
theorem seg_snoc {p : Int} (h : seg f p a) (e : ∀ z, z < p + a.length → g z = f z) (e2 : g (p + a.length) = x) : seg g p (a ++ [x]) := seg_app.mpr ⟨seg_cg (fun z _ b => e z b) h, e2, trivial⟩
theorem seg_two {p : Int} (h : seg f p a) (e : ∀ z, z < p + a.length → g z = f z) (e2 : seg g (p + a.length) b) : seg g p (a ++ b) := seg_app.mpr ⟨seg_cg (fun z _ b => e z b) h, e2⟩
theorem c_kind (R : RD s k B n T j) : Wp d 41 0 [.ref 16] [] (hp X s) Q = Q (some (.int (iI (kd B n j)))) (hp X s) := by
  obtain ⟨⟨c1, c2, c3, c4, c5⟩, h1, h2, h3⟩ := R
  have c6 := (c5 j h3.1 h3.2).1
  simp (disch := first | omega | exact okF _ | exact okI _ | exact okR _ | assumption | exact okN) only [S_41_0, S_41_1, S_41_4, S_41_7, S_41_8, S_41_11, S_41_12, S_41_15, S_41_18, S_41_21, S_41_22, S_41_25, S_41_26, S_41_29, S_41_32, S_41_33, S_41_36, S_41_37, S_41_40, S_41_43, S_41_44, S_41_47, S_41_48, S_41_51, S_41_53, u_at, iI_zero, iI_31, iI_add, iI_sub, iI_mul, iI_neg, ↓iI_max, ↓iI_min, iI_div, emod_f, iI_lt, iI_le, iI_inj, iI_toInt, ↓ii01, ↓ii11, ↓bI_b, bI_0, bI_1, Kt_s, Kt_n, cat0, cat1, cat2, cat3, cat4, rfV, Nat.reduceAdd, Nat.reduceMul, Nat.reduceEqDiff, Int.reduceAdd, Int.reduceSub, Int.reduceMul, Int.reduceNeg, Int.reduceLT, Int.reduceLE, Int.reduceEq, Int.reduceDiv, ↓reduceIte, ↓ite_ww, ↓ite_wi, Br_n, Br_TW, Br_FW, Br_FP, Br_FB, nn_p, and_true, true_and, and_self, true_or, or_true, not_true_eq_false, not_false_eq_true, le_T, le_F, lt_T, lt_F, eq_T, eq_F, Int.add_zero, Int.zero_add, Int.one_mul, Int.mul_one, up_eq, up_ne, Int.add_assoc, Int.add_sub_cancel, Int.sub_zero, Int.sub_self, H_6, H_8, H_16, h2, c4, c6]
theorem c_number (R : RD s k B n T j) : Wp d 42 0 [.ref 16] [] (hp X s) Q = Q (some (.int (iI (nu B n j)))) (hp X s) := by
  obtain ⟨⟨c1, c2, c3, c4, c5⟩, h1, h2, h3⟩ := R
  have c6 := (c5 j h3.1 h3.2).2.2
  simp (disch := first | omega | exact okF _ | exact okI _ | exact okR _ | assumption | exact okN) only [S_42_0, S_42_1, S_42_4, S_42_7, S_42_8, S_42_11, S_42_12, S_42_15, S_42_18, S_42_19, S_42_22, S_42_23, S_42_26, S_42_29, S_42_30, S_42_33, S_42_34, S_42_37, S_42_38, u_at, iI_zero, iI_31, iI_add, iI_sub, iI_mul, iI_neg, ↓iI_max, ↓iI_min, iI_div, emod_f, iI_lt, iI_le, iI_inj, iI_toInt, ↓ii01, ↓ii11, ↓bI_b, bI_0, bI_1, Kt_s, Kt_n, cat0, cat1, cat2, cat3, cat4, rfV, Nat.reduceAdd, Nat.reduceMul, Nat.reduceEqDiff, Int.reduceAdd, Int.reduceSub, Int.reduceMul, Int.reduceNeg, Int.reduceLT, Int.reduceLE, Int.reduceEq, Int.reduceDiv, ↓reduceIte, ↓ite_ww, ↓ite_wi, Br_n, Br_TW, Br_FW, Br_FP, Br_FB, nn_p, and_true, true_and, and_self, true_or, or_true, not_true_eq_false, not_false_eq_true, le_T, le_F, lt_T, lt_F, eq_T, eq_F, Int.add_zero, Int.zero_add, Int.one_mul, Int.mul_one, up_eq, up_ne, Int.add_assoc, Int.add_sub_cancel, Int.sub_zero, Int.sub_self, H_6, H_10, H_16, h2, c4, c6]
theorem c_fail (R : RD s k B n T j) : Wp d 43 0 [.ref 16, .int (iI x)] [] (hp X s) Q = Q (some (.int (iI 0))) (hp X (u (u s 16001 (fun _ => x)) 16002 (fun _ => pla B n j))) := by
  obtain ⟨⟨c1, c2, c3, c4, c5⟩, h1, h2, h3⟩ := R
  have c6 := (c5 j h3.1 h3.2).2.1
  simp (disch := first | omega | exact okF _ | exact okI _ | exact okR _ | assumption | exact okN) only [S_43_0, S_43_1, S_43_2, S_43_5, S_43_6, S_43_7, S_43_10, S_43_13, S_43_14, S_43_17, S_43_18, S_43_21, S_43_24, S_43_25, S_43_28, S_43_29, S_43_32, S_43_35, S_43_36, S_43_39, S_43_40, S_43_43, S_43_44, S_43_47, S_43_50, S_43_53, S_43_54, u_at, iI_zero, iI_31, iI_add, iI_sub, iI_mul, iI_neg, ↓iI_max, ↓iI_min, iI_div, emod_f, iI_lt, iI_le, iI_inj, iI_toInt, ↓ii01, ↓ii11, ↓bI_b, bI_0, bI_1, Kt_s, Kt_n, cat0, cat1, cat2, cat3, cat4, rfV, Nat.reduceAdd, Nat.reduceMul, Nat.reduceEqDiff, Int.reduceAdd, Int.reduceSub, Int.reduceMul, Int.reduceNeg, Int.reduceLT, Int.reduceLE, Int.reduceEq, Int.reduceDiv, ↓reduceIte, ↓ite_ww, ↓ite_wi, Br_n, Br_TW, Br_FW, Br_FP, Br_FB, nn_p, and_true, true_and, and_self, true_or, or_true, not_true_eq_false, not_false_eq_true, le_T, le_F, lt_T, lt_F, eq_T, eq_F, Int.add_zero, Int.zero_add, Int.one_mul, Int.mul_one, up_eq, up_ne, Int.add_assoc, Int.add_sub_cancel, Int.sub_zero, Int.sub_self, H_6, H_9, H_16, h2, c4, c6]
theorem c_write (hk : isLw k) (hm : s (1000 * k + 4) 0 = m) (h : 0 ≤ m ∧ m < 300) : Wp d 27 0 [.ref k, .int (iI c)] [] (hp X s) Q = Q none (hp X (lwr s k m c)) := by
  have w := H_Lw hk (X := X) (s := s)
  obtain ⟨w1, w2, _, _, _, w3, _, w4, _, w5, _⟩ := w
  have l := H_L hk (X := X) (s := s)
  have la := H_La hk (X := X) (s := s) (j := 1) (by omega)
  have w32 : gM (hp X (u s (k + 1) (up (s (k + 1)) m c))) k 4 = iI m := by
    have q := (H_Lw hk (X := X) (s := u s (k + 1) (up (s (k + 1)) m c))).2.2.2.2.2.1
    rw [u_ne (by omega), hm] at q
    exact q
  have w42 : ∀ {v : Int}, pM (hp X (u s (k + 1) (up (s (k + 1)) m c))) k 4 (iI v) = hp X (u (u s (k + 1) (up (s (k + 1)) m c)) (1000 * k + 4) (fun _ => v)) := (H_Lw hk (X := X) (s := u s (k + 1) (up (s (k + 1)) m c))).2.2.2.2.2.2.2.1
  have w12 := (H_Lw hk (X := X) (s := u s (k + 1) (up (s (k + 1)) m c))).1
  have e300 : ((300 : Nat) : Int) = 300 := rfl
  unfold lwr
  simp (disch := first | omega | exact okF _ | exact okI _ | exact okR _ | assumption | exact okN) only [S_27_0, S_27_1, S_27_4, S_27_5, S_27_8, S_27_9, S_27_12, S_27_13, S_27_16, S_27_17, S_27_20, S_27_21, S_27_22, S_27_23, S_27_23_r, S_27_24, S_27_27, S_27_28, S_27_29, S_27_32, u_at, iI_zero, iI_31, iI_add, iI_sub, iI_mul, iI_neg, ↓iI_max, ↓iI_min, iI_div, emod_f, iI_lt, iI_le, iI_inj, iI_toInt, ↓ii01, ↓ii11, ↓bI_b, bI_0, bI_1, Kt_s, Kt_n, cat0, cat1, cat2, cat3, cat4, rfV, Nat.reduceAdd, Nat.reduceMul, Nat.reduceEqDiff, Int.reduceAdd, Int.reduceSub, Int.reduceMul, Int.reduceNeg, Int.reduceLT, Int.reduceLE, Int.reduceEq, Int.reduceDiv, ↓reduceIte, ↓ite_ww, ↓ite_wi, Br_n, Br_TW, Br_FW, Br_FP, Br_FB, nn_p, and_true, true_and, and_self, true_or, or_true, not_true_eq_false, not_false_eq_true, le_T, le_F, lt_T, lt_F, eq_T, eq_F, Int.add_zero, Int.zero_add, Int.one_mul, Int.mul_one, up_eq, up_ne, Int.add_assoc, Int.add_sub_cancel, Int.sub_zero, Int.sub_self, w1, w2, w3, hm, w5, e300, l, la, w12, w32, w42]
theorem c_compares (h : (-2147483648 ≤ x ∧ x < 2147483648)) : Wp d 48 0 [.int (iI x)] [] (hp X s) Q = Q (some (.int (iI (bZ (isCK x))))) (hp X s) := by
  refine wp_eq (fun rr hh er eh => ?_)
  repeat' (first | (with_reducible refine Br_i ?_ ?_ <;> (intro hbr; first | exact False.elim hbr | skip)) | (with_reducible refine Wl_i ?_) | (simp (disch := first | omega | exact okF _ | exact okI _ | exact okR _ | assumption | exact okN) only [u_at, iI_zero, iI_31, iI_add, iI_sub, iI_mul, iI_neg, ↓iI_max, ↓iI_min, iI_div, emod_f, iI_lt, iI_le, iI_inj, iI_toInt, ↓ii01, ↓ii11, ↓bI_b, bI_0, bI_1, Kt_s, Kt_n, cat0, cat1, cat2, cat3, cat4, rfV, Nat.reduceAdd, Nat.reduceMul, Nat.reduceEqDiff, Int.reduceAdd, Int.reduceSub, Int.reduceMul, Int.reduceNeg, Int.reduceLT, Int.reduceLE, Int.reduceEq, Int.reduceDiv, ↓reduceIte, ↓ite_ww, ↓ite_wi, Br_n, Br_TW, Br_FW, Br_FP, Br_FB, nn_p, and_true, true_and, and_self, true_or, or_true, not_true_eq_false, not_false_eq_true, le_T, le_F, lt_T, lt_F, eq_T, eq_F, Int.add_zero, Int.zero_add, Int.one_mul, Int.mul_one, up_eq, up_ne, Int.add_assoc, Int.add_sub_cancel, Int.sub_zero, Int.sub_self, S_48_0, S_48_1, S_48_3, S_48_6, S_48_7, S_48_9, S_48_12, S_48_13, S_48_15, S_48_18, S_48_19, S_48_21, S_48_24, S_48_25, S_48_28, S_48_29]))
  all_goals (subst er; subst eh)
  all_goals first | exact Re_T rfl (by unfold isCK; omega) rfl | exact Re_F rfl (by unfold isCK; omega) rfl

theorem c_loop_50 (hnn : 0 ≤ n) (hk : isLw k) (hs : cOK X B n T k w 51 h [.int (iI v), .float 0] sub) (g : Gd (kd B n) wb false sub) : cOK X B n T k w 50 (h + 1) [.int (iI v), .float 0, .float 0] (pLoop (kd B n) isMul sub sgT) := by
  intro d s Q j m R hw hm hmj k1 k0
  have hn := R.1.1
  have hj := R.2.2.2
  have hT := R.1.2.2.1
  have loop : ∀ (f : Nat) (i j1 : Int) (c : opl) (s1 : sg), (f : Int) = 300 - i → 0 ≤ i → (i ≤ j1 ∧ j < j1) → FW k [16005] s s1 → RD s1 k B n T j1 → s1 16006 0 = w → s1 (1000 * k + 4) 0 = m + c.length → (c.length : Int) ≤ j1 - j → seg (s1 (k + 1)) m (c.map enc) → (∀ z, z < m → s1 (k + 1) z = s (k + 1) z) → pLp (kd B n) isMul sub sgT f j1 c = pLoop (kd B n) isMul sub sgT j → ∀ v3, okO v3 = true → Wp (d + h + 1) 50 12 [.ref 16, .int (iI v), .int (iI i), v3] [] (hp X s1) Q := by
    intro f
    induction f with
    | zero =>
      intro i j1 c s1 hf hi hij fr R1 hw1 hl1 hc1 hs1 ho1 hr v3 o3
      have e : pLoop (kd B n) isMul sub sgT j = (0, j1, c) := hr.symm
      have k1 := k1 (by rw [e]) s1 fr (by rw [e]; exact R1.2.2.1) (by rw [e]; exact hl1) (by rw [e]; exact hs1) ho1
      have ei : i = 300 := by omega
      subst ei
      rw [S_50_12]
      repeat' (first | (with_reducible refine Br_i ?_ ?_ <;> (intro hbr; first | exact False.elim hbr | skip)) | (with_reducible refine Wl_i ?_) | (simp (disch := first | omega | exact okF _ | exact okI _ | exact okR _ | assumption | exact okN) only [u_at, iI_zero, iI_31, iI_add, iI_sub, iI_mul, iI_neg, ↓iI_max, ↓iI_min, iI_div, emod_f, iI_lt, iI_le, iI_inj, iI_toInt, ↓ii01, ↓ii11, ↓bI_b, bI_0, bI_1, Kt_s, Kt_n, cat0, cat1, cat2, cat3, cat4, rfV, Nat.reduceAdd, Nat.reduceMul, Nat.reduceEqDiff, Int.reduceAdd, Int.reduceSub, Int.reduceMul, Int.reduceNeg, Int.reduceLT, Int.reduceLE, Int.reduceEq, Int.reduceDiv, ↓reduceIte, ↓ite_ww, ↓ite_wi, Br_n, Br_TW, Br_FW, Br_FP, Br_FB, nn_p, and_true, true_and, and_self, true_or, or_true, not_true_eq_false, not_false_eq_true, le_T, le_F, lt_T, lt_F, eq_T, eq_F, Int.add_zero, Int.zero_add, Int.one_mul, Int.mul_one, up_eq, up_ne, Int.add_assoc, Int.add_sub_cancel, Int.sub_zero, Int.sub_self, S_50_0, S_50_1, S_50_2, S_50_5, S_50_8, S_50_9, S_50_10, S_50_11, S_50_13, S_50_16, S_50_19, S_50_20, S_50_23, S_50_25, S_50_28, S_50_29, S_50_32, S_50_34, S_50_37, S_50_38, S_50_41, S_50_42, S_50_43, S_50_43_r, S_50_44, S_50_47, S_50_48, S_50_49, S_50_52, S_50_53, S_50_54, S_50_57, S_50_60, S_50_61, S_50_62, S_50_63, S_50_66, S_50_67, S_50_68, S_50_71, S_50_74, S_50_77, S_50_78]))
      exact k1
    | succ f ih =>
      intro i j1 c s1 hf hi hij fr R1 hw1 hl1 hc1 hs1 ho1 hr v3 o3
      have hj1 := R1.2.2.2
      have kr := kd_r (B := B) (n := n) (j := j1) hnn hj1.1
      have krr := kr.1
      rw [pLp] at hr
      by_cases c1 : isMul (kd B n j1)
      · rw [if_pos c1] at hr
        have nT : ¬ j1 = T := fun q => by rw [q, hT] at c1; unfold isMul at c1; omega
        have R2 : RD (u s1 16005 (fun _ => j1 + 1)) k B n T (j1 + 1) := RD_fr hk ((FW.rf s1).u rfl) R1 rfl (by omega)
        have e5 := R1.2.2.1
        have gg := g (j1 + 1) (by omega)
        have gT := Gd_T g (by omega) hT (show j1 + 1 ≤ T by omega)
        have go : ∀ (kap : Int), kd B n j1 = kap → (kap = 26 ∨ kap = 27) → Wp (d + h + 1) 50 12 [.ref 16, .int (iI v), .int (iI i), v3] [] (hp X s1) Q := by
          intro kap hkap hkap2
          have ekk := kd_r (B := B) (n := n) (j := j1) hnn hj1.1
          have cont : ∀ v4, okO v4 = true → v4 = .int (iI kap) → Wp (d + h) 51 0 [.ref 16, .int (iI v), .float 0] [] (hp X (u s1 16005 (fun _ => j1 + 1))) (Kt (d + h + 1) 50 57 [.ref 16, .int (iI v), .int (iI i), v4] [] Q) := by
            intro v4 o4 e4
            refine hs d _ _ (j1 + 1) (m + c.length) R2 hw1 (by rw [u_ne (by unfold isLw at hk; omega)]; exact hl1) (by omega) (fun z s' f' h5 h6 h7 h8 => ?_) (fun z s' f' h5 h6 => ?_)
            · rw [if_pos z] at hr
              obtain ⟨g5, g6, _⟩ := gg.2.1 z
              have u1 : (u s1 16005 (fun _ => j1 + 1)) (k + 1) = s1 (k + 1) := u_ne (by unfold isLw at hk; omega)
              rw [u1] at h8
              have RQ : s' 16900 0 = (k : Int) := by rw [f'.at hk 16900 rfl (by omega)]; exact R1.2.1
              have gk : gS (hp X s') k = (0, 1) := (H_Lw hk).1
              have w16 : s' 16006 0 = w := by rw [f'.at hk 16006 rfl (by omega)]; exact hw1
              have fr2 : FW k [16005] s s' := (fr.tr ((FW.rf s1).u rfl)).tr f'
              have wr := fun (d : Nat) (Q : Option Value → aH → Prop) => c_write (d := d) (X := X) (Q := Q) (s := s') (c := -kap) hk h6 (by omega)
              have R3 : RD s' k B n T (sub (j1 + 1)).2.1 := RD_fr hk (f'.up rfl) R2 h5 (by omega)
              have o5 : lwr s' k (m + c.length + (sub (j1 + 1)).2.2.length) (-kap) 16005 0 = (sub (j1 + 1)).2.1 := by rw [lwr_o hk (by omega)]; exact h5
              have R4 : RD (lwr s' k (m + c.length + (sub (j1 + 1)).2.2.length) (-kap)) k B n T (sub (j1 + 1)).2.1 := RD_fr hk ((FW.rf s').wr) R3 o5 (by omega)
              have en : enc (sgT kap, 0) = -kap := by rcases hkap2 with q | q <;> subst q <;> decide
              have ih := ih (i + 1) (sub (j1 + 1)).2.1 (c ++ (sub (j1 + 1)).2.2 ++ [(sgT kap, 0)]) _ (by omega) (by omega) (by omega) fr2.wr R4 (by rw [lwr_o hk (by omega)]; exact w16) (by rw [lwr_len]; simp; omega) (by simp; omega) (by
                rw [lwr_at, List.map_append, List.map_append]
                have s12 : seg (s' (k + 1)) m (c.map enc ++ (sub (j1 + 1)).2.2.map enc) := seg_two hs1 (fun z hz => h8 z (by simpa using hz)) (by simpa using h7)
                have q := seg_snoc (g := up (s' (k + 1)) (m + c.length + (sub (j1 + 1)).2.2.length) (-kap)) (x := -kap) s12 (fun z hz => up_ne (by simp at hz; omega)) (up_eq (by simp; omega))
                show seg _ m (c.map enc ++ (sub (j1 + 1)).2.2.map enc ++ [enc (sgT kap, 0)])
                rw [en]
                exact q) (fun z hz => by
                rw [lwr_at, up_ne (by omega), h8 z (by omega)]
                exact ho1 z hz) (by rw [hkap] at hr; exact hr) v4 o4
              subst e4
              rw [Int.add_assoc m] at ih
              repeat' (first | (with_reducible refine Br_i ?_ ?_ <;> (intro hbr; first | exact False.elim hbr | skip)) | (with_reducible refine Wl_i ?_) | (simp (disch := first | omega | exact okF _ | exact okI _ | exact okR _ | assumption | exact okN) only [u_at, iI_zero, iI_31, iI_add, iI_sub, iI_mul, iI_neg, ↓iI_max, ↓iI_min, iI_div, emod_f, iI_lt, iI_le, iI_inj, iI_toInt, ↓ii01, ↓ii11, ↓bI_b, bI_0, bI_1, Kt_s, Kt_n, cat0, cat1, cat2, cat3, cat4, rfV, Nat.reduceAdd, Nat.reduceMul, Nat.reduceEqDiff, Int.reduceAdd, Int.reduceSub, Int.reduceMul, Int.reduceNeg, Int.reduceLT, Int.reduceLE, Int.reduceEq, Int.reduceDiv, ↓reduceIte, ↓ite_ww, ↓ite_wi, Br_n, Br_TW, Br_FW, Br_FP, Br_FB, nn_p, and_true, true_and, and_self, true_or, or_true, not_true_eq_false, not_false_eq_true, le_T, le_F, lt_T, lt_F, eq_T, eq_F, Int.add_zero, Int.zero_add, Int.one_mul, Int.mul_one, up_eq, up_ne, Int.add_assoc, Int.add_sub_cancel, Int.sub_zero, Int.sub_self, S_50_0, S_50_1, S_50_2, S_50_5, S_50_8, S_50_9, S_50_10, S_50_11, S_50_13, S_50_16, S_50_19, S_50_20, S_50_23, S_50_25, S_50_28, S_50_29, S_50_32, S_50_34, S_50_37, S_50_38, S_50_41, S_50_42, S_50_43, S_50_43_r, S_50_44, S_50_47, S_50_48, S_50_49, S_50_52, S_50_53, S_50_54, S_50_57, S_50_60, S_50_61, S_50_62, S_50_63, S_50_66, S_50_67, S_50_68, S_50_71, S_50_74, S_50_77, S_50_78, H_16, rq_n, RQ, gk, wr]))
              exact ih
            · rw [if_neg z] at hr
              have k0 := k0 (by rw [← hr]; exact z) s' ((fr.tr ((FW.rf s1).u rfl)).up rfl |>.tr f') (by rw [← hr]; exact h5) (by rw [← hr]; exact h6)
              subst e4
              repeat' (first | (with_reducible refine Br_i ?_ ?_ <;> (intro hbr; first | exact False.elim hbr | skip)) | (with_reducible refine Wl_i ?_) | (simp (disch := first | omega | exact okF _ | exact okI _ | exact okR _ | assumption | exact okN) only [u_at, iI_zero, iI_31, iI_add, iI_sub, iI_mul, iI_neg, ↓iI_max, ↓iI_min, iI_div, emod_f, iI_lt, iI_le, iI_inj, iI_toInt, ↓ii01, ↓ii11, ↓bI_b, bI_0, bI_1, Kt_s, Kt_n, cat0, cat1, cat2, cat3, cat4, rfV, Nat.reduceAdd, Nat.reduceMul, Nat.reduceEqDiff, Int.reduceAdd, Int.reduceSub, Int.reduceMul, Int.reduceNeg, Int.reduceLT, Int.reduceLE, Int.reduceEq, Int.reduceDiv, ↓reduceIte, ↓ite_ww, ↓ite_wi, Br_n, Br_TW, Br_FW, Br_FP, Br_FB, nn_p, and_true, true_and, and_self, true_or, or_true, not_true_eq_false, not_false_eq_true, le_T, le_F, lt_T, lt_F, eq_T, eq_F, Int.add_zero, Int.zero_add, Int.one_mul, Int.mul_one, up_eq, up_ne, Int.add_assoc, Int.add_sub_cancel, Int.sub_zero, Int.sub_self, S_50_0, S_50_1, S_50_2, S_50_5, S_50_8, S_50_9, S_50_10, S_50_11, S_50_13, S_50_16, S_50_19, S_50_20, S_50_23, S_50_25, S_50_28, S_50_29, S_50_32, S_50_34, S_50_37, S_50_38, S_50_41, S_50_42, S_50_43, S_50_43_r, S_50_44, S_50_47, S_50_48, S_50_49, S_50_52, S_50_53, S_50_54, S_50_57, S_50_60, S_50_61, S_50_62, S_50_63, S_50_66, S_50_67, S_50_68, S_50_71, S_50_74, S_50_77, S_50_78]))
              exact k0
          rw [S_50_12]
          have ct := cont (.int (iI kap)) rfl rfl
          rcases hkap2 with q | q
          · subst q
            repeat' (first | (with_reducible refine Br_i ?_ ?_ <;> (intro hbr; first | exact False.elim hbr | skip)) | (with_reducible refine Wl_i ?_) | (simp (disch := first | omega | exact okF _ | exact okI _ | exact okR _ | assumption | exact okN) only [u_at, iI_zero, iI_31, iI_add, iI_sub, iI_mul, iI_neg, ↓iI_max, ↓iI_min, iI_div, emod_f, iI_lt, iI_le, iI_inj, iI_toInt, ↓ii01, ↓ii11, ↓bI_b, bI_0, bI_1, Kt_s, Kt_n, cat0, cat1, cat2, cat3, cat4, rfV, Nat.reduceAdd, Nat.reduceMul, Nat.reduceEqDiff, Int.reduceAdd, Int.reduceSub, Int.reduceMul, Int.reduceNeg, Int.reduceLT, Int.reduceLE, Int.reduceEq, Int.reduceDiv, ↓reduceIte, ↓ite_ww, ↓ite_wi, Br_n, Br_TW, Br_FW, Br_FP, Br_FB, nn_p, and_true, true_and, and_self, true_or, or_true, not_true_eq_false, not_false_eq_true, le_T, le_F, lt_T, lt_F, eq_T, eq_F, Int.add_zero, Int.zero_add, Int.one_mul, Int.mul_one, up_eq, up_ne, Int.add_assoc, Int.add_sub_cancel, Int.sub_zero, Int.sub_self, S_50_0, S_50_1, S_50_2, S_50_5, S_50_8, S_50_9, S_50_10, S_50_11, S_50_13, S_50_16, S_50_19, S_50_20, S_50_23, S_50_25, S_50_28, S_50_29, S_50_32, S_50_34, S_50_37, S_50_38, S_50_41, S_50_42, S_50_43, S_50_43_r, S_50_44, S_50_47, S_50_48, S_50_49, S_50_52, S_50_53, S_50_54, S_50_57, S_50_60, S_50_61, S_50_62, S_50_63, S_50_66, S_50_67, S_50_68, S_50_71, S_50_74, S_50_77, S_50_78, H_16, c_kind R1, hkap, e5]))
            exact ct
          · subst q
            repeat' (first | (with_reducible refine Br_i ?_ ?_ <;> (intro hbr; first | exact False.elim hbr | skip)) | (with_reducible refine Wl_i ?_) | (simp (disch := first | omega | exact okF _ | exact okI _ | exact okR _ | assumption | exact okN) only [u_at, iI_zero, iI_31, iI_add, iI_sub, iI_mul, iI_neg, ↓iI_max, ↓iI_min, iI_div, emod_f, iI_lt, iI_le, iI_inj, iI_toInt, ↓ii01, ↓ii11, ↓bI_b, bI_0, bI_1, Kt_s, Kt_n, cat0, cat1, cat2, cat3, cat4, rfV, Nat.reduceAdd, Nat.reduceMul, Nat.reduceEqDiff, Int.reduceAdd, Int.reduceSub, Int.reduceMul, Int.reduceNeg, Int.reduceLT, Int.reduceLE, Int.reduceEq, Int.reduceDiv, ↓reduceIte, ↓ite_ww, ↓ite_wi, Br_n, Br_TW, Br_FW, Br_FP, Br_FB, nn_p, and_true, true_and, and_self, true_or, or_true, not_true_eq_false, not_false_eq_true, le_T, le_F, lt_T, lt_F, eq_T, eq_F, Int.add_zero, Int.zero_add, Int.one_mul, Int.mul_one, up_eq, up_ne, Int.add_assoc, Int.add_sub_cancel, Int.sub_zero, Int.sub_self, S_50_0, S_50_1, S_50_2, S_50_5, S_50_8, S_50_9, S_50_10, S_50_11, S_50_13, S_50_16, S_50_19, S_50_20, S_50_23, S_50_25, S_50_28, S_50_29, S_50_32, S_50_34, S_50_37, S_50_38, S_50_41, S_50_42, S_50_43, S_50_43_r, S_50_44, S_50_47, S_50_48, S_50_49, S_50_52, S_50_53, S_50_54, S_50_57, S_50_60, S_50_61, S_50_62, S_50_63, S_50_66, S_50_67, S_50_68, S_50_71, S_50_74, S_50_77, S_50_78, H_16, c_kind R1, hkap, e5]))
            exact ct
        exact go _ rfl c1
      · rw [if_neg c1] at hr
        have e : pLoop (kd B n) isMul sub sgT j = (0, j1, c) := hr.symm
        have k1 := k1 (by rw [e]) s1 fr (by rw [e]; exact R1.2.2.1) (by rw [e]; exact hl1) (by rw [e]; exact hs1) ho1
        have nc : ¬ kd B n j1 = 26 ∧ ¬ kd B n j1 = 27 := by unfold isMul at c1; omega
        rw [S_50_12]
        repeat' (first | (with_reducible refine Br_i ?_ ?_ <;> (intro hbr; first | exact False.elim hbr | skip)) | (with_reducible refine Wl_i ?_) | (simp (disch := first | omega | exact okF _ | exact okI _ | exact okR _ | assumption | exact okN) only [u_at, iI_zero, iI_31, iI_add, iI_sub, iI_mul, iI_neg, ↓iI_max, ↓iI_min, iI_div, emod_f, iI_lt, iI_le, iI_inj, iI_toInt, ↓ii01, ↓ii11, ↓bI_b, bI_0, bI_1, Kt_s, Kt_n, cat0, cat1, cat2, cat3, cat4, rfV, Nat.reduceAdd, Nat.reduceMul, Nat.reduceEqDiff, Int.reduceAdd, Int.reduceSub, Int.reduceMul, Int.reduceNeg, Int.reduceLT, Int.reduceLE, Int.reduceEq, Int.reduceDiv, ↓reduceIte, ↓ite_ww, ↓ite_wi, Br_n, Br_TW, Br_FW, Br_FP, Br_FB, nn_p, and_true, true_and, and_self, true_or, or_true, not_true_eq_false, not_false_eq_true, le_T, le_F, lt_T, lt_F, eq_T, eq_F, Int.add_zero, Int.zero_add, Int.one_mul, Int.mul_one, up_eq, up_ne, Int.add_assoc, Int.add_sub_cancel, Int.sub_zero, Int.sub_self, S_50_0, S_50_1, S_50_2, S_50_5, S_50_8, S_50_9, S_50_10, S_50_11, S_50_13, S_50_16, S_50_19, S_50_20, S_50_23, S_50_25, S_50_28, S_50_29, S_50_32, S_50_34, S_50_37, S_50_38, S_50_41, S_50_42, S_50_43, S_50_43_r, S_50_44, S_50_47, S_50_48, S_50_49, S_50_52, S_50_53, S_50_54, S_50_57, S_50_60, S_50_61, S_50_62, S_50_63, S_50_66, S_50_67, S_50_68, S_50_71, S_50_74, S_50_77, S_50_78, H_16, c_kind R1, nc.1, nc.2]))
        exact k1
  rw [← Nat.add_assoc]
  repeat' (first | (with_reducible refine Br_i ?_ ?_ <;> (intro hbr; first | exact False.elim hbr | skip)) | (with_reducible refine Wl_i ?_) | (simp (disch := first | omega | exact okF _ | exact okI _ | exact okR _ | assumption | exact okN) only [u_at, iI_zero, iI_31, iI_add, iI_sub, iI_mul, iI_neg, ↓iI_max, ↓iI_min, iI_div, emod_f, iI_lt, iI_le, iI_inj, iI_toInt, ↓ii01, ↓ii11, ↓bI_b, bI_0, bI_1, Kt_s, Kt_n, cat0, cat1, cat2, cat3, cat4, rfV, Nat.reduceAdd, Nat.reduceMul, Nat.reduceEqDiff, Int.reduceAdd, Int.reduceSub, Int.reduceMul, Int.reduceNeg, Int.reduceLT, Int.reduceLE, Int.reduceEq, Int.reduceDiv, ↓reduceIte, ↓ite_ww, ↓ite_wi, Br_n, Br_TW, Br_FW, Br_FP, Br_FB, nn_p, and_true, true_and, and_self, true_or, or_true, not_true_eq_false, not_false_eq_true, le_T, le_F, lt_T, lt_F, eq_T, eq_F, Int.add_zero, Int.zero_add, Int.one_mul, Int.mul_one, up_eq, up_ne, Int.add_assoc, Int.add_sub_cancel, Int.sub_zero, Int.sub_self, S_50_0, S_50_1, S_50_2, S_50_5, S_50_8, S_50_9, S_50_10, S_50_11, S_50_13, S_50_16, S_50_19, S_50_20, S_50_23, S_50_25, S_50_28, S_50_29, S_50_32, S_50_34, S_50_37, S_50_38, S_50_41, S_50_42, S_50_43, S_50_43_r, S_50_44, S_50_47, S_50_48, S_50_49, S_50_52, S_50_53, S_50_54, S_50_57, S_50_60, S_50_61, S_50_62, S_50_63, S_50_66, S_50_67, S_50_68, S_50_71, S_50_74, S_50_77, S_50_78, H_16]))
  refine hs d s _ j m R hw hm hmj (fun z s' f' h5 h6 h7 h8 => ?_) (fun z s' f' h5 h6 => ?_)
  · have gg := g j hj.1
    obtain ⟨g5, g6, _⟩ := gg.2.1 z
    have gT := Gd_T g hj.1 hT hj.2
    have ep : pLoop (kd B n) isMul sub sgT j = pLp (kd B n) isMul sub sgT 300 (sub j).2.1 (sub j).2.2 := if_pos z
    have l0 := loop 300 0 (sub j).2.1 (sub j).2.2 s' (by omega) (by omega) (by omega) f' (RD_fr hk (f'.up rfl) R h5 (by omega)) (by rw [f'.at hk 16006 rfl (by omega)]; exact hw) h6 g6 h7 h8 ep.symm (.float 0) rfl
    repeat' (first | (with_reducible refine Br_i ?_ ?_ <;> (intro hbr; first | exact False.elim hbr | skip)) | (with_reducible refine Wl_i ?_) | (simp (disch := first | omega | exact okF _ | exact okI _ | exact okR _ | assumption | exact okN) only [u_at, iI_zero, iI_31, iI_add, iI_sub, iI_mul, iI_neg, ↓iI_max, ↓iI_min, iI_div, emod_f, iI_lt, iI_le, iI_inj, iI_toInt, ↓ii01, ↓ii11, ↓bI_b, bI_0, bI_1, Kt_s, Kt_n, cat0, cat1, cat2, cat3, cat4, rfV, Nat.reduceAdd, Nat.reduceMul, Nat.reduceEqDiff, Int.reduceAdd, Int.reduceSub, Int.reduceMul, Int.reduceNeg, Int.reduceLT, Int.reduceLE, Int.reduceEq, Int.reduceDiv, ↓reduceIte, ↓ite_ww, ↓ite_wi, Br_n, Br_TW, Br_FW, Br_FP, Br_FB, nn_p, and_true, true_and, and_self, true_or, or_true, not_true_eq_false, not_false_eq_true, le_T, le_F, lt_T, lt_F, eq_T, eq_F, Int.add_zero, Int.zero_add, Int.one_mul, Int.mul_one, up_eq, up_ne, Int.add_assoc, Int.add_sub_cancel, Int.sub_zero, Int.sub_self, S_50_0, S_50_1, S_50_2, S_50_5, S_50_8, S_50_9, S_50_10, S_50_11, S_50_13, S_50_16, S_50_19, S_50_20, S_50_23, S_50_25, S_50_28, S_50_29, S_50_32, S_50_34, S_50_37, S_50_38, S_50_41, S_50_42, S_50_43, S_50_43_r, S_50_44, S_50_47, S_50_48, S_50_49, S_50_52, S_50_53, S_50_54, S_50_57, S_50_60, S_50_61, S_50_62, S_50_63, S_50_66, S_50_67, S_50_68, S_50_71, S_50_74, S_50_77, S_50_78]))
    exact l0
  · have ep : pLoop (kd B n) isMul sub sgT j = ((sub j).1, (sub j).2.1, []) := if_neg z
    have k0 := k0 (by rw [ep]; exact z) s' f' (by rw [ep]; exact h5) (by rw [ep]; exact h6)
    repeat' (first | (with_reducible refine Br_i ?_ ?_ <;> (intro hbr; first | exact False.elim hbr | skip)) | (with_reducible refine Wl_i ?_) | (simp (disch := first | omega | exact okF _ | exact okI _ | exact okR _ | assumption | exact okN) only [u_at, iI_zero, iI_31, iI_add, iI_sub, iI_mul, iI_neg, ↓iI_max, ↓iI_min, iI_div, emod_f, iI_lt, iI_le, iI_inj, iI_toInt, ↓ii01, ↓ii11, ↓bI_b, bI_0, bI_1, Kt_s, Kt_n, cat0, cat1, cat2, cat3, cat4, rfV, Nat.reduceAdd, Nat.reduceMul, Nat.reduceEqDiff, Int.reduceAdd, Int.reduceSub, Int.reduceMul, Int.reduceNeg, Int.reduceLT, Int.reduceLE, Int.reduceEq, Int.reduceDiv, ↓reduceIte, ↓ite_ww, ↓ite_wi, Br_n, Br_TW, Br_FW, Br_FP, Br_FB, nn_p, and_true, true_and, and_self, true_or, or_true, not_true_eq_false, not_false_eq_true, le_T, le_F, lt_T, lt_F, eq_T, eq_F, Int.add_zero, Int.zero_add, Int.one_mul, Int.mul_one, up_eq, up_ne, Int.add_assoc, Int.add_sub_cancel, Int.sub_zero, Int.sub_self, S_50_0, S_50_1, S_50_2, S_50_5, S_50_8, S_50_9, S_50_10, S_50_11, S_50_13, S_50_16, S_50_19, S_50_20, S_50_23, S_50_25, S_50_28, S_50_29, S_50_32, S_50_34, S_50_37, S_50_38, S_50_41, S_50_42, S_50_43, S_50_43_r, S_50_44, S_50_47, S_50_48, S_50_49, S_50_52, S_50_53, S_50_54, S_50_57, S_50_60, S_50_61, S_50_62, S_50_63, S_50_66, S_50_67, S_50_68, S_50_71, S_50_74, S_50_77, S_50_78]))
    exact k0

theorem c_loop_49 (hnn : 0 ≤ n) (hk : isLw k) (hs : cOK X B n T k w 50 h [.int (iI v), .float 0, .float 0] sub) (g : Gd (kd B n) wb false sub) : cOK X B n T k w 49 (h + 1) [.int (iI v), .float 0, .float 0] (pLoop (kd B n) isAdd sub sgT) := by
  intro d s Q j m R hw hm hmj k1 k0
  have hn := R.1.1
  have hj := R.2.2.2
  have hT := R.1.2.2.1
  have loop : ∀ (f : Nat) (i j1 : Int) (c : opl) (s1 : sg), (f : Int) = 300 - i → 0 ≤ i → (i ≤ j1 ∧ j < j1) → FW k [16005] s s1 → RD s1 k B n T j1 → s1 16006 0 = w → s1 (1000 * k + 4) 0 = m + c.length → (c.length : Int) ≤ j1 - j → seg (s1 (k + 1)) m (c.map enc) → (∀ z, z < m → s1 (k + 1) z = s (k + 1) z) → pLp (kd B n) isAdd sub sgT f j1 c = pLoop (kd B n) isAdd sub sgT j → ∀ v3, okO v3 = true → Wp (d + h + 1) 49 12 [.ref 16, .int (iI v), .int (iI i), v3] [] (hp X s1) Q := by
    intro f
    induction f with
    | zero =>
      intro i j1 c s1 hf hi hij fr R1 hw1 hl1 hc1 hs1 ho1 hr v3 o3
      have e : pLoop (kd B n) isAdd sub sgT j = (0, j1, c) := hr.symm
      have k1 := k1 (by rw [e]) s1 fr (by rw [e]; exact R1.2.2.1) (by rw [e]; exact hl1) (by rw [e]; exact hs1) ho1
      have ei : i = 300 := by omega
      subst ei
      rw [S_49_12]
      repeat' (first | (with_reducible refine Br_i ?_ ?_ <;> (intro hbr; first | exact False.elim hbr | skip)) | (with_reducible refine Wl_i ?_) | (simp (disch := first | omega | exact okF _ | exact okI _ | exact okR _ | assumption | exact okN) only [u_at, iI_zero, iI_31, iI_add, iI_sub, iI_mul, iI_neg, ↓iI_max, ↓iI_min, iI_div, emod_f, iI_lt, iI_le, iI_inj, iI_toInt, ↓ii01, ↓ii11, ↓bI_b, bI_0, bI_1, Kt_s, Kt_n, cat0, cat1, cat2, cat3, cat4, rfV, Nat.reduceAdd, Nat.reduceMul, Nat.reduceEqDiff, Int.reduceAdd, Int.reduceSub, Int.reduceMul, Int.reduceNeg, Int.reduceLT, Int.reduceLE, Int.reduceEq, Int.reduceDiv, ↓reduceIte, ↓ite_ww, ↓ite_wi, Br_n, Br_TW, Br_FW, Br_FP, Br_FB, nn_p, and_true, true_and, and_self, true_or, or_true, not_true_eq_false, not_false_eq_true, le_T, le_F, lt_T, lt_F, eq_T, eq_F, Int.add_zero, Int.zero_add, Int.one_mul, Int.mul_one, up_eq, up_ne, Int.add_assoc, Int.add_sub_cancel, Int.sub_zero, Int.sub_self, S_49_0, S_49_1, S_49_2, S_49_5, S_49_8, S_49_9, S_49_10, S_49_11, S_49_13, S_49_16, S_49_19, S_49_20, S_49_23, S_49_25, S_49_28, S_49_29, S_49_32, S_49_34, S_49_37, S_49_38, S_49_41, S_49_42, S_49_43, S_49_43_r, S_49_44, S_49_47, S_49_48, S_49_49, S_49_52, S_49_53, S_49_54, S_49_57, S_49_60, S_49_61, S_49_62, S_49_63, S_49_66, S_49_67, S_49_68, S_49_71, S_49_74, S_49_77, S_49_78]))
      exact k1
    | succ f ih =>
      intro i j1 c s1 hf hi hij fr R1 hw1 hl1 hc1 hs1 ho1 hr v3 o3
      have hj1 := R1.2.2.2
      have kr := kd_r (B := B) (n := n) (j := j1) hnn hj1.1
      have krr := kr.1
      rw [pLp] at hr
      by_cases c1 : isAdd (kd B n j1)
      · rw [if_pos c1] at hr
        have nT : ¬ j1 = T := fun q => by rw [q, hT] at c1; unfold isAdd at c1; omega
        have R2 : RD (u s1 16005 (fun _ => j1 + 1)) k B n T (j1 + 1) := RD_fr hk ((FW.rf s1).u rfl) R1 rfl (by omega)
        have e5 := R1.2.2.1
        have gg := g (j1 + 1) (by omega)
        have gT := Gd_T g (by omega) hT (show j1 + 1 ≤ T by omega)
        have go : ∀ (kap : Int), kd B n j1 = kap → (kap = 24 ∨ kap = 25) → Wp (d + h + 1) 49 12 [.ref 16, .int (iI v), .int (iI i), v3] [] (hp X s1) Q := by
          intro kap hkap hkap2
          have ekk := kd_r (B := B) (n := n) (j := j1) hnn hj1.1
          have cont : ∀ v4, okO v4 = true → v4 = .int (iI kap) → Wp (d + h) 50 0 [.ref 16, .int (iI v), .float 0, .float 0] [] (hp X (u s1 16005 (fun _ => j1 + 1))) (Kt (d + h + 1) 49 57 [.ref 16, .int (iI v), .int (iI i), v4] [] Q) := by
            intro v4 o4 e4
            refine hs d _ _ (j1 + 1) (m + c.length) R2 hw1 (by rw [u_ne (by unfold isLw at hk; omega)]; exact hl1) (by omega) (fun z s' f' h5 h6 h7 h8 => ?_) (fun z s' f' h5 h6 => ?_)
            · rw [if_pos z] at hr
              obtain ⟨g5, g6, _⟩ := gg.2.1 z
              have u1 : (u s1 16005 (fun _ => j1 + 1)) (k + 1) = s1 (k + 1) := u_ne (by unfold isLw at hk; omega)
              rw [u1] at h8
              have RQ : s' 16900 0 = (k : Int) := by rw [f'.at hk 16900 rfl (by omega)]; exact R1.2.1
              have gk : gS (hp X s') k = (0, 1) := (H_Lw hk).1
              have w16 : s' 16006 0 = w := by rw [f'.at hk 16006 rfl (by omega)]; exact hw1
              have fr2 : FW k [16005] s s' := (fr.tr ((FW.rf s1).u rfl)).tr f'
              have wr := fun (d : Nat) (Q : Option Value → aH → Prop) => c_write (d := d) (X := X) (Q := Q) (s := s') (c := -kap) hk h6 (by omega)
              have R3 : RD s' k B n T (sub (j1 + 1)).2.1 := RD_fr hk (f'.up rfl) R2 h5 (by omega)
              have o5 : lwr s' k (m + c.length + (sub (j1 + 1)).2.2.length) (-kap) 16005 0 = (sub (j1 + 1)).2.1 := by rw [lwr_o hk (by omega)]; exact h5
              have R4 : RD (lwr s' k (m + c.length + (sub (j1 + 1)).2.2.length) (-kap)) k B n T (sub (j1 + 1)).2.1 := RD_fr hk ((FW.rf s').wr) R3 o5 (by omega)
              have en : enc (sgT kap, 0) = -kap := by rcases hkap2 with q | q <;> subst q <;> decide
              have ih := ih (i + 1) (sub (j1 + 1)).2.1 (c ++ (sub (j1 + 1)).2.2 ++ [(sgT kap, 0)]) _ (by omega) (by omega) (by omega) fr2.wr R4 (by rw [lwr_o hk (by omega)]; exact w16) (by rw [lwr_len]; simp; omega) (by simp; omega) (by
                rw [lwr_at, List.map_append, List.map_append]
                have s12 : seg (s' (k + 1)) m (c.map enc ++ (sub (j1 + 1)).2.2.map enc) := seg_two hs1 (fun z hz => h8 z (by simpa using hz)) (by simpa using h7)
                have q := seg_snoc (g := up (s' (k + 1)) (m + c.length + (sub (j1 + 1)).2.2.length) (-kap)) (x := -kap) s12 (fun z hz => up_ne (by simp at hz; omega)) (up_eq (by simp; omega))
                show seg _ m (c.map enc ++ (sub (j1 + 1)).2.2.map enc ++ [enc (sgT kap, 0)])
                rw [en]
                exact q) (fun z hz => by
                rw [lwr_at, up_ne (by omega), h8 z (by omega)]
                exact ho1 z hz) (by rw [hkap] at hr; exact hr) v4 o4
              subst e4
              rw [Int.add_assoc m] at ih
              repeat' (first | (with_reducible refine Br_i ?_ ?_ <;> (intro hbr; first | exact False.elim hbr | skip)) | (with_reducible refine Wl_i ?_) | (simp (disch := first | omega | exact okF _ | exact okI _ | exact okR _ | assumption | exact okN) only [u_at, iI_zero, iI_31, iI_add, iI_sub, iI_mul, iI_neg, ↓iI_max, ↓iI_min, iI_div, emod_f, iI_lt, iI_le, iI_inj, iI_toInt, ↓ii01, ↓ii11, ↓bI_b, bI_0, bI_1, Kt_s, Kt_n, cat0, cat1, cat2, cat3, cat4, rfV, Nat.reduceAdd, Nat.reduceMul, Nat.reduceEqDiff, Int.reduceAdd, Int.reduceSub, Int.reduceMul, Int.reduceNeg, Int.reduceLT, Int.reduceLE, Int.reduceEq, Int.reduceDiv, ↓reduceIte, ↓ite_ww, ↓ite_wi, Br_n, Br_TW, Br_FW, Br_FP, Br_FB, nn_p, and_true, true_and, and_self, true_or, or_true, not_true_eq_false, not_false_eq_true, le_T, le_F, lt_T, lt_F, eq_T, eq_F, Int.add_zero, Int.zero_add, Int.one_mul, Int.mul_one, up_eq, up_ne, Int.add_assoc, Int.add_sub_cancel, Int.sub_zero, Int.sub_self, S_49_0, S_49_1, S_49_2, S_49_5, S_49_8, S_49_9, S_49_10, S_49_11, S_49_13, S_49_16, S_49_19, S_49_20, S_49_23, S_49_25, S_49_28, S_49_29, S_49_32, S_49_34, S_49_37, S_49_38, S_49_41, S_49_42, S_49_43, S_49_43_r, S_49_44, S_49_47, S_49_48, S_49_49, S_49_52, S_49_53, S_49_54, S_49_57, S_49_60, S_49_61, S_49_62, S_49_63, S_49_66, S_49_67, S_49_68, S_49_71, S_49_74, S_49_77, S_49_78, H_16, rq_n, RQ, gk, wr]))
              exact ih
            · rw [if_neg z] at hr
              have k0 := k0 (by rw [← hr]; exact z) s' ((fr.tr ((FW.rf s1).u rfl)).up rfl |>.tr f') (by rw [← hr]; exact h5) (by rw [← hr]; exact h6)
              subst e4
              repeat' (first | (with_reducible refine Br_i ?_ ?_ <;> (intro hbr; first | exact False.elim hbr | skip)) | (with_reducible refine Wl_i ?_) | (simp (disch := first | omega | exact okF _ | exact okI _ | exact okR _ | assumption | exact okN) only [u_at, iI_zero, iI_31, iI_add, iI_sub, iI_mul, iI_neg, ↓iI_max, ↓iI_min, iI_div, emod_f, iI_lt, iI_le, iI_inj, iI_toInt, ↓ii01, ↓ii11, ↓bI_b, bI_0, bI_1, Kt_s, Kt_n, cat0, cat1, cat2, cat3, cat4, rfV, Nat.reduceAdd, Nat.reduceMul, Nat.reduceEqDiff, Int.reduceAdd, Int.reduceSub, Int.reduceMul, Int.reduceNeg, Int.reduceLT, Int.reduceLE, Int.reduceEq, Int.reduceDiv, ↓reduceIte, ↓ite_ww, ↓ite_wi, Br_n, Br_TW, Br_FW, Br_FP, Br_FB, nn_p, and_true, true_and, and_self, true_or, or_true, not_true_eq_false, not_false_eq_true, le_T, le_F, lt_T, lt_F, eq_T, eq_F, Int.add_zero, Int.zero_add, Int.one_mul, Int.mul_one, up_eq, up_ne, Int.add_assoc, Int.add_sub_cancel, Int.sub_zero, Int.sub_self, S_49_0, S_49_1, S_49_2, S_49_5, S_49_8, S_49_9, S_49_10, S_49_11, S_49_13, S_49_16, S_49_19, S_49_20, S_49_23, S_49_25, S_49_28, S_49_29, S_49_32, S_49_34, S_49_37, S_49_38, S_49_41, S_49_42, S_49_43, S_49_43_r, S_49_44, S_49_47, S_49_48, S_49_49, S_49_52, S_49_53, S_49_54, S_49_57, S_49_60, S_49_61, S_49_62, S_49_63, S_49_66, S_49_67, S_49_68, S_49_71, S_49_74, S_49_77, S_49_78]))
              exact k0
          rw [S_49_12]
          have ct := cont (.int (iI kap)) rfl rfl
          rcases hkap2 with q | q
          · subst q
            repeat' (first | (with_reducible refine Br_i ?_ ?_ <;> (intro hbr; first | exact False.elim hbr | skip)) | (with_reducible refine Wl_i ?_) | (simp (disch := first | omega | exact okF _ | exact okI _ | exact okR _ | assumption | exact okN) only [u_at, iI_zero, iI_31, iI_add, iI_sub, iI_mul, iI_neg, ↓iI_max, ↓iI_min, iI_div, emod_f, iI_lt, iI_le, iI_inj, iI_toInt, ↓ii01, ↓ii11, ↓bI_b, bI_0, bI_1, Kt_s, Kt_n, cat0, cat1, cat2, cat3, cat4, rfV, Nat.reduceAdd, Nat.reduceMul, Nat.reduceEqDiff, Int.reduceAdd, Int.reduceSub, Int.reduceMul, Int.reduceNeg, Int.reduceLT, Int.reduceLE, Int.reduceEq, Int.reduceDiv, ↓reduceIte, ↓ite_ww, ↓ite_wi, Br_n, Br_TW, Br_FW, Br_FP, Br_FB, nn_p, and_true, true_and, and_self, true_or, or_true, not_true_eq_false, not_false_eq_true, le_T, le_F, lt_T, lt_F, eq_T, eq_F, Int.add_zero, Int.zero_add, Int.one_mul, Int.mul_one, up_eq, up_ne, Int.add_assoc, Int.add_sub_cancel, Int.sub_zero, Int.sub_self, S_49_0, S_49_1, S_49_2, S_49_5, S_49_8, S_49_9, S_49_10, S_49_11, S_49_13, S_49_16, S_49_19, S_49_20, S_49_23, S_49_25, S_49_28, S_49_29, S_49_32, S_49_34, S_49_37, S_49_38, S_49_41, S_49_42, S_49_43, S_49_43_r, S_49_44, S_49_47, S_49_48, S_49_49, S_49_52, S_49_53, S_49_54, S_49_57, S_49_60, S_49_61, S_49_62, S_49_63, S_49_66, S_49_67, S_49_68, S_49_71, S_49_74, S_49_77, S_49_78, H_16, c_kind R1, hkap, e5]))
            exact ct
          · subst q
            repeat' (first | (with_reducible refine Br_i ?_ ?_ <;> (intro hbr; first | exact False.elim hbr | skip)) | (with_reducible refine Wl_i ?_) | (simp (disch := first | omega | exact okF _ | exact okI _ | exact okR _ | assumption | exact okN) only [u_at, iI_zero, iI_31, iI_add, iI_sub, iI_mul, iI_neg, ↓iI_max, ↓iI_min, iI_div, emod_f, iI_lt, iI_le, iI_inj, iI_toInt, ↓ii01, ↓ii11, ↓bI_b, bI_0, bI_1, Kt_s, Kt_n, cat0, cat1, cat2, cat3, cat4, rfV, Nat.reduceAdd, Nat.reduceMul, Nat.reduceEqDiff, Int.reduceAdd, Int.reduceSub, Int.reduceMul, Int.reduceNeg, Int.reduceLT, Int.reduceLE, Int.reduceEq, Int.reduceDiv, ↓reduceIte, ↓ite_ww, ↓ite_wi, Br_n, Br_TW, Br_FW, Br_FP, Br_FB, nn_p, and_true, true_and, and_self, true_or, or_true, not_true_eq_false, not_false_eq_true, le_T, le_F, lt_T, lt_F, eq_T, eq_F, Int.add_zero, Int.zero_add, Int.one_mul, Int.mul_one, up_eq, up_ne, Int.add_assoc, Int.add_sub_cancel, Int.sub_zero, Int.sub_self, S_49_0, S_49_1, S_49_2, S_49_5, S_49_8, S_49_9, S_49_10, S_49_11, S_49_13, S_49_16, S_49_19, S_49_20, S_49_23, S_49_25, S_49_28, S_49_29, S_49_32, S_49_34, S_49_37, S_49_38, S_49_41, S_49_42, S_49_43, S_49_43_r, S_49_44, S_49_47, S_49_48, S_49_49, S_49_52, S_49_53, S_49_54, S_49_57, S_49_60, S_49_61, S_49_62, S_49_63, S_49_66, S_49_67, S_49_68, S_49_71, S_49_74, S_49_77, S_49_78, H_16, c_kind R1, hkap, e5]))
            exact ct
        exact go _ rfl c1
      · rw [if_neg c1] at hr
        have e : pLoop (kd B n) isAdd sub sgT j = (0, j1, c) := hr.symm
        have k1 := k1 (by rw [e]) s1 fr (by rw [e]; exact R1.2.2.1) (by rw [e]; exact hl1) (by rw [e]; exact hs1) ho1
        have nc : ¬ kd B n j1 = 24 ∧ ¬ kd B n j1 = 25 := by unfold isAdd at c1; omega
        rw [S_49_12]
        repeat' (first | (with_reducible refine Br_i ?_ ?_ <;> (intro hbr; first | exact False.elim hbr | skip)) | (with_reducible refine Wl_i ?_) | (simp (disch := first | omega | exact okF _ | exact okI _ | exact okR _ | assumption | exact okN) only [u_at, iI_zero, iI_31, iI_add, iI_sub, iI_mul, iI_neg, ↓iI_max, ↓iI_min, iI_div, emod_f, iI_lt, iI_le, iI_inj, iI_toInt, ↓ii01, ↓ii11, ↓bI_b, bI_0, bI_1, Kt_s, Kt_n, cat0, cat1, cat2, cat3, cat4, rfV, Nat.reduceAdd, Nat.reduceMul, Nat.reduceEqDiff, Int.reduceAdd, Int.reduceSub, Int.reduceMul, Int.reduceNeg, Int.reduceLT, Int.reduceLE, Int.reduceEq, Int.reduceDiv, ↓reduceIte, ↓ite_ww, ↓ite_wi, Br_n, Br_TW, Br_FW, Br_FP, Br_FB, nn_p, and_true, true_and, and_self, true_or, or_true, not_true_eq_false, not_false_eq_true, le_T, le_F, lt_T, lt_F, eq_T, eq_F, Int.add_zero, Int.zero_add, Int.one_mul, Int.mul_one, up_eq, up_ne, Int.add_assoc, Int.add_sub_cancel, Int.sub_zero, Int.sub_self, S_49_0, S_49_1, S_49_2, S_49_5, S_49_8, S_49_9, S_49_10, S_49_11, S_49_13, S_49_16, S_49_19, S_49_20, S_49_23, S_49_25, S_49_28, S_49_29, S_49_32, S_49_34, S_49_37, S_49_38, S_49_41, S_49_42, S_49_43, S_49_43_r, S_49_44, S_49_47, S_49_48, S_49_49, S_49_52, S_49_53, S_49_54, S_49_57, S_49_60, S_49_61, S_49_62, S_49_63, S_49_66, S_49_67, S_49_68, S_49_71, S_49_74, S_49_77, S_49_78, H_16, c_kind R1, nc.1, nc.2]))
        exact k1
  rw [← Nat.add_assoc]
  repeat' (first | (with_reducible refine Br_i ?_ ?_ <;> (intro hbr; first | exact False.elim hbr | skip)) | (with_reducible refine Wl_i ?_) | (simp (disch := first | omega | exact okF _ | exact okI _ | exact okR _ | assumption | exact okN) only [u_at, iI_zero, iI_31, iI_add, iI_sub, iI_mul, iI_neg, ↓iI_max, ↓iI_min, iI_div, emod_f, iI_lt, iI_le, iI_inj, iI_toInt, ↓ii01, ↓ii11, ↓bI_b, bI_0, bI_1, Kt_s, Kt_n, cat0, cat1, cat2, cat3, cat4, rfV, Nat.reduceAdd, Nat.reduceMul, Nat.reduceEqDiff, Int.reduceAdd, Int.reduceSub, Int.reduceMul, Int.reduceNeg, Int.reduceLT, Int.reduceLE, Int.reduceEq, Int.reduceDiv, ↓reduceIte, ↓ite_ww, ↓ite_wi, Br_n, Br_TW, Br_FW, Br_FP, Br_FB, nn_p, and_true, true_and, and_self, true_or, or_true, not_true_eq_false, not_false_eq_true, le_T, le_F, lt_T, lt_F, eq_T, eq_F, Int.add_zero, Int.zero_add, Int.one_mul, Int.mul_one, up_eq, up_ne, Int.add_assoc, Int.add_sub_cancel, Int.sub_zero, Int.sub_self, S_49_0, S_49_1, S_49_2, S_49_5, S_49_8, S_49_9, S_49_10, S_49_11, S_49_13, S_49_16, S_49_19, S_49_20, S_49_23, S_49_25, S_49_28, S_49_29, S_49_32, S_49_34, S_49_37, S_49_38, S_49_41, S_49_42, S_49_43, S_49_43_r, S_49_44, S_49_47, S_49_48, S_49_49, S_49_52, S_49_53, S_49_54, S_49_57, S_49_60, S_49_61, S_49_62, S_49_63, S_49_66, S_49_67, S_49_68, S_49_71, S_49_74, S_49_77, S_49_78, H_16]))
  refine hs d s _ j m R hw hm hmj (fun z s' f' h5 h6 h7 h8 => ?_) (fun z s' f' h5 h6 => ?_)
  · have gg := g j hj.1
    obtain ⟨g5, g6, _⟩ := gg.2.1 z
    have gT := Gd_T g hj.1 hT hj.2
    have ep : pLoop (kd B n) isAdd sub sgT j = pLp (kd B n) isAdd sub sgT 300 (sub j).2.1 (sub j).2.2 := if_pos z
    have l0 := loop 300 0 (sub j).2.1 (sub j).2.2 s' (by omega) (by omega) (by omega) f' (RD_fr hk (f'.up rfl) R h5 (by omega)) (by rw [f'.at hk 16006 rfl (by omega)]; exact hw) h6 g6 h7 h8 ep.symm (.float 0) rfl
    repeat' (first | (with_reducible refine Br_i ?_ ?_ <;> (intro hbr; first | exact False.elim hbr | skip)) | (with_reducible refine Wl_i ?_) | (simp (disch := first | omega | exact okF _ | exact okI _ | exact okR _ | assumption | exact okN) only [u_at, iI_zero, iI_31, iI_add, iI_sub, iI_mul, iI_neg, ↓iI_max, ↓iI_min, iI_div, emod_f, iI_lt, iI_le, iI_inj, iI_toInt, ↓ii01, ↓ii11, ↓bI_b, bI_0, bI_1, Kt_s, Kt_n, cat0, cat1, cat2, cat3, cat4, rfV, Nat.reduceAdd, Nat.reduceMul, Nat.reduceEqDiff, Int.reduceAdd, Int.reduceSub, Int.reduceMul, Int.reduceNeg, Int.reduceLT, Int.reduceLE, Int.reduceEq, Int.reduceDiv, ↓reduceIte, ↓ite_ww, ↓ite_wi, Br_n, Br_TW, Br_FW, Br_FP, Br_FB, nn_p, and_true, true_and, and_self, true_or, or_true, not_true_eq_false, not_false_eq_true, le_T, le_F, lt_T, lt_F, eq_T, eq_F, Int.add_zero, Int.zero_add, Int.one_mul, Int.mul_one, up_eq, up_ne, Int.add_assoc, Int.add_sub_cancel, Int.sub_zero, Int.sub_self, S_49_0, S_49_1, S_49_2, S_49_5, S_49_8, S_49_9, S_49_10, S_49_11, S_49_13, S_49_16, S_49_19, S_49_20, S_49_23, S_49_25, S_49_28, S_49_29, S_49_32, S_49_34, S_49_37, S_49_38, S_49_41, S_49_42, S_49_43, S_49_43_r, S_49_44, S_49_47, S_49_48, S_49_49, S_49_52, S_49_53, S_49_54, S_49_57, S_49_60, S_49_61, S_49_62, S_49_63, S_49_66, S_49_67, S_49_68, S_49_71, S_49_74, S_49_77, S_49_78]))
    exact l0
  · have ep : pLoop (kd B n) isAdd sub sgT j = ((sub j).1, (sub j).2.1, []) := if_neg z
    have k0 := k0 (by rw [ep]; exact z) s' f' (by rw [ep]; exact h5) (by rw [ep]; exact h6)
    repeat' (first | (with_reducible refine Br_i ?_ ?_ <;> (intro hbr; first | exact False.elim hbr | skip)) | (with_reducible refine Wl_i ?_) | (simp (disch := first | omega | exact okF _ | exact okI _ | exact okR _ | assumption | exact okN) only [u_at, iI_zero, iI_31, iI_add, iI_sub, iI_mul, iI_neg, ↓iI_max, ↓iI_min, iI_div, emod_f, iI_lt, iI_le, iI_inj, iI_toInt, ↓ii01, ↓ii11, ↓bI_b, bI_0, bI_1, Kt_s, Kt_n, cat0, cat1, cat2, cat3, cat4, rfV, Nat.reduceAdd, Nat.reduceMul, Nat.reduceEqDiff, Int.reduceAdd, Int.reduceSub, Int.reduceMul, Int.reduceNeg, Int.reduceLT, Int.reduceLE, Int.reduceEq, Int.reduceDiv, ↓reduceIte, ↓ite_ww, ↓ite_wi, Br_n, Br_TW, Br_FW, Br_FP, Br_FB, nn_p, and_true, true_and, and_self, true_or, or_true, not_true_eq_false, not_false_eq_true, le_T, le_F, lt_T, lt_F, eq_T, eq_F, Int.add_zero, Int.zero_add, Int.one_mul, Int.mul_one, up_eq, up_ne, Int.add_assoc, Int.add_sub_cancel, Int.sub_zero, Int.sub_self, S_49_0, S_49_1, S_49_2, S_49_5, S_49_8, S_49_9, S_49_10, S_49_11, S_49_13, S_49_16, S_49_19, S_49_20, S_49_23, S_49_25, S_49_28, S_49_29, S_49_32, S_49_34, S_49_37, S_49_38, S_49_41, S_49_42, S_49_43, S_49_43_r, S_49_44, S_49_47, S_49_48, S_49_49, S_49_52, S_49_53, S_49_54, S_49_57, S_49_60, S_49_61, S_49_62, S_49_63, S_49_66, S_49_67, S_49_68, S_49_71, S_49_74, S_49_77, S_49_78]))
    exact k0

/-- BOTH {or BOTH}: both loops stand in method 45 -/
noncomputable def pAnd (K : Int → Int) (sub : Int → prr) : Int → prr := pLoop K (fun k => k = 12) sub (fun _ => 406)
theorem c_both {a : Int} {v2 : Value} (hnn : 0 ≤ n) (hk : isLw k) (hs : cOK X B n T k w 47 h [.int (iI 0), .float 0] sub) (g : Gd (kd B n) wb true sub) (q2 : okO v2 = true) (R : RD s k B n T j) (hw : s 16006 0 = w) (hm : s (1000 * k + 4) 0 = m) (hmj : 0 ≤ m ∧ m ≤ j)
    (k1 : (pAnd (kd B n) sub j).1 = 0 → ∀ s', FW k [16005] s s' → s' 16005 0 = (pAnd (kd B n) sub j).2.1 → s' (1000 * k + 4) 0 = m + (pAnd (kd B n) sub j).2.2.length → seg (s' (k + 1)) m ((pAnd (kd B n) sub j).2.2.map enc) → (∀ z, z < m → s' (k + 1) z = s (k + 1) z) → ∀ i, Wp (d + h + 1) 45 72 [.ref 16, .int (iI a), .int (iI i)] [] (hp X s') Q)
    (k0 : ¬ (pAnd (kd B n) sub j).1 = 0 → ∀ s', FW k [16001, 16002, 16005] s s' → s' 16001 0 = (pAnd (kd B n) sub j).1 → s' 16002 0 = pla B n (pAnd (kd B n) sub j).2.1 → Q (some (.int (iI 0))) (hp X s')) : Wp (d + h + 1) 45 9 [.ref 16, .int (iI a), v2] [] (hp X s) Q := by
  have hn := R.1.1
  have hj := R.2.2.2
  have hT := R.1.2.2.1
  have loop : ∀ (f : Nat) (i j1 : Int) (c : opl) (s1 : sg), (f : Int) = 300 - i → 0 ≤ i → (i ≤ j1 ∧ j < j1) → FW k [16005] s s1 → RD s1 k B n T j1 → s1 16006 0 = w → s1 (1000 * k + 4) 0 = m + c.length → (c.length : Int) ≤ j1 - j → seg (s1 (k + 1)) m (c.map enc) → (∀ z, z < m → s1 (k + 1) z = s (k + 1) z) → pLp (kd B n) (fun k => k = 12) sub (fun _ => 406) f j1 c = pAnd (kd B n) sub j → Wp (d + h + 1) 45 21 [.ref 16, .int (iI a), .int (iI i)] [] (hp X s1) Q := by
    intro f
    induction f with
    | zero =>
      intro i j1 c s1 hf hi hij fr R1 hw1 hl1 hc1 hs1 ho1 hr
      have e : pAnd (kd B n) sub j = (0, j1, c) := hr.symm
      have k1 := k1 (by rw [e]) s1 fr (by rw [e]; exact R1.2.2.1) (by rw [e]; exact hl1) (by rw [e]; exact hs1) ho1
      have ei : i = 300 := by omega
      subst ei
      rw [S_45_21]
      repeat' (first | (with_reducible refine Br_i ?_ ?_ <;> (intro hbr; first | exact False.elim hbr | skip)) | (with_reducible refine Wl_i ?_) | (simp (disch := first | omega | exact okF _ | exact okI _ | exact okR _ | assumption | exact okN) only [u_at, iI_zero, iI_31, iI_add, iI_sub, iI_mul, iI_neg, ↓iI_max, ↓iI_min, iI_div, emod_f, iI_lt, iI_le, iI_inj, iI_toInt, ↓ii01, ↓ii11, ↓bI_b, bI_0, bI_1, Kt_s, Kt_n, cat0, cat1, cat2, cat3, cat4, rfV, Nat.reduceAdd, Nat.reduceMul, Nat.reduceEqDiff, Int.reduceAdd, Int.reduceSub, Int.reduceMul, Int.reduceNeg, Int.reduceLT, Int.reduceLE, Int.reduceEq, Int.reduceDiv, ↓reduceIte, ↓ite_ww, ↓ite_wi, Br_n, Br_TW, Br_FW, Br_FP, Br_FB, nn_p, and_true, true_and, and_self, true_or, or_true, not_true_eq_false, not_false_eq_true, le_T, le_F, lt_T, lt_F, eq_T, eq_F, Int.add_zero, Int.zero_add, Int.one_mul, Int.mul_one, up_eq, up_ne, Int.add_assoc, Int.add_sub_cancel, Int.sub_zero, Int.sub_self, S_45_0, S_45_1, S_45_2, S_45_3, S_45_6, S_45_9, S_45_10, S_45_11, S_45_14, S_45_17, S_45_18, S_45_19, S_45_20, S_45_22, S_45_25, S_45_28, S_45_29, S_45_32, S_45_34, S_45_37, S_45_38, S_45_38_r, S_45_39, S_45_42, S_45_43, S_45_44, S_45_47, S_45_48, S_45_49, S_45_52, S_45_55, S_45_56, S_45_57, S_45_58, S_45_61, S_45_63, S_45_66, S_45_69, S_45_73, S_45_76, S_45_77, S_45_80, S_45_82, S_45_85, S_45_86, S_45_89, S_45_91, S_45_94, S_45_95, S_45_96, S_45_97, S_45_97_r, S_45_98, S_45_101, S_45_102, S_45_103, S_45_106, S_45_109, S_45_112, S_45_113, S_45_114, S_45_117]))
      exact k1 _
    | succ f ih =>
      intro i j1 c s1 hf hi hij fr R1 hw1 hl1 hc1 hs1 ho1 hr
      have hj1 := R1.2.2.2
      have kr := kd_r (B := B) (n := n) (j := j1) hnn hj1.1
      have krr := kr.1
      rw [pLp] at hr
      by_cases c1 : kd B n j1 = 12
      · rw [if_pos c1] at hr
        have nT : ¬ j1 = T := fun q => by rw [q, hT] at c1; omega
        have R2 : RD (u s1 16005 (fun _ => j1 + 1)) k B n T (j1 + 1) := RD_fr hk ((FW.rf s1).u rfl) R1 rfl (by omega)
        have e5 := R1.2.2.1
        have gg := g (j1 + 1) (by omega)
        have gT := Gd_T g (by omega) hT (show j1 + 1 ≤ T by omega)
        have ct : Wp (d + h) 47 0 [.ref 16, .int (iI 0), .float 0] [] (hp X (u s1 16005 (fun _ => j1 + 1))) (Kt (d + h + 1) 45 52 [.ref 16, .int (iI a), .int (iI i)] [] Q) := by
          refine hs d _ _ (j1 + 1) (m + c.length) R2 hw1 (by rw [u_ne (by unfold isLw at hk; omega)]; exact hl1) (by omega) (fun z s' f' h5 h6 h7 h8 => ?_) (fun z s' f' h5 h6 => ?_)
          · rw [if_pos z] at hr
            obtain ⟨g5, g6, _⟩ := gg.2.1 z
            have u1 : (u s1 16005 (fun _ => j1 + 1)) (k + 1) = s1 (k + 1) := u_ne (by unfold isLw at hk; omega)
            rw [u1] at h8
            have RQ : s' 16900 0 = (k : Int) := by rw [f'.at hk 16900 rfl (by omega)]; exact R1.2.1
            have gk : gS (hp X s') k = (0, 1) := (H_Lw hk).1
            have w16 : s' 16006 0 = w := by rw [f'.at hk 16006 rfl (by omega)]; exact hw1
            have fr2 : FW k [16005] s s' := (fr.tr ((FW.rf s1).u rfl)).tr f'
            have wr := fun (d : Nat) (Q : Option Value → aH → Prop) => c_write (d := d) (X := X) (Q := Q) (s := s') (c := -12) hk h6 (by omega)
            have R3 : RD s' k B n T (sub (j1 + 1)).2.1 := RD_fr hk (f'.up rfl) R2 h5 (by omega)
            have o5 : lwr s' k (m + c.length + (sub (j1 + 1)).2.2.length) (-12) 16005 0 = (sub (j1 + 1)).2.1 := by rw [lwr_o hk (by omega)]; exact h5
            have R4 : RD (lwr s' k (m + c.length + (sub (j1 + 1)).2.2.length) (-12)) k B n T (sub (j1 + 1)).2.1 := RD_fr hk ((FW.rf s').wr) R3 o5 (by omega)
            have en : enc (406, 0) = -12 := by decide
            have ih := ih (i + 1) (sub (j1 + 1)).2.1 (c ++ (sub (j1 + 1)).2.2 ++ [(406, 0)]) _ (by omega) (by omega) (by omega) fr2.wr R4 (by rw [lwr_o hk (by omega)]; exact w16) (by rw [lwr_len]; simp; omega) (by simp; omega) (by
              rw [lwr_at, List.map_append, List.map_append]
              have s12 : seg (s' (k + 1)) m (c.map enc ++ (sub (j1 + 1)).2.2.map enc) := seg_two hs1 (fun z hz => h8 z (by simpa using hz)) (by simpa using h7)
              have q := seg_snoc (g := up (s' (k + 1)) (m + c.length + (sub (j1 + 1)).2.2.length) (-12)) (x := -12) s12 (fun z hz => up_ne (by simp at hz; omega)) (up_eq (by simp; omega))
              show seg _ m (c.map enc ++ (sub (j1 + 1)).2.2.map enc ++ [enc (406, 0)])
              rw [en]
              exact q) (fun z hz => by
              rw [lwr_at, up_ne (by omega), h8 z (by omega)]
              exact ho1 z hz) hr
            rw [Int.add_assoc m] at ih
            repeat' (first | (with_reducible refine Br_i ?_ ?_ <;> (intro hbr; first | exact False.elim hbr | skip)) | (with_reducible refine Wl_i ?_) | (simp (disch := first | omega | exact okF _ | exact okI _ | exact okR _ | assumption | exact okN) only [u_at, iI_zero, iI_31, iI_add, iI_sub, iI_mul, iI_neg, ↓iI_max, ↓iI_min, iI_div, emod_f, iI_lt, iI_le, iI_inj, iI_toInt, ↓ii01, ↓ii11, ↓bI_b, bI_0, bI_1, Kt_s, Kt_n, cat0, cat1, cat2, cat3, cat4, rfV, Nat.reduceAdd, Nat.reduceMul, Nat.reduceEqDiff, Int.reduceAdd, Int.reduceSub, Int.reduceMul, Int.reduceNeg, Int.reduceLT, Int.reduceLE, Int.reduceEq, Int.reduceDiv, ↓reduceIte, ↓ite_ww, ↓ite_wi, Br_n, Br_TW, Br_FW, Br_FP, Br_FB, nn_p, and_true, true_and, and_self, true_or, or_true, not_true_eq_false, not_false_eq_true, le_T, le_F, lt_T, lt_F, eq_T, eq_F, Int.add_zero, Int.zero_add, Int.one_mul, Int.mul_one, up_eq, up_ne, Int.add_assoc, Int.add_sub_cancel, Int.sub_zero, Int.sub_self, S_45_0, S_45_1, S_45_2, S_45_3, S_45_6, S_45_9, S_45_10, S_45_11, S_45_14, S_45_17, S_45_18, S_45_19, S_45_20, S_45_22, S_45_25, S_45_28, S_45_29, S_45_32, S_45_34, S_45_37, S_45_38, S_45_38_r, S_45_39, S_45_42, S_45_43, S_45_44, S_45_47, S_45_48, S_45_49, S_45_52, S_45_55, S_45_56, S_45_57, S_45_58, S_45_61, S_45_63, S_45_66, S_45_69, S_45_72, S_45_73, S_45_76, S_45_77, S_45_80, S_45_82, S_45_85, S_45_86, S_45_89, S_45_91, S_45_94, S_45_95, S_45_96, S_45_97, S_45_97_r, S_45_98, S_45_101, S_45_102, S_45_103, S_45_106, S_45_109, S_45_112, S_45_113, S_45_114, S_45_117, H_16, rq_n, RQ, gk, wr]))
            exact ih
          · rw [if_neg z] at hr
            have k0 := k0 (by rw [← hr]; exact z) s' ((fr.tr ((FW.rf s1).u rfl)).up rfl |>.tr f') (by rw [← hr]; exact h5) (by rw [← hr]; exact h6)
            repeat' (first | (with_reducible refine Br_i ?_ ?_ <;> (intro hbr; first | exact False.elim hbr | skip)) | (with_reducible refine Wl_i ?_) | (simp (disch := first | omega | exact okF _ | exact okI _ | exact okR _ | assumption | exact okN) only [u_at, iI_zero, iI_31, iI_add, iI_sub, iI_mul, iI_neg, ↓iI_max, ↓iI_min, iI_div, emod_f, iI_lt, iI_le, iI_inj, iI_toInt, ↓ii01, ↓ii11, ↓bI_b, bI_0, bI_1, Kt_s, Kt_n, cat0, cat1, cat2, cat3, cat4, rfV, Nat.reduceAdd, Nat.reduceMul, Nat.reduceEqDiff, Int.reduceAdd, Int.reduceSub, Int.reduceMul, Int.reduceNeg, Int.reduceLT, Int.reduceLE, Int.reduceEq, Int.reduceDiv, ↓reduceIte, ↓ite_ww, ↓ite_wi, Br_n, Br_TW, Br_FW, Br_FP, Br_FB, nn_p, and_true, true_and, and_self, true_or, or_true, not_true_eq_false, not_false_eq_true, le_T, le_F, lt_T, lt_F, eq_T, eq_F, Int.add_zero, Int.zero_add, Int.one_mul, Int.mul_one, up_eq, up_ne, Int.add_assoc, Int.add_sub_cancel, Int.sub_zero, Int.sub_self, S_45_0, S_45_1, S_45_2, S_45_3, S_45_6, S_45_9, S_45_10, S_45_11, S_45_14, S_45_17, S_45_18, S_45_19, S_45_20, S_45_22, S_45_25, S_45_28, S_45_29, S_45_32, S_45_34, S_45_37, S_45_38, S_45_38_r, S_45_39, S_45_42, S_45_43, S_45_44, S_45_47, S_45_48, S_45_49, S_45_52, S_45_55, S_45_56, S_45_57, S_45_58, S_45_61, S_45_63, S_45_66, S_45_69, S_45_72, S_45_73, S_45_76, S_45_77, S_45_80, S_45_82, S_45_85, S_45_86, S_45_89, S_45_91, S_45_94, S_45_95, S_45_96, S_45_97, S_45_97_r, S_45_98, S_45_101, S_45_102, S_45_103, S_45_106, S_45_109, S_45_112, S_45_113, S_45_114, S_45_117]))
            exact k0
        rw [S_45_21]
        repeat' (first | (with_reducible refine Br_i ?_ ?_ <;> (intro hbr; first | exact False.elim hbr | skip)) | (with_reducible refine Wl_i ?_) | (simp (disch := first | omega | exact okF _ | exact okI _ | exact okR _ | assumption | exact okN) only [u_at, iI_zero, iI_31, iI_add, iI_sub, iI_mul, iI_neg, ↓iI_max, ↓iI_min, iI_div, emod_f, iI_lt, iI_le, iI_inj, iI_toInt, ↓ii01, ↓ii11, ↓bI_b, bI_0, bI_1, Kt_s, Kt_n, cat0, cat1, cat2, cat3, cat4, rfV, Nat.reduceAdd, Nat.reduceMul, Nat.reduceEqDiff, Int.reduceAdd, Int.reduceSub, Int.reduceMul, Int.reduceNeg, Int.reduceLT, Int.reduceLE, Int.reduceEq, Int.reduceDiv, ↓reduceIte, ↓ite_ww, ↓ite_wi, Br_n, Br_TW, Br_FW, Br_FP, Br_FB, nn_p, and_true, true_and, and_self, true_or, or_true, not_true_eq_false, not_false_eq_true, le_T, le_F, lt_T, lt_F, eq_T, eq_F, Int.add_zero, Int.zero_add, Int.one_mul, Int.mul_one, up_eq, up_ne, Int.add_assoc, Int.add_sub_cancel, Int.sub_zero, Int.sub_self, S_45_0, S_45_1, S_45_2, S_45_3, S_45_6, S_45_9, S_45_10, S_45_11, S_45_14, S_45_17, S_45_18, S_45_19, S_45_20, S_45_22, S_45_25, S_45_28, S_45_29, S_45_32, S_45_34, S_45_37, S_45_38, S_45_38_r, S_45_39, S_45_42, S_45_43, S_45_44, S_45_47, S_45_48, S_45_49, S_45_52, S_45_55, S_45_56, S_45_57, S_45_58, S_45_61, S_45_63, S_45_66, S_45_69, S_45_72, S_45_73, S_45_76, S_45_77, S_45_80, S_45_82, S_45_85, S_45_86, S_45_89, S_45_91, S_45_94, S_45_95, S_45_96, S_45_97, S_45_97_r, S_45_98, S_45_101, S_45_102, S_45_103, S_45_106, S_45_109, S_45_112, S_45_113, S_45_114, S_45_117, H_16, c_kind R1, c1, e5]))
        exact ct
      · rw [if_neg c1] at hr
        have e : pAnd (kd B n) sub j = (0, j1, c) := hr.symm
        have k1 := k1 (by rw [e]) s1 fr (by rw [e]; exact R1.2.2.1) (by rw [e]; exact hl1) (by rw [e]; exact hs1) ho1
        rw [S_45_21]
        repeat' (first | (with_reducible refine Br_i ?_ ?_ <;> (intro hbr; first | exact False.elim hbr | skip)) | (with_reducible refine Wl_i ?_) | (simp (disch := first | omega | exact okF _ | exact okI _ | exact okR _ | assumption | exact okN) only [u_at, iI_zero, iI_31, iI_add, iI_sub, iI_mul, iI_neg, ↓iI_max, ↓iI_min, iI_div, emod_f, iI_lt, iI_le, iI_inj, iI_toInt, ↓ii01, ↓ii11, ↓bI_b, bI_0, bI_1, Kt_s, Kt_n, cat0, cat1, cat2, cat3, cat4, rfV, Nat.reduceAdd, Nat.reduceMul, Nat.reduceEqDiff, Int.reduceAdd, Int.reduceSub, Int.reduceMul, Int.reduceNeg, Int.reduceLT, Int.reduceLE, Int.reduceEq, Int.reduceDiv, ↓reduceIte, ↓ite_ww, ↓ite_wi, Br_n, Br_TW, Br_FW, Br_FP, Br_FB, nn_p, and_true, true_and, and_self, true_or, or_true, not_true_eq_false, not_false_eq_true, le_T, le_F, lt_T, lt_F, eq_T, eq_F, Int.add_zero, Int.zero_add, Int.one_mul, Int.mul_one, up_eq, up_ne, Int.add_assoc, Int.add_sub_cancel, Int.sub_zero, Int.sub_self, S_45_0, S_45_1, S_45_2, S_45_3, S_45_6, S_45_9, S_45_10, S_45_11, S_45_14, S_45_17, S_45_18, S_45_19, S_45_20, S_45_22, S_45_25, S_45_28, S_45_29, S_45_32, S_45_34, S_45_37, S_45_38, S_45_38_r, S_45_39, S_45_42, S_45_43, S_45_44, S_45_47, S_45_48, S_45_49, S_45_52, S_45_55, S_45_56, S_45_57, S_45_58, S_45_61, S_45_63, S_45_66, S_45_69, S_45_73, S_45_76, S_45_77, S_45_80, S_45_82, S_45_85, S_45_86, S_45_89, S_45_91, S_45_94, S_45_95, S_45_96, S_45_97, S_45_97_r, S_45_98, S_45_101, S_45_102, S_45_103, S_45_106, S_45_109, S_45_112, S_45_113, S_45_114, S_45_117, H_16, c_kind R1, c1]))
        exact k1 _
  repeat' (first | (with_reducible refine Br_i ?_ ?_ <;> (intro hbr; first | exact False.elim hbr | skip)) | (with_reducible refine Wl_i ?_) | (simp (disch := first | omega | exact okF _ | exact okI _ | exact okR _ | assumption | exact okN) only [u_at, iI_zero, iI_31, iI_add, iI_sub, iI_mul, iI_neg, ↓iI_max, ↓iI_min, iI_div, emod_f, iI_lt, iI_le, iI_inj, iI_toInt, ↓ii01, ↓ii11, ↓bI_b, bI_0, bI_1, Kt_s, Kt_n, cat0, cat1, cat2, cat3, cat4, rfV, Nat.reduceAdd, Nat.reduceMul, Nat.reduceEqDiff, Int.reduceAdd, Int.reduceSub, Int.reduceMul, Int.reduceNeg, Int.reduceLT, Int.reduceLE, Int.reduceEq, Int.reduceDiv, ↓reduceIte, ↓ite_ww, ↓ite_wi, Br_n, Br_TW, Br_FW, Br_FP, Br_FB, nn_p, and_true, true_and, and_self, true_or, or_true, not_true_eq_false, not_false_eq_true, le_T, le_F, lt_T, lt_F, eq_T, eq_F, Int.add_zero, Int.zero_add, Int.one_mul, Int.mul_one, up_eq, up_ne, Int.add_assoc, Int.add_sub_cancel, Int.sub_zero, Int.sub_self, S_45_0, S_45_1, S_45_2, S_45_3, S_45_6, S_45_9, S_45_10, S_45_11, S_45_14, S_45_17, S_45_18, S_45_19, S_45_20, S_45_22, S_45_25, S_45_28, S_45_29, S_45_32, S_45_34, S_45_37, S_45_38, S_45_38_r, S_45_39, S_45_42, S_45_43, S_45_44, S_45_47, S_45_48, S_45_49, S_45_52, S_45_55, S_45_56, S_45_57, S_45_58, S_45_61, S_45_63, S_45_66, S_45_69, S_45_72, S_45_73, S_45_76, S_45_77, S_45_80, S_45_82, S_45_85, S_45_86, S_45_89, S_45_91, S_45_94, S_45_95, S_45_96, S_45_97, S_45_97_r, S_45_98, S_45_101, S_45_102, S_45_103, S_45_106, S_45_109, S_45_112, S_45_113, S_45_114, S_45_117, H_16]))
  refine hs d s _ j m R hw hm hmj (fun z s' f' h5 h6 h7 h8 => ?_) (fun z s' f' h5 h6 => ?_)
  · have gg := g j hj.1
    obtain ⟨g5, g6, _⟩ := gg.2.1 z
    have gT := Gd_T g hj.1 hT hj.2
    have ep : pAnd (kd B n) sub j = pLp (kd B n) (fun k => k = 12) sub (fun _ => 406) 300 (sub j).2.1 (sub j).2.2 := if_pos z
    have l0 := loop 300 0 (sub j).2.1 (sub j).2.2 s' (by omega) (by omega) (by omega) f' (RD_fr hk (f'.up rfl) R h5 (by omega)) (by rw [f'.at hk 16006 rfl (by omega)]; exact hw) h6 g6 h7 h8 ep.symm
    repeat' (first | (with_reducible refine Br_i ?_ ?_ <;> (intro hbr; first | exact False.elim hbr | skip)) | (with_reducible refine Wl_i ?_) | (simp (disch := first | omega | exact okF _ | exact okI _ | exact okR _ | assumption | exact okN) only [u_at, iI_zero, iI_31, iI_add, iI_sub, iI_mul, iI_neg, ↓iI_max, ↓iI_min, iI_div, emod_f, iI_lt, iI_le, iI_inj, iI_toInt, ↓ii01, ↓ii11, ↓bI_b, bI_0, bI_1, Kt_s, Kt_n, cat0, cat1, cat2, cat3, cat4, rfV, Nat.reduceAdd, Nat.reduceMul, Nat.reduceEqDiff, Int.reduceAdd, Int.reduceSub, Int.reduceMul, Int.reduceNeg, Int.reduceLT, Int.reduceLE, Int.reduceEq, Int.reduceDiv, ↓reduceIte, ↓ite_ww, ↓ite_wi, Br_n, Br_TW, Br_FW, Br_FP, Br_FB, nn_p, and_true, true_and, and_self, true_or, or_true, not_true_eq_false, not_false_eq_true, le_T, le_F, lt_T, lt_F, eq_T, eq_F, Int.add_zero, Int.zero_add, Int.one_mul, Int.mul_one, up_eq, up_ne, Int.add_assoc, Int.add_sub_cancel, Int.sub_zero, Int.sub_self, S_45_0, S_45_1, S_45_2, S_45_3, S_45_6, S_45_9, S_45_10, S_45_11, S_45_14, S_45_17, S_45_18, S_45_19, S_45_20, S_45_22, S_45_25, S_45_28, S_45_29, S_45_32, S_45_34, S_45_37, S_45_38, S_45_38_r, S_45_39, S_45_42, S_45_43, S_45_44, S_45_47, S_45_48, S_45_49, S_45_52, S_45_55, S_45_56, S_45_57, S_45_58, S_45_61, S_45_63, S_45_66, S_45_69, S_45_72, S_45_73, S_45_76, S_45_77, S_45_80, S_45_82, S_45_85, S_45_86, S_45_89, S_45_91, S_45_94, S_45_95, S_45_96, S_45_97, S_45_97_r, S_45_98, S_45_101, S_45_102, S_45_103, S_45_106, S_45_109, S_45_112, S_45_113, S_45_114, S_45_117]))
    exact l0
  · have ep : pAnd (kd B n) sub j = ((sub j).1, (sub j).2.1, []) := if_neg z
    have k0 := k0 (by rw [ep]; exact z) s' f' (by rw [ep]; exact h5) (by rw [ep]; exact h6)
    repeat' (first | (with_reducible refine Br_i ?_ ?_ <;> (intro hbr; first | exact False.elim hbr | skip)) | (with_reducible refine Wl_i ?_) | (simp (disch := first | omega | exact okF _ | exact okI _ | exact okR _ | assumption | exact okN) only [u_at, iI_zero, iI_31, iI_add, iI_sub, iI_mul, iI_neg, ↓iI_max, ↓iI_min, iI_div, emod_f, iI_lt, iI_le, iI_inj, iI_toInt, ↓ii01, ↓ii11, ↓bI_b, bI_0, bI_1, Kt_s, Kt_n, cat0, cat1, cat2, cat3, cat4, rfV, Nat.reduceAdd, Nat.reduceMul, Nat.reduceEqDiff, Int.reduceAdd, Int.reduceSub, Int.reduceMul, Int.reduceNeg, Int.reduceLT, Int.reduceLE, Int.reduceEq, Int.reduceDiv, ↓reduceIte, ↓ite_ww, ↓ite_wi, Br_n, Br_TW, Br_FW, Br_FP, Br_FB, nn_p, and_true, true_and, and_self, true_or, or_true, not_true_eq_false, not_false_eq_true, le_T, le_F, lt_T, lt_F, eq_T, eq_F, Int.add_zero, Int.zero_add, Int.one_mul, Int.mul_one, up_eq, up_ne, Int.add_assoc, Int.add_sub_cancel, Int.sub_zero, Int.sub_self, S_45_0, S_45_1, S_45_2, S_45_3, S_45_6, S_45_9, S_45_10, S_45_11, S_45_14, S_45_17, S_45_18, S_45_19, S_45_20, S_45_22, S_45_25, S_45_28, S_45_29, S_45_32, S_45_34, S_45_37, S_45_38, S_45_38_r, S_45_39, S_45_42, S_45_43, S_45_44, S_45_47, S_45_48, S_45_49, S_45_52, S_45_55, S_45_56, S_45_57, S_45_58, S_45_61, S_45_63, S_45_66, S_45_69, S_45_72, S_45_73, S_45_76, S_45_77, S_45_80, S_45_82, S_45_85, S_45_86, S_45_89, S_45_91, S_45_94, S_45_95, S_45_96, S_45_97, S_45_97_r, S_45_98, S_45_101, S_45_102, S_45_103, S_45_106, S_45_109, S_45_112, S_45_113, S_45_114, S_45_117]))
    exact k0
theorem c_loop_45 (hnn : 0 ≤ n) (hk : isLw k) (hs : cOK X B n T k w 47 h [.int (iI 0), .float 0] sub) (g : Gd (kd B n) wb true sub) (gb : Gd (kd B n) wb true (pAnd (kd B n) sub)) : cOK X B n T k w 45 (h + 1) [.float 0, .float 0] (pLoop (kd B n) (fun k => k = 11) (pAnd (kd B n) sub) (fun _ => 407)) := by
  intro d s Q j m R hw hm hmj k1 k0
  have hn := R.1.1
  have hj := R.2.2.2
  have hT := R.1.2.2.1
  have cb := fun (i : Int) (v2 : Value) (s : sg) (Q : Option Value → aH → Prop) (j m : Int) (q2 : okO v2 = true) (R : RD s k B n T j) => c_both (d := d) (X := X) (s := s) (Q := Q) (j := j) (m := m) (a := i) hnn hk hs g q2 R
  generalize pAnd (kd B n) sub = both at *
  have loop : ∀ (f : Nat) (i j1 : Int) (c tl : opl) (s1 : sg), (f : Int) = 300 - i → 0 ≤ i → j + 2 * i ≤ j1 → FW k [16005] s s1 → RD s1 k B n T j1 → s1 16006 0 = w → s1 (1000 * k + 4) 0 = m + c.length → (c.length : Int) + tl.length ≤ j1 - j → seg (s1 (k + 1)) m (c.map enc) → (∀ z, z < m → s1 (k + 1) z = s (k + 1) z) → ((i = 0 ∧ tl = []) ∨ (0 < i ∧ tl = [(407, 0)])) → (if (both j1).1 = 0 then pLp (kd B n) (fun k => k = 11) both (fun _ => 407) f (both j1).2.1 (c ++ (both j1).2.2 ++ tl) else ((both j1).1, (both j1).2.1, [])) = pLoop (kd B n) (fun k => k = 11) both (fun _ => 407) j → ∀ v2, okO v2 = true → Wp (d + h + 1) 45 2 [.ref 16, .int (iI i), v2] [] (hp X s1) Q := by
    intro f
    induction f with
    | zero =>
      intro i j1 c tl s1 hf hi hij fr R1 hw1 hl1 hc1 hs1 ho1 ht hr v2 q2
      have hj1 := R1.2.2.2
      exfalso
      omega
    | succ f ih =>
      intro i j1 c tl s1 hf hi hij fr R1 hw1 hl1 hc1 hs1 ho1 ht hr v2 q2
      have hj1 := R1.2.2.2
      have gg := gb j1 hj1.1
      have gT := Gd_T gb hj1.1 hT hj1.2
      rw [S_45_2]
      repeat' (first | (with_reducible refine Br_i ?_ ?_ <;> (intro hbr; first | exact False.elim hbr | skip)) | (with_reducible refine Wl_i ?_) | (simp (disch := first | omega | exact okF _ | exact okI _ | exact okR _ | assumption | exact okN) only [u_at, iI_zero, iI_31, iI_add, iI_sub, iI_mul, iI_neg, ↓iI_max, ↓iI_min, iI_div, emod_f, iI_lt, iI_le, iI_inj, iI_toInt, ↓ii01, ↓ii11, ↓bI_b, bI_0, bI_1, Kt_s, Kt_n, cat0, cat1, cat2, cat3, cat4, rfV, Nat.reduceAdd, Nat.reduceMul, Nat.reduceEqDiff, Int.reduceAdd, Int.reduceSub, Int.reduceMul, Int.reduceNeg, Int.reduceLT, Int.reduceLE, Int.reduceEq, Int.reduceDiv, ↓reduceIte, ↓ite_ww, ↓ite_wi, Br_n, Br_TW, Br_FW, Br_FP, Br_FB, nn_p, and_true, true_and, and_self, true_or, or_true, not_true_eq_false, not_false_eq_true, le_T, le_F, lt_T, lt_F, eq_T, eq_F, Int.add_zero, Int.zero_add, Int.one_mul, Int.mul_one, up_eq, up_ne, Int.add_assoc, Int.add_sub_cancel, Int.sub_zero, Int.sub_self, S_45_0, S_45_1, S_45_3, S_45_6, S_45_10, S_45_11, S_45_14, S_45_17, S_45_18, S_45_19, S_45_20, S_45_21, S_45_22, S_45_25, S_45_28, S_45_29, S_45_32, S_45_34, S_45_37, S_45_38, S_45_38_r, S_45_39, S_45_42, S_45_43, S_45_44, S_45_47, S_45_48, S_45_49, S_45_52, S_45_55, S_45_56, S_45_57, S_45_58, S_45_61, S_45_63, S_45_66, S_45_69, S_45_72, S_45_73, S_45_76, S_45_77, S_45_80, S_45_82, S_45_85, S_45_86, S_45_89, S_45_91, S_45_94, S_45_95, S_45_96, S_45_97, S_45_97_r, S_45_98, S_45_101, S_45_102, S_45_103, S_45_106, S_45_109, S_45_112, S_45_113, S_45_114, S_45_117, H_16]))
      refine cb i v2 s1 Q j1 (m + c.length) q2 R1 hw1 hl1 (by omega) (fun z s' f' h5 h6 h7 h8 x => ?_) (fun z s' f' h5 h6 => ?_)
      · rw [if_pos z] at hr
        obtain ⟨g5, g6, _⟩ := gg.2.1 z
        generalize both j1 = r at *
        have RQ : s' 16900 0 = (k : Int) := by rw [f'.at hk 16900 rfl (by omega)]; exact R1.2.1
        have gk : gS (hp X s') k = (0, 1) := (H_Lw hk).1
        have w16 : s' 16006 0 = w := by rw [f'.at hk 16006 rfl (by omega)]; exact hw1
        have fr2 : FW k [16005] s s' := fr.tr f'
        have R3 : RD s' k B n T r.2.1 := RD_fr hk (f'.up rfl) R1 h5 (by omega)
        have s12 : seg (s' (k + 1)) m (c.map enc ++ r.2.2.map enc) := seg_two hs1 (fun z hz => h8 z (by simpa using hz)) (by simpa using h7)
        have o8 : ∀ z, z < m → s' (k + 1) z = s (k + 1) z := fun z hz => (h8 z (by omega)).trans (ho1 z hz)
        have key : ∀ s2, FW k [16005] s s2 → RD s2 k B n T r.2.1 → s2 16006 0 = w → s2 (1000 * k + 4) 0 = m + (c ++ r.2.2 ++ tl).length → seg (s2 (k + 1)) m ((c ++ r.2.2 ++ tl).map enc) → (∀ z, z < m → s2 (k + 1) z = s (k + 1) z) → Wp (d + h + 1) 45 85 [.ref 16, .int (iI i), .int (iI x)] [] (hp X s2) Q := by
          intro s2 fr3 R4 w2 l2 sg2 o2
          rw [pLp] at hr
          have kr := (kd_r (B := B) (n := n) (j := r.2.1) hnn R4.2.2.2.1).1
          by_cases c11 : kd B n r.2.1 = 11
          · rw [if_pos c11] at hr
            have nT : ¬ r.2.1 = T := fun q => by rw [q, hT] at c11; omega
            have e5 := R4.2.2.1
            have R5 : RD (u s2 16005 (fun _ => r.2.1 + 1)) k B n T (r.2.1 + 1) := RD_fr hk ((FW.rf s2).u rfl) R4 rfl (by omega)
            have ih := ih (i + 1) (r.2.1 + 1) (c ++ r.2.2 ++ tl) [(407, 0)] (u s2 16005 (fun _ => r.2.1 + 1)) (by omega) (by omega) (by omega) (fr3.u rfl) R5 (by rw [u_ne (by omega)]; exact w2) (by rw [u_ne (by unfold isLw at hk; omega)]; exact l2) (by simp; omega) (by rw [u_ne (by unfold isLw at hk; omega)]; exact sg2) (fun z hz => by rw [u_ne (by unfold isLw at hk; omega)]; exact o2 z hz) (Or.inr ⟨by omega, rfl⟩) hr (.int (iI x)) rfl
            repeat' (first | (with_reducible refine Br_i ?_ ?_ <;> (intro hbr; first | exact False.elim hbr | skip)) | (with_reducible refine Wl_i ?_) | (simp (disch := first | omega | exact okF _ | exact okI _ | exact okR _ | assumption | exact okN) only [u_at, iI_zero, iI_31, iI_add, iI_sub, iI_mul, iI_neg, ↓iI_max, ↓iI_min, iI_div, emod_f, iI_lt, iI_le, iI_inj, iI_toInt, ↓ii01, ↓ii11, ↓bI_b, bI_0, bI_1, Kt_s, Kt_n, cat0, cat1, cat2, cat3, cat4, rfV, Nat.reduceAdd, Nat.reduceMul, Nat.reduceEqDiff, Int.reduceAdd, Int.reduceSub, Int.reduceMul, Int.reduceNeg, Int.reduceLT, Int.reduceLE, Int.reduceEq, Int.reduceDiv, ↓reduceIte, ↓ite_ww, ↓ite_wi, Br_n, Br_TW, Br_FW, Br_FP, Br_FB, nn_p, and_true, true_and, and_self, true_or, or_true, not_true_eq_false, not_false_eq_true, le_T, le_F, lt_T, lt_F, eq_T, eq_F, Int.add_zero, Int.zero_add, Int.one_mul, Int.mul_one, up_eq, up_ne, Int.add_assoc, Int.add_sub_cancel, Int.sub_zero, Int.sub_self, S_45_0, S_45_1, S_45_3, S_45_6, S_45_9, S_45_10, S_45_11, S_45_14, S_45_17, S_45_18, S_45_19, S_45_20, S_45_21, S_45_22, S_45_25, S_45_28, S_45_29, S_45_32, S_45_34, S_45_37, S_45_38, S_45_38_r, S_45_39, S_45_42, S_45_43, S_45_44, S_45_47, S_45_48, S_45_49, S_45_52, S_45_55, S_45_56, S_45_57, S_45_58, S_45_61, S_45_63, S_45_66, S_45_69, S_45_72, S_45_73, S_45_76, S_45_77, S_45_80, S_45_82, S_45_85, S_45_86, S_45_89, S_45_91, S_45_94, S_45_95, S_45_96, S_45_97, S_45_97_r, S_45_98, S_45_101, S_45_102, S_45_103, S_45_106, S_45_109, S_45_112, S_45_113, S_45_114, S_45_117, H_16, c_kind R4, c11, e5]))
            exact ih
          · rw [if_neg c11] at hr
            have e : pLoop (kd B n) (fun k => k = 11) both (fun _ => 407) j = (0, r.2.1, c ++ r.2.2 ++ tl) := hr.symm
            have k1 := k1 (by rw [e]) s2 fr3 (by rw [e]; exact R4.2.2.1) (by rw [e]; exact l2) (by rw [e]; exact sg2) o2
            repeat' (first | (with_reducible refine Br_i ?_ ?_ <;> (intro hbr; first | exact False.elim hbr | skip)) | (with_reducible refine Wl_i ?_) | (simp (disch := first | omega | exact okF _ | exact okI _ | exact okR _ | assumption | exact okN) only [u_at, iI_zero, iI_31, iI_add, iI_sub, iI_mul, iI_neg, ↓iI_max, ↓iI_min, iI_div, emod_f, iI_lt, iI_le, iI_inj, iI_toInt, ↓ii01, ↓ii11, ↓bI_b, bI_0, bI_1, Kt_s, Kt_n, cat0, cat1, cat2, cat3, cat4, rfV, Nat.reduceAdd, Nat.reduceMul, Nat.reduceEqDiff, Int.reduceAdd, Int.reduceSub, Int.reduceMul, Int.reduceNeg, Int.reduceLT, Int.reduceLE, Int.reduceEq, Int.reduceDiv, ↓reduceIte, ↓ite_ww, ↓ite_wi, Br_n, Br_TW, Br_FW, Br_FP, Br_FB, nn_p, and_true, true_and, and_self, true_or, or_true, not_true_eq_false, not_false_eq_true, le_T, le_F, lt_T, lt_F, eq_T, eq_F, Int.add_zero, Int.zero_add, Int.one_mul, Int.mul_one, up_eq, up_ne, Int.add_assoc, Int.add_sub_cancel, Int.sub_zero, Int.sub_self, S_45_0, S_45_1, S_45_3, S_45_6, S_45_9, S_45_10, S_45_11, S_45_14, S_45_17, S_45_18, S_45_19, S_45_20, S_45_21, S_45_22, S_45_25, S_45_28, S_45_29, S_45_32, S_45_34, S_45_37, S_45_38, S_45_38_r, S_45_39, S_45_42, S_45_43, S_45_44, S_45_47, S_45_48, S_45_49, S_45_52, S_45_55, S_45_56, S_45_57, S_45_58, S_45_61, S_45_63, S_45_66, S_45_69, S_45_72, S_45_73, S_45_76, S_45_77, S_45_80, S_45_82, S_45_85, S_45_86, S_45_89, S_45_91, S_45_94, S_45_95, S_45_96, S_45_97, S_45_97_r, S_45_98, S_45_101, S_45_102, S_45_103, S_45_106, S_45_109, S_45_112, S_45_113, S_45_114, S_45_117, H_16, c_kind R4, c11]))
            exact k1
        rcases ht with ⟨i0, t0⟩ | ⟨i0, t0⟩
        · subst t0
          subst i0
          have key := key s' fr2 R3 w16 (by rw [h6]; simp; omega) (by simpa using s12) o8
          repeat' (first | (with_reducible refine Br_i ?_ ?_ <;> (intro hbr; first | exact False.elim hbr | skip)) | (with_reducible refine Wl_i ?_) | (simp (disch := first | omega | exact okF _ | exact okI _ | exact okR _ | assumption | exact okN) only [u_at, iI_zero, iI_31, iI_add, iI_sub, iI_mul, iI_neg, ↓iI_max, ↓iI_min, iI_div, emod_f, iI_lt, iI_le, iI_inj, iI_toInt, ↓ii01, ↓ii11, ↓bI_b, bI_0, bI_1, Kt_s, Kt_n, cat0, cat1, cat2, cat3, cat4, rfV, Nat.reduceAdd, Nat.reduceMul, Nat.reduceEqDiff, Int.reduceAdd, Int.reduceSub, Int.reduceMul, Int.reduceNeg, Int.reduceLT, Int.reduceLE, Int.reduceEq, Int.reduceDiv, ↓reduceIte, ↓ite_ww, ↓ite_wi, Br_n, Br_TW, Br_FW, Br_FP, Br_FB, nn_p, and_true, true_and, and_self, true_or, or_true, not_true_eq_false, not_false_eq_true, le_T, le_F, lt_T, lt_F, eq_T, eq_F, Int.add_zero, Int.zero_add, Int.one_mul, Int.mul_one, up_eq, up_ne, Int.add_assoc, Int.add_sub_cancel, Int.sub_zero, Int.sub_self, S_45_0, S_45_1, S_45_3, S_45_6, S_45_9, S_45_10, S_45_11, S_45_14, S_45_17, S_45_18, S_45_19, S_45_20, S_45_21, S_45_22, S_45_25, S_45_28, S_45_29, S_45_32, S_45_34, S_45_37, S_45_38, S_45_38_r, S_45_39, S_45_42, S_45_43, S_45_44, S_45_47, S_45_48, S_45_49, S_45_52, S_45_55, S_45_56, S_45_57, S_45_58, S_45_61, S_45_63, S_45_66, S_45_69, S_45_72, S_45_73, S_45_76, S_45_77, S_45_80, S_45_82, S_45_86, S_45_89, S_45_91, S_45_94, S_45_95, S_45_96, S_45_97, S_45_97_r, S_45_98, S_45_101, S_45_102, S_45_103, S_45_106, S_45_109, S_45_112, S_45_113, S_45_114, S_45_117, H_16]))
          exact key
        · subst t0
          simp only [List.length_cons, List.length_nil] at hc1
          have wr := fun (d : Nat) (Q : Option Value → aH → Prop) => c_write (d := d) (X := X) (Q := Q) (s := s') (c := -11) hk h6 (by omega)
          have o5 : lwr s' k (m + c.length + r.2.2.length) (-11) 16005 0 = r.2.1 := by rw [lwr_o hk (by omega)]; exact h5
          have R4 : RD (lwr s' k (m + c.length + r.2.2.length) (-11)) k B n T r.2.1 := RD_fr hk ((FW.rf s').wr) R3 o5 (by omega)
          have en : enc (407, 0) = -11 := by decide
          have key := key (lwr s' k (m + c.length + r.2.2.length) (-11)) fr2.wr R4 (by rw [lwr_o hk (by omega)]; exact w16) (by rw [lwr_len]; simp; omega) (by
            rw [lwr_at, List.map_append, List.map_append]
            have q := seg_snoc (g := up (s' (k + 1)) (m + c.length + r.2.2.length) (-11)) (x := -11) s12 (fun z hz => up_ne (by simp at hz; omega)) (up_eq (by simp; omega))
            show seg _ m (c.map enc ++ r.2.2.map enc ++ [enc (407, 0)])
            rw [en]
            exact q) (fun z hz => by
            rw [lwr_at, up_ne (by omega)]
            exact o8 z hz)
          rw [Int.add_assoc m] at key
          repeat' (first | (with_reducible refine Br_i ?_ ?_ <;> (intro hbr; first | exact False.elim hbr | skip)) | (with_reducible refine Wl_i ?_) | (simp (disch := first | omega | exact okF _ | exact okI _ | exact okR _ | assumption | exact okN) only [u_at, iI_zero, iI_31, iI_add, iI_sub, iI_mul, iI_neg, ↓iI_max, ↓iI_min, iI_div, emod_f, iI_lt, iI_le, iI_inj, iI_toInt, ↓ii01, ↓ii11, ↓bI_b, bI_0, bI_1, Kt_s, Kt_n, cat0, cat1, cat2, cat3, cat4, rfV, Nat.reduceAdd, Nat.reduceMul, Nat.reduceEqDiff, Int.reduceAdd, Int.reduceSub, Int.reduceMul, Int.reduceNeg, Int.reduceLT, Int.reduceLE, Int.reduceEq, Int.reduceDiv, ↓reduceIte, ↓ite_ww, ↓ite_wi, Br_n, Br_TW, Br_FW, Br_FP, Br_FB, nn_p, and_true, true_and, and_self, true_or, or_true, not_true_eq_false, not_false_eq_true, le_T, le_F, lt_T, lt_F, eq_T, eq_F, Int.add_zero, Int.zero_add, Int.one_mul, Int.mul_one, up_eq, up_ne, Int.add_assoc, Int.add_sub_cancel, Int.sub_zero, Int.sub_self, S_45_0, S_45_1, S_45_3, S_45_6, S_45_9, S_45_10, S_45_11, S_45_14, S_45_17, S_45_18, S_45_19, S_45_20, S_45_21, S_45_22, S_45_25, S_45_28, S_45_29, S_45_32, S_45_34, S_45_37, S_45_38, S_45_38_r, S_45_39, S_45_42, S_45_43, S_45_44, S_45_47, S_45_48, S_45_49, S_45_52, S_45_55, S_45_56, S_45_57, S_45_58, S_45_61, S_45_63, S_45_66, S_45_69, S_45_72, S_45_73, S_45_76, S_45_77, S_45_80, S_45_82, S_45_86, S_45_89, S_45_91, S_45_94, S_45_95, S_45_96, S_45_97, S_45_97_r, S_45_98, S_45_101, S_45_102, S_45_103, S_45_106, S_45_109, S_45_112, S_45_113, S_45_114, S_45_117, H_16, rq_n, RQ, gk, wr]))
          exact key
      · rw [if_neg z] at hr
        exact k0 (by rw [← hr]; exact z) s' ((fr.up rfl).tr f') (by rw [← hr]; exact h5) (by rw [← hr]; exact h6)
  rw [← Nat.add_assoc]
  have l0 := loop 300 0 j [] [] s (by omega) (by omega) (by omega) (FW.rf s) R hw (by simpa using hm) (by simp) trivial (fun _ _ => rfl) (Or.inl ⟨rfl, rfl⟩) (by rw [List.nil_append, List.append_nil]; rfl) (.float 0) rfl
  repeat' (first | (with_reducible refine Br_i ?_ ?_ <;> (intro hbr; first | exact False.elim hbr | skip)) | (with_reducible refine Wl_i ?_) | (simp (disch := first | omega | exact okF _ | exact okI _ | exact okR _ | assumption | exact okN) only [u_at, iI_zero, iI_31, iI_add, iI_sub, iI_mul, iI_neg, ↓iI_max, ↓iI_min, iI_div, emod_f, iI_lt, iI_le, iI_inj, iI_toInt, ↓ii01, ↓ii11, ↓bI_b, bI_0, bI_1, Kt_s, Kt_n, cat0, cat1, cat2, cat3, cat4, rfV, Nat.reduceAdd, Nat.reduceMul, Nat.reduceEqDiff, Int.reduceAdd, Int.reduceSub, Int.reduceMul, Int.reduceNeg, Int.reduceLT, Int.reduceLE, Int.reduceEq, Int.reduceDiv, ↓reduceIte, ↓ite_ww, ↓ite_wi, Br_n, Br_TW, Br_FW, Br_FP, Br_FB, nn_p, and_true, true_and, and_self, true_or, or_true, not_true_eq_false, not_false_eq_true, le_T, le_F, lt_T, lt_F, eq_T, eq_F, Int.add_zero, Int.zero_add, Int.one_mul, Int.mul_one, up_eq, up_ne, Int.add_assoc, Int.add_sub_cancel, Int.sub_zero, Int.sub_self, S_45_0, S_45_1, S_45_3, S_45_6, S_45_9, S_45_10, S_45_11, S_45_14, S_45_17, S_45_18, S_45_19, S_45_20, S_45_21, S_45_22, S_45_25, S_45_28, S_45_29, S_45_32, S_45_34, S_45_37, S_45_38, S_45_38_r, S_45_39, S_45_42, S_45_43, S_45_44, S_45_47, S_45_48, S_45_49, S_45_52, S_45_55, S_45_56, S_45_57, S_45_58, S_45_61, S_45_63, S_45_66, S_45_69, S_45_72, S_45_73, S_45_76, S_45_77, S_45_80, S_45_82, S_45_85, S_45_86, S_45_89, S_45_91, S_45_94, S_45_95, S_45_96, S_45_97, S_45_97_r, S_45_98, S_45_101, S_45_102, S_45_103, S_45_106, S_45_109, S_45_112, S_45_113, S_45_114, S_45_117, H_16]))
  exact l0

end CP
