/-! THE IMAGE, and back to it -/
def cpF (f g : Int → Int) (N : Int) : Int → Int := fun z => if 0 ≤ z ∧ z < N then f z else g z
/-- all that the class copies, from q to q2 -/
def cpR (q q2 : Nat) (s s2 : sg) : Prop := (s2 (49004 + 1000 * q2) 0 = s (49004 + 1000 * q) 0 ∧ s2 (51004 + 1000 * q2) 0 = s (51004 + 1000 * q) 0 ∧ s2 (53004 + 1000 * q2) 0 = s (53004 + 1000 * q) 0 ∧ s2 (55004 + 1000 * q2) 0 = s (55004 + 1000 * q) 0 ∧ s2 (57004 + 1000 * q2) 0 = s (57004 + 1000 * q) 0 ∧ s2 (48007 + 1000 * q2) 0 = s (48007 + 1000 * q) 0 ∧ s2 (48008 + 1000 * q2) 0 = s (48008 + 1000 * q) 0) ∧ (∀ z, 0 ≤ z → z < 40 → s2 (50 + q2) z = s (50 + q) z) ∧ (∀ z, 0 ≤ z → z < 24 → s2 (52 + q2) z = s (52 + q) z) ∧ (∀ z, 0 ≤ z → z < 40 → s2 (54 + q2) z = s (54 + q) z) ∧ (∀ z, 0 ≤ z → z < 264 → s2 (56 + q2) z = s (56 + q) z) ∧ (∀ z, 0 ≤ z → z < 120 → s2 (58 + q2) z = s (58 + q) z) ∧ (∀ z, 0 ≤ z → z < 4 → s2 (59 + q2) z = s (59 + q) z) ∧ (∀ z, 0 ≤ z → z < 22 → s2 (61 + q2) z = s (61 + q) z) ∧ (∀ z, 0 ≤ z → z < 6 → s2 (62 + q2) z = s (62 + q) z ∧ s2 (63 + q2) z = s (63 + q) z) ∧ ∀ z, 0 ≤ z → z < 10 → s2 (64 + q2) z = s (64 + q) z ∧ s2 (65 + q2) z = s (65 + q) z
section IM
variable {d : Nat} {X : hX} {s s1 s2 : sg} {Q : Option Value → aH → Prop} {A B I : Int → Int} {L : Int → lawT} {k k2 N : Nat} {q q2 : Nat} {K : List Nat}
theorem cpF_i {f g : Int → Int} {N z : Int} (h : 0 ≤ z) (h2 : z < N) : cpF f g N z = f z := if_pos ⟨h, h2⟩
theorem pC_hp (h : isO k = false ∧ ¬ k = 0 ∧ ¬ k = 2 ∧ ¬ k = 4 ∧ k < 156 ∧ ¬ k = 140) (h2 : isO k2 = false ∧ ¬ k2 = 0 ∧ ¬ k2 = 2 ∧ ¬ k2 = 4 ∧ k2 < 156 ∧ ¬ k2 = 140) (hN : N < 1000) : pC (hp X s) k (ix (iI 0)) k2 (ix (iI 0)) (ix (iI (N : Int))) = hp X (u s k2 (cpF (s k) (s k2) N)) := by
  have e0 : ix (iI 0) = 0 := by rw [ix_iI (by omega)]; rfl
  have eN : ix (iI (N : Int)) = N := by rw [ix_iI (by omega)]; rfl
  have arr : ∀ (s : sg) (k b : Nat), (isO k = false ∧ ¬ k = 0 ∧ ¬ k = 2 ∧ ¬ k = 4 ∧ k < 156 ∧ ¬ k = 140) → hM X s k b = iI (s k b) := by
    intro s k b ⟨o, c0, c2, c4, q⟩
    unfold hM
    rw [if_neg c0, if_neg c2, if_neg c4, o, if_neg (show ¬ (false = true) by decide), if_pos q]
  refine hp_u (M := fun a b => if a = k2 ∧ ix (iI 0) ≤ b ∧ b < ix (iI 0) + ix (iI (N : Int)) then hM X s k (ix (iI 0) + (b - ix (iI 0))) else hM X s a b) ?_ (by omega)
  rw [e0, eN]
  funext a b
  by_cases c : a = k2
  · subst c
    rw [arr _ _ _ h2, u_eq]
    by_cases e : b < N
    · rw [if_pos ⟨rfl, by omega, by omega⟩, arr _ _ _ h, cpF_i (by omega) (by omega), show 0 + (b - 0) = b by omega]
    · rw [if_neg (fun q => e (by omega)), arr _ _ _ h2]
      unfold cpF
      rw [if_neg (by omega)]
  · rw [if_neg (fun x => c x.1), hM_u]
    refine ⟨?_, ?_⟩
    · intro ⟨x, y, _⟩
      have := isO_5 x
      omega
    · intro _ e
      exact c e.symm
theorem j_copy (h : isO k = false ∧ ¬ k = 0 ∧ ¬ k = 2 ∧ ¬ k = 4 ∧ k < 156 ∧ ¬ k = 140) (h2 : isO k2 = false ∧ ¬ k2 = 0 ∧ ¬ k2 = 2 ∧ ¬ k2 = 4 ∧ k2 < 156 ∧ ¬ k2 = 140) (hS : ∀ s, gS (hp X s) k = (1, N)) (hS2 : ∀ s, gS (hp X s) k2 = (1, N)) (hN : N < 1000) : Wp d 87 0 [.ref k, .ref k2] [] (hp X s) Q = Q none (hp X (u s k2 (cpF (s k) (s k2) N))) := by
  have ok := (ok_1 (h := hp X s) (k := k) (n := N) (hS s) (by omega)).2.2
  have ok2 := (ok_1 (h := hp X s) (k := k2) (n := N) (hS2 s) (by omega)).2.2
  have g1 := hS s
  have g2 := hS2 s
  have pc := pC_hp (X := X) (s := s) (k := k) (k2 := k2) h h2 hN
  have cp : cpOK (hp X s) k (iI 0) k2 (iI 0) (iI (N : Int)) [] = True := by
    apply eq_true
    unfold cpOK
    rw [g1, g2, iI_toInt (by omega), iI_toInt (by omega)]
    refine ⟨⟨rfl, rfl, by rw [cat0]; trivial⟩, by omega, ?_, ?_⟩
    · show (0 : Int) + N ≤ N
      omega
    · show (0 : Int) + N ≤ N
      omega
  simp (disch := first | omega | exact okF _ | exact okI _ | exact okR _ | assumption | exact okN) only [S_87_0, S_87_1, S_87_2, S_87_3, S_87_4, S_87_5, S_87_6, S_87_7, S_87_8, S_87_11, S_87_14, u_at, iI_zero, iI_31, iI_add, iI_sub, iI_mul, iI_neg, ↓iI_max, ↓iI_min, iI_div, emod_f, iI_lt, iI_le, iI_inj, iI_toInt, ↓ii01, ↓ii11, ↓bI_b, bI_0, bI_1, Kt_s, Kt_n, cat0, cat1, cat2, cat3, cat4, rfV, Nat.reduceAdd, Nat.reduceMul, Nat.reduceEqDiff, Int.reduceAdd, Int.reduceSub, Int.reduceMul, Int.reduceNeg, Int.reduceLT, Int.reduceLE, Int.reduceEq, Int.reduceDiv, ↓reduceIte, ↓ite_ww, ↓ite_wi, Br_n, Br_TW, Br_FW, Br_FP, Br_FB, nn_p, and_true, true_and, and_self, true_or, or_true, not_true_eq_false, not_false_eq_true, le_T, le_F, lt_T, lt_F, eq_T, eq_F, Int.add_zero, Int.zero_add, Int.one_mul, Int.mul_one, up_eq, up_ne, Int.add_assoc, Int.add_sub_cancel, Int.sub_zero, Int.sub_self, ok, ok2, g1, g2, Int.min_self, Int.max_self, cp, pc]
theorem c_tb_49 : Wp (d + 1) 86 0 [.ref 67, .ref 49] [] (hp X s) Q = Q none (hp X (u (u s 67004 (fun _ => s 49004 0)) 68 (cpF (s 50) (s 68) (40 : Int)))) := by
  have e := fun (d : Nat) (Q : Option Value → aH → Prop) (s : sg) => j_copy (d := d) (X := X) (Q := Q) (s := s) (k := 50) (k2 := 68) (N := 40) ⟨rfl, by decide⟩ ⟨rfl, by decide⟩ (fun _ => rfl) (fun _ => rfl) (by decide)
  have e2 : ((40 : Nat) : Int) = 40 := rfl
  simp only [e2] at e
  simp (disch := first | omega | exact okF _ | exact okI _ | exact okR _ | assumption | exact okN) only [S_86_0, S_86_1, S_86_2, S_86_5, S_86_8, S_86_9, S_86_12, S_86_13, S_86_16, S_86_19, u_at, iI_zero, iI_31, iI_add, iI_sub, iI_mul, iI_neg, ↓iI_max, ↓iI_min, iI_div, emod_f, iI_lt, iI_le, iI_inj, iI_toInt, ↓ii01, ↓ii11, ↓bI_b, bI_0, bI_1, Kt_s, Kt_n, cat0, cat1, cat2, cat3, cat4, rfV, Nat.reduceAdd, Nat.reduceMul, Nat.reduceEqDiff, Int.reduceAdd, Int.reduceSub, Int.reduceMul, Int.reduceNeg, Int.reduceLT, Int.reduceLE, Int.reduceEq, Int.reduceDiv, ↓reduceIte, ↓ite_ww, ↓ite_wi, Br_n, Br_TW, Br_FW, Br_FP, Br_FB, nn_p, and_true, true_and, and_self, true_or, or_true, not_true_eq_false, not_false_eq_true, le_T, le_F, lt_T, lt_F, eq_T, eq_F, Int.add_zero, Int.zero_add, Int.one_mul, Int.mul_one, up_eq, up_ne, Int.add_assoc, Int.add_sub_cancel, Int.sub_zero, Int.sub_self, H_49, H_67, e, u_at]
theorem c_tk_49 : Wp (d + 1) 86 0 [.ref 49, .ref 67] [] (hp X s) Q = Q none (hp X (u (u s 49004 (fun _ => s 67004 0)) 50 (cpF (s 68) (s 50) (40 : Int)))) := by
  have e := fun (d : Nat) (Q : Option Value → aH → Prop) (s : sg) => j_copy (d := d) (X := X) (Q := Q) (s := s) (k := 68) (k2 := 50) (N := 40) ⟨rfl, by decide⟩ ⟨rfl, by decide⟩ (fun _ => rfl) (fun _ => rfl) (by decide)
  have e2 : ((40 : Nat) : Int) = 40 := rfl
  simp only [e2] at e
  simp (disch := first | omega | exact okF _ | exact okI _ | exact okR _ | assumption | exact okN) only [S_86_0, S_86_1, S_86_2, S_86_5, S_86_8, S_86_9, S_86_12, S_86_13, S_86_16, S_86_19, u_at, iI_zero, iI_31, iI_add, iI_sub, iI_mul, iI_neg, ↓iI_max, ↓iI_min, iI_div, emod_f, iI_lt, iI_le, iI_inj, iI_toInt, ↓ii01, ↓ii11, ↓bI_b, bI_0, bI_1, Kt_s, Kt_n, cat0, cat1, cat2, cat3, cat4, rfV, Nat.reduceAdd, Nat.reduceMul, Nat.reduceEqDiff, Int.reduceAdd, Int.reduceSub, Int.reduceMul, Int.reduceNeg, Int.reduceLT, Int.reduceLE, Int.reduceEq, Int.reduceDiv, ↓reduceIte, ↓ite_ww, ↓ite_wi, Br_n, Br_TW, Br_FW, Br_FP, Br_FB, nn_p, and_true, true_and, and_self, true_or, or_true, not_true_eq_false, not_false_eq_true, le_T, le_F, lt_T, lt_F, eq_T, eq_F, Int.add_zero, Int.zero_add, Int.one_mul, Int.mul_one, up_eq, up_ne, Int.add_assoc, Int.add_sub_cancel, Int.sub_zero, Int.sub_self, H_49, H_67, e, u_at]
theorem c_tb_51 : Wp (d + 1) 86 0 [.ref 69, .ref 51] [] (hp X s) Q = Q none (hp X (u (u s 69004 (fun _ => s 51004 0)) 70 (cpF (s 52) (s 70) (24 : Int)))) := by
  have e := fun (d : Nat) (Q : Option Value → aH → Prop) (s : sg) => j_copy (d := d) (X := X) (Q := Q) (s := s) (k := 52) (k2 := 70) (N := 24) ⟨rfl, by decide⟩ ⟨rfl, by decide⟩ (fun _ => rfl) (fun _ => rfl) (by decide)
  have e2 : ((24 : Nat) : Int) = 24 := rfl
  simp only [e2] at e
  simp (disch := first | omega | exact okF _ | exact okI _ | exact okR _ | assumption | exact okN) only [S_86_0, S_86_1, S_86_2, S_86_5, S_86_8, S_86_9, S_86_12, S_86_13, S_86_16, S_86_19, u_at, iI_zero, iI_31, iI_add, iI_sub, iI_mul, iI_neg, ↓iI_max, ↓iI_min, iI_div, emod_f, iI_lt, iI_le, iI_inj, iI_toInt, ↓ii01, ↓ii11, ↓bI_b, bI_0, bI_1, Kt_s, Kt_n, cat0, cat1, cat2, cat3, cat4, rfV, Nat.reduceAdd, Nat.reduceMul, Nat.reduceEqDiff, Int.reduceAdd, Int.reduceSub, Int.reduceMul, Int.reduceNeg, Int.reduceLT, Int.reduceLE, Int.reduceEq, Int.reduceDiv, ↓reduceIte, ↓ite_ww, ↓ite_wi, Br_n, Br_TW, Br_FW, Br_FP, Br_FB, nn_p, and_true, true_and, and_self, true_or, or_true, not_true_eq_false, not_false_eq_true, le_T, le_F, lt_T, lt_F, eq_T, eq_F, Int.add_zero, Int.zero_add, Int.one_mul, Int.mul_one, up_eq, up_ne, Int.add_assoc, Int.add_sub_cancel, Int.sub_zero, Int.sub_self, H_51, H_69, e, u_at]
theorem c_tk_51 : Wp (d + 1) 86 0 [.ref 51, .ref 69] [] (hp X s) Q = Q none (hp X (u (u s 51004 (fun _ => s 69004 0)) 52 (cpF (s 70) (s 52) (24 : Int)))) := by
  have e := fun (d : Nat) (Q : Option Value → aH → Prop) (s : sg) => j_copy (d := d) (X := X) (Q := Q) (s := s) (k := 70) (k2 := 52) (N := 24) ⟨rfl, by decide⟩ ⟨rfl, by decide⟩ (fun _ => rfl) (fun _ => rfl) (by decide)
  have e2 : ((24 : Nat) : Int) = 24 := rfl
  simp only [e2] at e
  simp (disch := first | omega | exact okF _ | exact okI _ | exact okR _ | assumption | exact okN) only [S_86_0, S_86_1, S_86_2, S_86_5, S_86_8, S_86_9, S_86_12, S_86_13, S_86_16, S_86_19, u_at, iI_zero, iI_31, iI_add, iI_sub, iI_mul, iI_neg, ↓iI_max, ↓iI_min, iI_div, emod_f, iI_lt, iI_le, iI_inj, iI_toInt, ↓ii01, ↓ii11, ↓bI_b, bI_0, bI_1, Kt_s, Kt_n, cat0, cat1, cat2, cat3, cat4, rfV, Nat.reduceAdd, Nat.reduceMul, Nat.reduceEqDiff, Int.reduceAdd, Int.reduceSub, Int.reduceMul, Int.reduceNeg, Int.reduceLT, Int.reduceLE, Int.reduceEq, Int.reduceDiv, ↓reduceIte, ↓ite_ww, ↓ite_wi, Br_n, Br_TW, Br_FW, Br_FP, Br_FB, nn_p, and_true, true_and, and_self, true_or, or_true, not_true_eq_false, not_false_eq_true, le_T, le_F, lt_T, lt_F, eq_T, eq_F, Int.add_zero, Int.zero_add, Int.one_mul, Int.mul_one, up_eq, up_ne, Int.add_assoc, Int.add_sub_cancel, Int.sub_zero, Int.sub_self, H_51, H_69, e, u_at]
theorem c_tb_53 : Wp (d + 1) 86 0 [.ref 71, .ref 53] [] (hp X s) Q = Q none (hp X (u (u s 71004 (fun _ => s 53004 0)) 72 (cpF (s 54) (s 72) (40 : Int)))) := by
  have e := fun (d : Nat) (Q : Option Value → aH → Prop) (s : sg) => j_copy (d := d) (X := X) (Q := Q) (s := s) (k := 54) (k2 := 72) (N := 40) ⟨rfl, by decide⟩ ⟨rfl, by decide⟩ (fun _ => rfl) (fun _ => rfl) (by decide)
  have e2 : ((40 : Nat) : Int) = 40 := rfl
  simp only [e2] at e
  simp (disch := first | omega | exact okF _ | exact okI _ | exact okR _ | assumption | exact okN) only [S_86_0, S_86_1, S_86_2, S_86_5, S_86_8, S_86_9, S_86_12, S_86_13, S_86_16, S_86_19, u_at, iI_zero, iI_31, iI_add, iI_sub, iI_mul, iI_neg, ↓iI_max, ↓iI_min, iI_div, emod_f, iI_lt, iI_le, iI_inj, iI_toInt, ↓ii01, ↓ii11, ↓bI_b, bI_0, bI_1, Kt_s, Kt_n, cat0, cat1, cat2, cat3, cat4, rfV, Nat.reduceAdd, Nat.reduceMul, Nat.reduceEqDiff, Int.reduceAdd, Int.reduceSub, Int.reduceMul, Int.reduceNeg, Int.reduceLT, Int.reduceLE, Int.reduceEq, Int.reduceDiv, ↓reduceIte, ↓ite_ww, ↓ite_wi, Br_n, Br_TW, Br_FW, Br_FP, Br_FB, nn_p, and_true, true_and, and_self, true_or, or_true, not_true_eq_false, not_false_eq_true, le_T, le_F, lt_T, lt_F, eq_T, eq_F, Int.add_zero, Int.zero_add, Int.one_mul, Int.mul_one, up_eq, up_ne, Int.add_assoc, Int.add_sub_cancel, Int.sub_zero, Int.sub_self, H_53, H_71, e, u_at]
theorem c_tk_53 : Wp (d + 1) 86 0 [.ref 53, .ref 71] [] (hp X s) Q = Q none (hp X (u (u s 53004 (fun _ => s 71004 0)) 54 (cpF (s 72) (s 54) (40 : Int)))) := by
  have e := fun (d : Nat) (Q : Option Value → aH → Prop) (s : sg) => j_copy (d := d) (X := X) (Q := Q) (s := s) (k := 72) (k2 := 54) (N := 40) ⟨rfl, by decide⟩ ⟨rfl, by decide⟩ (fun _ => rfl) (fun _ => rfl) (by decide)
  have e2 : ((40 : Nat) : Int) = 40 := rfl
  simp only [e2] at e
  simp (disch := first | omega | exact okF _ | exact okI _ | exact okR _ | assumption | exact okN) only [S_86_0, S_86_1, S_86_2, S_86_5, S_86_8, S_86_9, S_86_12, S_86_13, S_86_16, S_86_19, u_at, iI_zero, iI_31, iI_add, iI_sub, iI_mul, iI_neg, ↓iI_max, ↓iI_min, iI_div, emod_f, iI_lt, iI_le, iI_inj, iI_toInt, ↓ii01, ↓ii11, ↓bI_b, bI_0, bI_1, Kt_s, Kt_n, cat0, cat1, cat2, cat3, cat4, rfV, Nat.reduceAdd, Nat.reduceMul, Nat.reduceEqDiff, Int.reduceAdd, Int.reduceSub, Int.reduceMul, Int.reduceNeg, Int.reduceLT, Int.reduceLE, Int.reduceEq, Int.reduceDiv, ↓reduceIte, ↓ite_ww, ↓ite_wi, Br_n, Br_TW, Br_FW, Br_FP, Br_FB, nn_p, and_true, true_and, and_self, true_or, or_true, not_true_eq_false, not_false_eq_true, le_T, le_F, lt_T, lt_F, eq_T, eq_F, Int.add_zero, Int.zero_add, Int.one_mul, Int.mul_one, up_eq, up_ne, Int.add_assoc, Int.add_sub_cancel, Int.sub_zero, Int.sub_self, H_53, H_71, e, u_at]
theorem c_tb_55 : Wp (d + 1) 86 0 [.ref 73, .ref 55] [] (hp X s) Q = Q none (hp X (u (u s 73004 (fun _ => s 55004 0)) 74 (cpF (s 56) (s 74) (264 : Int)))) := by
  have e := fun (d : Nat) (Q : Option Value → aH → Prop) (s : sg) => j_copy (d := d) (X := X) (Q := Q) (s := s) (k := 56) (k2 := 74) (N := 264) ⟨rfl, by decide⟩ ⟨rfl, by decide⟩ (fun _ => rfl) (fun _ => rfl) (by decide)
  have e2 : ((264 : Nat) : Int) = 264 := rfl
  simp only [e2] at e
  simp (disch := first | omega | exact okF _ | exact okI _ | exact okR _ | assumption | exact okN) only [S_86_0, S_86_1, S_86_2, S_86_5, S_86_8, S_86_9, S_86_12, S_86_13, S_86_16, S_86_19, u_at, iI_zero, iI_31, iI_add, iI_sub, iI_mul, iI_neg, ↓iI_max, ↓iI_min, iI_div, emod_f, iI_lt, iI_le, iI_inj, iI_toInt, ↓ii01, ↓ii11, ↓bI_b, bI_0, bI_1, Kt_s, Kt_n, cat0, cat1, cat2, cat3, cat4, rfV, Nat.reduceAdd, Nat.reduceMul, Nat.reduceEqDiff, Int.reduceAdd, Int.reduceSub, Int.reduceMul, Int.reduceNeg, Int.reduceLT, Int.reduceLE, Int.reduceEq, Int.reduceDiv, ↓reduceIte, ↓ite_ww, ↓ite_wi, Br_n, Br_TW, Br_FW, Br_FP, Br_FB, nn_p, and_true, true_and, and_self, true_or, or_true, not_true_eq_false, not_false_eq_true, le_T, le_F, lt_T, lt_F, eq_T, eq_F, Int.add_zero, Int.zero_add, Int.one_mul, Int.mul_one, up_eq, up_ne, Int.add_assoc, Int.add_sub_cancel, Int.sub_zero, Int.sub_self, H_55, H_73, e, u_at]
theorem c_tk_55 : Wp (d + 1) 86 0 [.ref 55, .ref 73] [] (hp X s) Q = Q none (hp X (u (u s 55004 (fun _ => s 73004 0)) 56 (cpF (s 74) (s 56) (264 : Int)))) := by
  have e := fun (d : Nat) (Q : Option Value → aH → Prop) (s : sg) => j_copy (d := d) (X := X) (Q := Q) (s := s) (k := 74) (k2 := 56) (N := 264) ⟨rfl, by decide⟩ ⟨rfl, by decide⟩ (fun _ => rfl) (fun _ => rfl) (by decide)
  have e2 : ((264 : Nat) : Int) = 264 := rfl
  simp only [e2] at e
  simp (disch := first | omega | exact okF _ | exact okI _ | exact okR _ | assumption | exact okN) only [S_86_0, S_86_1, S_86_2, S_86_5, S_86_8, S_86_9, S_86_12, S_86_13, S_86_16, S_86_19, u_at, iI_zero, iI_31, iI_add, iI_sub, iI_mul, iI_neg, ↓iI_max, ↓iI_min, iI_div, emod_f, iI_lt, iI_le, iI_inj, iI_toInt, ↓ii01, ↓ii11, ↓bI_b, bI_0, bI_1, Kt_s, Kt_n, cat0, cat1, cat2, cat3, cat4, rfV, Nat.reduceAdd, Nat.reduceMul, Nat.reduceEqDiff, Int.reduceAdd, Int.reduceSub, Int.reduceMul, Int.reduceNeg, Int.reduceLT, Int.reduceLE, Int.reduceEq, Int.reduceDiv, ↓reduceIte, ↓ite_ww, ↓ite_wi, Br_n, Br_TW, Br_FW, Br_FP, Br_FB, nn_p, and_true, true_and, and_self, true_or, or_true, not_true_eq_false, not_false_eq_true, le_T, le_F, lt_T, lt_F, eq_T, eq_F, Int.add_zero, Int.zero_add, Int.one_mul, Int.mul_one, up_eq, up_ne, Int.add_assoc, Int.add_sub_cancel, Int.sub_zero, Int.sub_self, H_55, H_73, e, u_at]
theorem c_tb_57 : Wp (d + 1) 86 0 [.ref 75, .ref 57] [] (hp X s) Q = Q none (hp X (u (u s 75004 (fun _ => s 57004 0)) 76 (cpF (s 58) (s 76) (120 : Int)))) := by
  have e := fun (d : Nat) (Q : Option Value → aH → Prop) (s : sg) => j_copy (d := d) (X := X) (Q := Q) (s := s) (k := 58) (k2 := 76) (N := 120) ⟨rfl, by decide⟩ ⟨rfl, by decide⟩ (fun _ => rfl) (fun _ => rfl) (by decide)
  have e2 : ((120 : Nat) : Int) = 120 := rfl
  simp only [e2] at e
  simp (disch := first | omega | exact okF _ | exact okI _ | exact okR _ | assumption | exact okN) only [S_86_0, S_86_1, S_86_2, S_86_5, S_86_8, S_86_9, S_86_12, S_86_13, S_86_16, S_86_19, u_at, iI_zero, iI_31, iI_add, iI_sub, iI_mul, iI_neg, ↓iI_max, ↓iI_min, iI_div, emod_f, iI_lt, iI_le, iI_inj, iI_toInt, ↓ii01, ↓ii11, ↓bI_b, bI_0, bI_1, Kt_s, Kt_n, cat0, cat1, cat2, cat3, cat4, rfV, Nat.reduceAdd, Nat.reduceMul, Nat.reduceEqDiff, Int.reduceAdd, Int.reduceSub, Int.reduceMul, Int.reduceNeg, Int.reduceLT, Int.reduceLE, Int.reduceEq, Int.reduceDiv, ↓reduceIte, ↓ite_ww, ↓ite_wi, Br_n, Br_TW, Br_FW, Br_FP, Br_FB, nn_p, and_true, true_and, and_self, true_or, or_true, not_true_eq_false, not_false_eq_true, le_T, le_F, lt_T, lt_F, eq_T, eq_F, Int.add_zero, Int.zero_add, Int.one_mul, Int.mul_one, up_eq, up_ne, Int.add_assoc, Int.add_sub_cancel, Int.sub_zero, Int.sub_self, H_57, H_75, e, u_at]
theorem c_tk_57 : Wp (d + 1) 86 0 [.ref 57, .ref 75] [] (hp X s) Q = Q none (hp X (u (u s 57004 (fun _ => s 75004 0)) 58 (cpF (s 76) (s 58) (120 : Int)))) := by
  have e := fun (d : Nat) (Q : Option Value → aH → Prop) (s : sg) => j_copy (d := d) (X := X) (Q := Q) (s := s) (k := 76) (k2 := 58) (N := 120) ⟨rfl, by decide⟩ ⟨rfl, by decide⟩ (fun _ => rfl) (fun _ => rfl) (by decide)
  have e2 : ((120 : Nat) : Int) = 120 := rfl
  simp only [e2] at e
  simp (disch := first | omega | exact okF _ | exact okI _ | exact okR _ | assumption | exact okN) only [S_86_0, S_86_1, S_86_2, S_86_5, S_86_8, S_86_9, S_86_12, S_86_13, S_86_16, S_86_19, u_at, iI_zero, iI_31, iI_add, iI_sub, iI_mul, iI_neg, ↓iI_max, ↓iI_min, iI_div, emod_f, iI_lt, iI_le, iI_inj, iI_toInt, ↓ii01, ↓ii11, ↓bI_b, bI_0, bI_1, Kt_s, Kt_n, cat0, cat1, cat2, cat3, cat4, rfV, Nat.reduceAdd, Nat.reduceMul, Nat.reduceEqDiff, Int.reduceAdd, Int.reduceSub, Int.reduceMul, Int.reduceNeg, Int.reduceLT, Int.reduceLE, Int.reduceEq, Int.reduceDiv, ↓reduceIte, ↓ite_ww, ↓ite_wi, Br_n, Br_TW, Br_FW, Br_FP, Br_FB, nn_p, and_true, true_and, and_self, true_or, or_true, not_true_eq_false, not_false_eq_true, le_T, le_F, lt_T, lt_F, eq_T, eq_F, Int.add_zero, Int.zero_add, Int.one_mul, Int.mul_one, up_eq, up_ne, Int.add_assoc, Int.add_sub_cancel, Int.sub_zero, Int.sub_self, H_57, H_75, e, u_at]
theorem j_cp (k k2 N : Nat) (M : Int) (eM : M = N) (h : isO k = false ∧ ¬ k = 0 ∧ ¬ k = 2 ∧ ¬ k = 4 ∧ k < 156 ∧ ¬ k = 140) (h2 : isO k2 = false ∧ ¬ k2 = 0 ∧ ¬ k2 = 2 ∧ ¬ k2 = 4 ∧ k2 < 156 ∧ ¬ k2 = 140) (hS : ∀ s, gS (hp X s) k = (1, N)) (hS2 : ∀ s, gS (hp X s) k2 = (1, N)) (hN : N < 1000) (d : Nat) (Q : Option Value → aH → Prop) (s : sg) : Wp d 87 0 [.ref k, .ref k2] [] (hp X s) Q = Q none (hp X (u s k2 (cpF (s k) (s k2) M))) := by
  rw [eM]
  exact j_copy h h2 hS hS2 hN
theorem c_keep (kk : ∀ s', Fr [67004, 69004, 71004, 73004, 75004, 66007, 66008, 68, 70, 72, 74, 76, 77, 79, 80, 81, 82, 83] s s' → cpR 0 18 s s' → Q none (hp X s')) : Wp (d + 2) 66 0 [.ref 66, .ref 48] [] (hp X s) Q := by
  have p := j_cp (X := X) 59 77 4 4 rfl ⟨rfl, by decide⟩ ⟨rfl, by decide⟩ (fun _ => rfl) (fun _ => rfl) (by decide)
  have y1 := j_cp (X := X) 61 79 22 22 rfl ⟨rfl, by decide⟩ ⟨rfl, by decide⟩ (fun _ => rfl) (fun _ => rfl) (by decide)
  have y2 := j_cp (X := X) 62 80 6 6 rfl ⟨rfl, by decide⟩ ⟨rfl, by decide⟩ (fun _ => rfl) (fun _ => rfl) (by decide)
  have y3 := j_cp (X := X) 63 81 6 6 rfl ⟨rfl, by decide⟩ ⟨rfl, by decide⟩ (fun _ => rfl) (fun _ => rfl) (by decide)
  have y4 := j_cp (X := X) 64 82 10 10 rfl ⟨rfl, by decide⟩ ⟨rfl, by decide⟩ (fun _ => rfl) (fun _ => rfl) (by decide)
  have y5 := j_cp (X := X) 65 83 10 10 rfl ⟨rfl, by decide⟩ ⟨rfl, by decide⟩ (fun _ => rfl) (fun _ => rfl) (by decide)
  repeat' (first | (with_reducible refine Br_i ?_ ?_ <;> (intro hbr; first | exact False.elim hbr | skip)) | (with_reducible refine Wl_i ?_) | (simp (disch := first | omega | exact okF _ | exact okI _ | exact okR _ | assumption | exact okN) only [u_at, iI_zero, iI_31, iI_add, iI_sub, iI_mul, iI_neg, ↓iI_max, ↓iI_min, iI_div, emod_f, iI_lt, iI_le, iI_inj, iI_toInt, ↓ii01, ↓ii11, ↓bI_b, bI_0, bI_1, Kt_s, Kt_n, cat0, cat1, cat2, cat3, cat4, rfV, Nat.reduceAdd, Nat.reduceMul, Nat.reduceEqDiff, Int.reduceAdd, Int.reduceSub, Int.reduceMul, Int.reduceNeg, Int.reduceLT, Int.reduceLE, Int.reduceEq, Int.reduceDiv, ↓reduceIte, ↓ite_ww, ↓ite_wi, Br_n, Br_TW, Br_FW, Br_FP, Br_FB, nn_p, and_true, true_and, and_self, true_or, or_true, not_true_eq_false, not_false_eq_true, le_T, le_F, lt_T, lt_F, eq_T, eq_F, Int.add_zero, Int.zero_add, Int.one_mul, Int.mul_one, up_eq, up_ne, Int.add_assoc, Int.add_sub_cancel, Int.sub_zero, Int.sub_self, S_66_0, S_66_1, S_66_4, S_66_5, S_66_8, S_66_11, S_66_12, S_66_15, S_66_16, S_66_19, S_66_22, S_66_23, S_66_26, S_66_27, S_66_30, S_66_33, S_66_34, S_66_37, S_66_38, S_66_41, S_66_44, S_66_45, S_66_48, S_66_49, S_66_52, S_66_55, S_66_56, S_66_59, S_66_60, S_66_63, S_66_66, S_66_67, S_66_70, S_66_71, S_66_74, S_66_77, S_66_78, S_66_79, S_66_82, S_66_85, S_66_86, S_66_87, S_66_90, S_66_93, S_119_0, S_119_1, S_119_4, S_119_5, S_119_8, S_119_11, S_119_12, S_119_15, S_119_16, S_119_19, S_119_22, S_119_23, S_119_26, S_119_27, S_119_30, S_119_33, S_119_34, S_119_37, S_119_38, S_119_41, S_119_44, S_119_45, S_119_48, S_119_49, S_119_52, S_119_55, H_48, H_49, H_51, H_53, H_55, H_57, H_60, H_66, H_67, H_69, H_71, H_73, H_75, H_78, c_tb_49, c_tb_51, c_tb_53, c_tb_55, c_tb_57, p, y1, y2, y3, y4, y5]))
  refine kk _ (by repeat (first | exact Fr.rf _ | refine Fr.u ?_ rfl)) ⟨⟨rfl, rfl, rfl, rfl, rfl, rfl, rfl⟩, fun z a b => cpF_i a b, fun z a b => cpF_i a b, fun z a b => cpF_i a b, fun z a b => cpF_i a b, fun z a b => cpF_i a b, fun z a b => cpF_i a b, fun z a b => cpF_i a b, fun z a b => ⟨cpF_i a b, cpF_i a b⟩, fun z a b => ⟨cpF_i a b, cpF_i a b⟩⟩
theorem c_back0 (kk : ∀ s', Fr [49004, 51004, 53004, 55004, 57004, 48007, 48008, 50, 52, 54, 56, 58, 59, 61, 62, 63, 64, 65] s s' → cpR 18 0 s s' → Q none (hp X s')) : Wp (d + 2) 66 0 [.ref 48, .ref 66] [] (hp X s) Q := by
  have p := j_cp (X := X) 77 59 4 4 rfl ⟨rfl, by decide⟩ ⟨rfl, by decide⟩ (fun _ => rfl) (fun _ => rfl) (by decide)
  have y1 := j_cp (X := X) 79 61 22 22 rfl ⟨rfl, by decide⟩ ⟨rfl, by decide⟩ (fun _ => rfl) (fun _ => rfl) (by decide)
  have y2 := j_cp (X := X) 80 62 6 6 rfl ⟨rfl, by decide⟩ ⟨rfl, by decide⟩ (fun _ => rfl) (fun _ => rfl) (by decide)
  have y3 := j_cp (X := X) 81 63 6 6 rfl ⟨rfl, by decide⟩ ⟨rfl, by decide⟩ (fun _ => rfl) (fun _ => rfl) (by decide)
  have y4 := j_cp (X := X) 82 64 10 10 rfl ⟨rfl, by decide⟩ ⟨rfl, by decide⟩ (fun _ => rfl) (fun _ => rfl) (by decide)
  have y5 := j_cp (X := X) 83 65 10 10 rfl ⟨rfl, by decide⟩ ⟨rfl, by decide⟩ (fun _ => rfl) (fun _ => rfl) (by decide)
  repeat' (first | (with_reducible refine Br_i ?_ ?_ <;> (intro hbr; first | exact False.elim hbr | skip)) | (with_reducible refine Wl_i ?_) | (simp (disch := first | omega | exact okF _ | exact okI _ | exact okR _ | assumption | exact okN) only [u_at, iI_zero, iI_31, iI_add, iI_sub, iI_mul, iI_neg, ↓iI_max, ↓iI_min, iI_div, emod_f, iI_lt, iI_le, iI_inj, iI_toInt, ↓ii01, ↓ii11, ↓bI_b, bI_0, bI_1, Kt_s, Kt_n, cat0, cat1, cat2, cat3, cat4, rfV, Nat.reduceAdd, Nat.reduceMul, Nat.reduceEqDiff, Int.reduceAdd, Int.reduceSub, Int.reduceMul, Int.reduceNeg, Int.reduceLT, Int.reduceLE, Int.reduceEq, Int.reduceDiv, ↓reduceIte, ↓ite_ww, ↓ite_wi, Br_n, Br_TW, Br_FW, Br_FP, Br_FB, nn_p, and_true, true_and, and_self, true_or, or_true, not_true_eq_false, not_false_eq_true, le_T, le_F, lt_T, lt_F, eq_T, eq_F, Int.add_zero, Int.zero_add, Int.one_mul, Int.mul_one, up_eq, up_ne, Int.add_assoc, Int.add_sub_cancel, Int.sub_zero, Int.sub_self, S_66_0, S_66_1, S_66_4, S_66_5, S_66_8, S_66_11, S_66_12, S_66_15, S_66_16, S_66_19, S_66_22, S_66_23, S_66_26, S_66_27, S_66_30, S_66_33, S_66_34, S_66_37, S_66_38, S_66_41, S_66_44, S_66_45, S_66_48, S_66_49, S_66_52, S_66_55, S_66_56, S_66_59, S_66_60, S_66_63, S_66_66, S_66_67, S_66_70, S_66_71, S_66_74, S_66_77, S_66_78, S_66_79, S_66_82, S_66_85, S_66_86, S_66_87, S_66_90, S_66_93, S_119_0, S_119_1, S_119_4, S_119_5, S_119_8, S_119_11, S_119_12, S_119_15, S_119_16, S_119_19, S_119_22, S_119_23, S_119_26, S_119_27, S_119_30, S_119_33, S_119_34, S_119_37, S_119_38, S_119_41, S_119_44, S_119_45, S_119_48, S_119_49, S_119_52, S_119_55, H_48, H_49, H_51, H_53, H_55, H_57, H_60, H_66, H_67, H_69, H_71, H_73, H_75, H_78, c_tk_49, c_tk_51, c_tk_53, c_tk_55, c_tk_57, p, y1, y2, y3, y4, y5]))
  refine kk _ (by repeat (first | exact Fr.rf _ | refine Fr.u ?_ rfl)) ⟨⟨rfl, rfl, rfl, rfl, rfl, rfl, rfl⟩, fun z a b => cpF_i a b, fun z a b => cpF_i a b, fun z a b => cpF_i a b, fun z a b => cpF_i a b, fun z a b => cpF_i a b, fun z a b => cpF_i a b, fun z a b => cpF_i a b, fun z a b => ⟨cpF_i a b, cpF_i a b⟩, fun z a b => ⟨cpF_i a b, cpF_i a b⟩⟩
/-- what holds goes along -/
theorem IC_cp (W : WF A) (hI : IC q s A) (c : cpR q q2 s s2) (e : ∀ z, 0 ≤ z → z < 570 → B z = A z) : IC q2 s2 B := by
  have w0 := W.1.1
  unfold W0 at w0
  obtain ⟨⟨⟨i1, i2, i3, i4, i5, i6⟩, k1, k2, k3, k4, k5⟩, k6, k7, k8, k9, k10⟩ := hI
  obtain ⟨⟨c1, c2, c3, c4, c5, c6, c7⟩, d1, d2, d3, d4, d5, d6, d7, d8, d9⟩ := c
  refine ⟨⟨⟨?_, ?_, ?_, ?_, ?_, ?_⟩, ?_, ?_, ?_, ?_, ?_⟩, ?_, ?_, ?_, ?_, ?_⟩
  · rw [c1, e 0 (by omega) (by omega)]; exact i1
  · rw [c2, e 1 (by omega) (by omega)]; exact i2
  · rw [c3, e 2 (by omega) (by omega)]; exact i3
  · rw [c4, e 3 (by omega) (by omega)]; exact i4
  · rw [c5, e 6 (by omega) (by omega)]; exact i5
  · rw [c6, e 4 (by omega) (by omega)]; exact i6
  · exact PT_cg (e 0 (by omega) (by omega)) (fun z _ _ => e z (by omega) (by omega)) d1 (by omega) k1
  · exact PK_cg (e 1 (by omega) (by omega)) (fun z _ _ => e z (by omega) (by omega)) d2 (by omega) k2
  · exact PB_cg (e 2 (by omega) (by omega)) (fun z _ _ => e z (by omega) (by omega)) d3 (by omega) k3
  · exact PG_cg (e 6 (by omega) (by omega)) (fun z _ _ => e z (by omega) (by omega)) d5 (by omega) k4
  · exact PH_cg (fun z _ _ => e z (by omega) (by omega)) d6 k5
  · rw [c7, e 5 (by omega) (by omega)]; exact k6
  · exact PO_cg (e 3 (by omega) (by omega)) (by omega) W.2 (fun z _ _ _ => e z (by omega) (by omega)) (fun z z0 z1 => d4 z z0 (by omega)) k7
  · exact PY1_cg (e 3 (by omega) (by omega)) (by omega) (fun o _ _ => e _ (by omega) (by omega)) d7 k8
  · exact PY2_cg (e 1 (by omega) (by omega)) (by omega) (fun z _ _ => e z (by omega) (by omega)) d8 k9
  · exact PY3_cg (e 2 (by omega) (by omega)) (by omega) (fun z _ _ => e z (by omega) (by omega)) d9 k10
theorem WF_cp (W : WF A) (wy : WY A) (e : ∀ z, 0 ≤ z → z < 570 → B z = A z) : WF B ∧ WY B := by
  have w0 := W.1.1
  unfold W0 at w0
  obtain ⟨⟨_, k1, k2, k3, k4, k5⟩, k6⟩ := W
  have e0 := e 0 (by omega) (by omega)
  have e1 := e 1 (by omega) (by omega)
  have e2 := e 2 (by omega) (by omega)
  have e3 := e 3 (by omega) (by omega)
  have e4 := e 4 (by omega) (by omega)
  have e5 := e 5 (by omega) (by omega)
  have e6 := e 6 (by omega) (by omega)
  refine ⟨⟨⟨?_, ?_, ?_, ?_, ?_, ?_⟩, ?_⟩, ?_⟩
  · unfold W0
    rw [e0, e1, e2, e3, e4, e5, e6]
    exact w0
  · exact VT_cg e0 (by omega) (fun z _ _ => e z (by omega) (by omega)) k1
  · exact VK_cg e1 (by omega) (fun k c a b g h => e _ (by omega) (by omega)) k2
  · exact VB_cg e2 (by omega) (fun k c a b g h => e _ (by omega) (by omega)) k3
  · intro h h0 h1
    rw [e _ (by omega) (by omega)]
    exact k4 h h0 h1
  · exact VG_cg e6 (by omega) (fun z _ _ => e z (by omega) (by omega)) k5
  · rw [e3]
    exact VO_cg (by omega) (by omega) (fun o c a b g h => e _ (by omega) (by omega)) k6
  · intro o o0 o1
    rw [e3] at o1
    rw [e _ (by omega) (by omega)]
    exact wy o o0 o1
theorem m_copies_1 : Wp d 163 0 [.ref 122, .int (iI 1), .float 0] [] (hp X s) Q = Q none (hp X (u s 124 (cpF (s 123) (s 124) 570))) := by
  have st : ∀ i f g, 0 ≤ i → up (cpF f g i) i (f i) = cpF f g (i + 1) := by
    intro i f g i0
    funext z
    unfold cpF
    by_cases c : z = i
    · rw [up_eq c, if_pos (by omega), c]
    · rw [up_ne c]
      by_cases c2 : 0 ≤ z ∧ z < i
      · rw [if_pos c2, if_pos (by omega)]
      · rw [if_neg c2, if_neg (by omega)]
  have loop : ∀ i, 0 ≤ i → i ≤ 570 → Wp d 163 2 [.ref 122, .int (iI 1), .int (iI i)] [] (hp X (u s 124 (cpF (s 123) (s 124) i))) Q = Q none (hp X (u s 124 (cpF (s 123) (s 124) 570))) := by
    refine lp0 ?_ ?_
    · intro i i0 i1 e
      have st := st i (s 123) (s 124) i0
      rw [← e, S_163_2]
      simp (disch := first | omega | exact okF _ | exact okI _ | exact okR _ | assumption | exact okN) only [S_163_0, S_163_1, S_163_3, S_163_6, S_163_9, S_163_10, S_163_13, S_163_14, S_163_17, S_163_18, S_163_19, S_163_22, S_163_23, S_163_24, S_163_25, S_163_28, S_163_29, S_163_32, S_163_33, S_163_34, S_163_37, S_163_38, S_163_39, S_163_40, S_163_43, S_163_46, u_at, iI_zero, iI_31, iI_add, iI_sub, iI_mul, iI_neg, ↓iI_max, ↓iI_min, iI_div, emod_f, iI_lt, iI_le, iI_inj, iI_toInt, ↓ii01, ↓ii11, ↓bI_b, bI_0, bI_1, Kt_s, Kt_n, cat0, cat1, cat2, cat3, cat4, rfV, Nat.reduceAdd, Nat.reduceMul, Nat.reduceEqDiff, Int.reduceAdd, Int.reduceSub, Int.reduceMul, Int.reduceNeg, Int.reduceLT, Int.reduceLE, Int.reduceEq, Int.reduceDiv, ↓reduceIte, ↓ite_ww, ↓ite_wi, Br_n, Br_TW, Br_FW, Br_FP, Br_FB, nn_p, and_true, true_and, and_self, true_or, or_true, not_true_eq_false, not_false_eq_true, le_T, le_F, lt_T, lt_F, eq_T, eq_F, Int.add_zero, Int.zero_add, Int.one_mul, Int.mul_one, up_eq, up_ne, Int.add_assoc, Int.add_sub_cancel, Int.sub_zero, Int.sub_self, H_122, H_123, H_124, u_u, st]
    · simp (disch := first | omega | exact okF _ | exact okI _ | exact okR _ | assumption | exact okN) only [S_163_0, S_163_1, S_163_2, S_163_3, S_163_6, S_163_9, S_163_10, S_163_13, S_163_14, S_163_17, S_163_18, S_163_19, S_163_22, S_163_23, S_163_24, S_163_25, S_163_28, S_163_29, S_163_32, S_163_33, S_163_34, S_163_37, S_163_38, S_163_39, S_163_40, S_163_43, S_163_46, u_at, iI_zero, iI_31, iI_add, iI_sub, iI_mul, iI_neg, ↓iI_max, ↓iI_min, iI_div, emod_f, iI_lt, iI_le, iI_inj, iI_toInt, ↓ii01, ↓ii11, ↓bI_b, bI_0, bI_1, Kt_s, Kt_n, cat0, cat1, cat2, cat3, cat4, rfV, Nat.reduceAdd, Nat.reduceMul, Nat.reduceEqDiff, Int.reduceAdd, Int.reduceSub, Int.reduceMul, Int.reduceNeg, Int.reduceLT, Int.reduceLE, Int.reduceEq, Int.reduceDiv, ↓reduceIte, ↓ite_ww, ↓ite_wi, Br_n, Br_TW, Br_FW, Br_FP, Br_FB, nn_p, and_true, true_and, and_self, true_or, or_true, not_true_eq_false, not_false_eq_true, le_T, le_F, lt_T, lt_F, eq_T, eq_F, Int.add_zero, Int.zero_add, Int.one_mul, Int.mul_one, up_eq, up_ne, Int.add_assoc, Int.add_sub_cancel, Int.sub_zero, Int.sub_self, H_122]
  have e0 : cpF (s 123) (s 124) 0 = s 124 := by
    funext z
    exact if_neg (by omega)
  rw [← loop 0 (by omega) (by omega), e0, ← u_id rfl]
  simp (disch := first | omega | exact okF _ | exact okI _ | exact okR _ | assumption | exact okN) only [S_163_0, S_163_1, S_163_3, S_163_6, S_163_9, S_163_10, S_163_13, S_163_14, S_163_17, S_163_18, S_163_19, S_163_22, S_163_23, S_163_24, S_163_25, S_163_28, S_163_29, S_163_32, S_163_33, S_163_34, S_163_37, S_163_38, S_163_39, S_163_40, S_163_43, S_163_46, u_at, iI_zero, iI_31, iI_add, iI_sub, iI_mul, iI_neg, ↓iI_max, ↓iI_min, iI_div, emod_f, iI_lt, iI_le, iI_inj, iI_toInt, ↓ii01, ↓ii11, ↓bI_b, bI_0, bI_1, Kt_s, Kt_n, cat0, cat1, cat2, cat3, cat4, rfV, Nat.reduceAdd, Nat.reduceMul, Nat.reduceEqDiff, Int.reduceAdd, Int.reduceSub, Int.reduceMul, Int.reduceNeg, Int.reduceLT, Int.reduceLE, Int.reduceEq, Int.reduceDiv, ↓reduceIte, ↓ite_ww, ↓ite_wi, Br_n, Br_TW, Br_FW, Br_FP, Br_FB, nn_p, and_true, true_and, and_self, true_or, or_true, not_true_eq_false, not_false_eq_true, le_T, le_F, lt_T, lt_F, eq_T, eq_F, Int.add_zero, Int.zero_add, Int.one_mul, Int.mul_one, up_eq, up_ne, Int.add_assoc, Int.add_sub_cancel, Int.sub_zero, Int.sub_self]
theorem m_copies_0 : Wp d 163 0 [.ref 122, .int (iI 0), .float 0] [] (hp X s) Q = Q none (hp X (u s 123 (cpF (s 124) (s 123) 570))) := by
  have st : ∀ i f g, 0 ≤ i → up (cpF f g i) i (f i) = cpF f g (i + 1) := by
    intro i f g i0
    funext z
    unfold cpF
    by_cases c : z = i
    · rw [up_eq c, if_pos (by omega), c]
    · rw [up_ne c]
      by_cases c2 : 0 ≤ z ∧ z < i
      · rw [if_pos c2, if_pos (by omega)]
      · rw [if_neg c2, if_neg (by omega)]
  have loop : ∀ i, 0 ≤ i → i ≤ 570 → Wp d 163 2 [.ref 122, .int (iI 0), .int (iI i)] [] (hp X (u s 123 (cpF (s 124) (s 123) i))) Q = Q none (hp X (u s 123 (cpF (s 124) (s 123) 570))) := by
    refine lp0 ?_ ?_
    · intro i i0 i1 e
      have st := st i (s 124) (s 123) i0
      rw [← e, S_163_2]
      simp (disch := first | omega | exact okF _ | exact okI _ | exact okR _ | assumption | exact okN) only [S_163_0, S_163_1, S_163_3, S_163_6, S_163_9, S_163_10, S_163_13, S_163_14, S_163_17, S_163_18, S_163_19, S_163_22, S_163_23, S_163_24, S_163_25, S_163_28, S_163_29, S_163_32, S_163_33, S_163_34, S_163_37, S_163_38, S_163_39, S_163_40, S_163_43, S_163_46, u_at, iI_zero, iI_31, iI_add, iI_sub, iI_mul, iI_neg, ↓iI_max, ↓iI_min, iI_div, emod_f, iI_lt, iI_le, iI_inj, iI_toInt, ↓ii01, ↓ii11, ↓bI_b, bI_0, bI_1, Kt_s, Kt_n, cat0, cat1, cat2, cat3, cat4, rfV, Nat.reduceAdd, Nat.reduceMul, Nat.reduceEqDiff, Int.reduceAdd, Int.reduceSub, Int.reduceMul, Int.reduceNeg, Int.reduceLT, Int.reduceLE, Int.reduceEq, Int.reduceDiv, ↓reduceIte, ↓ite_ww, ↓ite_wi, Br_n, Br_TW, Br_FW, Br_FP, Br_FB, nn_p, and_true, true_and, and_self, true_or, or_true, not_true_eq_false, not_false_eq_true, le_T, le_F, lt_T, lt_F, eq_T, eq_F, Int.add_zero, Int.zero_add, Int.one_mul, Int.mul_one, up_eq, up_ne, Int.add_assoc, Int.add_sub_cancel, Int.sub_zero, Int.sub_self, H_122, H_123, H_124, u_u, st]
    · simp (disch := first | omega | exact okF _ | exact okI _ | exact okR _ | assumption | exact okN) only [S_163_0, S_163_1, S_163_2, S_163_3, S_163_6, S_163_9, S_163_10, S_163_13, S_163_14, S_163_17, S_163_18, S_163_19, S_163_22, S_163_23, S_163_24, S_163_25, S_163_28, S_163_29, S_163_32, S_163_33, S_163_34, S_163_37, S_163_38, S_163_39, S_163_40, S_163_43, S_163_46, u_at, iI_zero, iI_31, iI_add, iI_sub, iI_mul, iI_neg, ↓iI_max, ↓iI_min, iI_div, emod_f, iI_lt, iI_le, iI_inj, iI_toInt, ↓ii01, ↓ii11, ↓bI_b, bI_0, bI_1, Kt_s, Kt_n, cat0, cat1, cat2, cat3, cat4, rfV, Nat.reduceAdd, Nat.reduceMul, Nat.reduceEqDiff, Int.reduceAdd, Int.reduceSub, Int.reduceMul, Int.reduceNeg, Int.reduceLT, Int.reduceLE, Int.reduceEq, Int.reduceDiv, ↓reduceIte, ↓ite_ww, ↓ite_wi, Br_n, Br_TW, Br_FW, Br_FP, Br_FB, nn_p, and_true, true_and, and_self, true_or, or_true, not_true_eq_false, not_false_eq_true, le_T, le_F, lt_T, lt_F, eq_T, eq_F, Int.add_zero, Int.zero_add, Int.one_mul, Int.mul_one, up_eq, up_ne, Int.add_assoc, Int.add_sub_cancel, Int.sub_zero, Int.sub_self, H_122]
  have e0 : cpF (s 124) (s 123) 0 = s 123 := by
    funext z
    exact if_neg (by omega)
  rw [← loop 0 (by omega) (by omega), e0, ← u_id rfl]
  simp (disch := first | omega | exact okF _ | exact okI _ | exact okR _ | assumption | exact okN) only [S_163_0, S_163_1, S_163_3, S_163_6, S_163_9, S_163_10, S_163_13, S_163_14, S_163_17, S_163_18, S_163_19, S_163_22, S_163_23, S_163_24, S_163_25, S_163_28, S_163_29, S_163_32, S_163_33, S_163_34, S_163_37, S_163_38, S_163_39, S_163_40, S_163_43, S_163_46, u_at, iI_zero, iI_31, iI_add, iI_sub, iI_mul, iI_neg, ↓iI_max, ↓iI_min, iI_div, emod_f, iI_lt, iI_le, iI_inj, iI_toInt, ↓ii01, ↓ii11, ↓bI_b, bI_0, bI_1, Kt_s, Kt_n, cat0, cat1, cat2, cat3, cat4, rfV, Nat.reduceAdd, Nat.reduceMul, Nat.reduceEqDiff, Int.reduceAdd, Int.reduceSub, Int.reduceMul, Int.reduceNeg, Int.reduceLT, Int.reduceLE, Int.reduceEq, Int.reduceDiv, ↓reduceIte, ↓ite_ww, ↓ite_wi, Br_n, Br_TW, Br_FW, Br_FP, Br_FB, nn_p, and_true, true_and, and_self, true_or, or_true, not_true_eq_false, not_false_eq_true, le_T, le_F, lt_T, lt_F, eq_T, eq_F, Int.add_zero, Int.zero_add, Int.one_mul, Int.mul_one, up_eq, up_ne, Int.add_assoc, Int.add_sub_cancel, Int.sub_zero, Int.sub_self]
theorem m_image (kk : Q (some (.int (iI (s 123 3)))) (hp X (u s 124 (cpF (s 123) (s 124) 570)))) : Wp (d + 1) 262 0 [.ref 122] [] (hp X s) Q := by
  repeat' (first | (with_reducible refine Br_i ?_ ?_ <;> (intro hbr; first | exact False.elim hbr | skip)) | (with_reducible refine Wl_i ?_) | (simp (disch := first | omega | exact okF _ | exact okI _ | exact okR _ | assumption | exact okN) only [u_at, iI_zero, iI_31, iI_add, iI_sub, iI_mul, iI_neg, ↓iI_max, ↓iI_min, iI_div, emod_f, iI_lt, iI_le, iI_inj, iI_toInt, ↓ii01, ↓ii11, ↓bI_b, bI_0, bI_1, Kt_s, Kt_n, cat0, cat1, cat2, cat3, cat4, rfV, Nat.reduceAdd, Nat.reduceMul, Nat.reduceEqDiff, Int.reduceAdd, Int.reduceSub, Int.reduceMul, Int.reduceNeg, Int.reduceLT, Int.reduceLE, Int.reduceEq, Int.reduceDiv, ↓reduceIte, ↓ite_ww, ↓ite_wi, Br_n, Br_TW, Br_FW, Br_FP, Br_FB, nn_p, and_true, true_and, and_self, true_or, or_true, not_true_eq_false, not_false_eq_true, le_T, le_F, lt_T, lt_F, eq_T, eq_F, Int.add_zero, Int.zero_add, Int.one_mul, Int.mul_one, up_eq, up_ne, Int.add_assoc, Int.add_sub_cancel, Int.sub_zero, Int.sub_self, S_262_0, S_262_1, S_262_2, S_262_5, S_262_6, S_262_9, S_262_10, S_262_11, H_122, H_123, m_copies_1]))
  exact kk
theorem m_back (kk : Q (some (.int (iI (s 124 3)))) (hp X (u s 123 (cpF (s 124) (s 123) 570)))) : Wp (d + 1) 263 0 [.ref 122] [] (hp X s) Q := by
  have e : cpF (s 124) (s 123) 570 3 = s 124 3 := cpF_i (by omega) (by omega)
  repeat' (first | (with_reducible refine Br_i ?_ ?_ <;> (intro hbr; first | exact False.elim hbr | skip)) | (with_reducible refine Wl_i ?_) | (simp (disch := first | omega | exact okF _ | exact okI _ | exact okR _ | assumption | exact okN) only [u_at, iI_zero, iI_31, iI_add, iI_sub, iI_mul, iI_neg, ↓iI_max, ↓iI_min, iI_div, emod_f, iI_lt, iI_le, iI_inj, iI_toInt, ↓ii01, ↓ii11, ↓bI_b, bI_0, bI_1, Kt_s, Kt_n, cat0, cat1, cat2, cat3, cat4, rfV, Nat.reduceAdd, Nat.reduceMul, Nat.reduceEqDiff, Int.reduceAdd, Int.reduceSub, Int.reduceMul, Int.reduceNeg, Int.reduceLT, Int.reduceLE, Int.reduceEq, Int.reduceDiv, ↓reduceIte, ↓ite_ww, ↓ite_wi, Br_n, Br_TW, Br_FW, Br_FP, Br_FB, nn_p, and_true, true_and, and_self, true_or, or_true, not_true_eq_false, not_false_eq_true, le_T, le_F, lt_T, lt_F, eq_T, eq_F, Int.add_zero, Int.zero_add, Int.one_mul, Int.mul_one, up_eq, up_ne, Int.add_assoc, Int.add_sub_cancel, Int.sub_zero, Int.sub_self, S_263_0, S_263_1, S_263_2, S_263_5, S_263_6, S_263_9, S_263_10, S_263_11, H_122, H_123, m_copies_0, e]))
  exact kk
theorem c_image (kk : ∀ s', Fr [67004, 69004, 71004, 73004, 75004, 66007, 66008, 68, 70, 72, 74, 76, 77, 79, 80, 81, 82, 83] s s' → cpR 0 18 s s' → Q (some (.int (iI (s 55004 0)))) (hp X s')) : Wp (d + 3) 152 0 [.ref 5] [] (hp X s) Q := by
  repeat' (first | (with_reducible refine Br_i ?_ ?_ <;> (intro hbr; first | exact False.elim hbr | skip)) | (with_reducible refine Wl_i ?_) | (simp (disch := first | omega | exact okF _ | exact okI _ | exact okR _ | assumption | exact okN) only [u_at, iI_zero, iI_31, iI_add, iI_sub, iI_mul, iI_neg, ↓iI_max, ↓iI_min, iI_div, emod_f, iI_lt, iI_le, iI_inj, iI_toInt, ↓ii01, ↓ii11, ↓bI_b, bI_0, bI_1, Kt_s, Kt_n, cat0, cat1, cat2, cat3, cat4, rfV, Nat.reduceAdd, Nat.reduceMul, Nat.reduceEqDiff, Int.reduceAdd, Int.reduceSub, Int.reduceMul, Int.reduceNeg, Int.reduceLT, Int.reduceLE, Int.reduceEq, Int.reduceDiv, ↓reduceIte, ↓ite_ww, ↓ite_wi, Br_n, Br_TW, Br_FW, Br_FP, Br_FB, nn_p, and_true, true_and, and_self, true_or, or_true, not_true_eq_false, not_false_eq_true, le_T, le_F, lt_T, lt_F, eq_T, eq_F, Int.add_zero, Int.zero_add, Int.one_mul, Int.mul_one, up_eq, up_ne, Int.add_assoc, Int.add_sub_cancel, Int.sub_zero, Int.sub_self, S_152_0, S_152_1, S_152_4, S_152_5, S_152_8, S_152_11, S_152_12, S_152_15, S_152_18, S_152_21, H_5, H_48, H_66]))
  refine c_keep fun s' f' c => ?_
  have e : s' 55004 0 = s 55004 0 := by rw [f'.g 55004 rfl]
  have kk := kk s' f' c
  repeat' (first | (with_reducible refine Br_i ?_ ?_ <;> (intro hbr; first | exact False.elim hbr | skip)) | (with_reducible refine Wl_i ?_) | (simp (disch := first | omega | exact okF _ | exact okI _ | exact okR _ | assumption | exact okN) only [u_at, iI_zero, iI_31, iI_add, iI_sub, iI_mul, iI_neg, ↓iI_max, ↓iI_min, iI_div, emod_f, iI_lt, iI_le, iI_inj, iI_toInt, ↓ii01, ↓ii11, ↓bI_b, bI_0, bI_1, Kt_s, Kt_n, cat0, cat1, cat2, cat3, cat4, rfV, Nat.reduceAdd, Nat.reduceMul, Nat.reduceEqDiff, Int.reduceAdd, Int.reduceSub, Int.reduceMul, Int.reduceNeg, Int.reduceLT, Int.reduceLE, Int.reduceEq, Int.reduceDiv, ↓reduceIte, ↓ite_ww, ↓ite_wi, Br_n, Br_TW, Br_FW, Br_FP, Br_FB, nn_p, and_true, true_and, and_self, true_or, or_true, not_true_eq_false, not_false_eq_true, le_T, le_F, lt_T, lt_F, eq_T, eq_F, Int.add_zero, Int.zero_add, Int.one_mul, Int.mul_one, up_eq, up_ne, Int.add_assoc, Int.add_sub_cancel, Int.sub_zero, Int.sub_self, S_152_0, S_152_1, S_152_4, S_152_5, S_152_8, S_152_11, S_152_12, S_152_15, S_152_18, S_152_21, H_5, H_48, H_55, e]))
  exact kk
theorem c_back (kk : ∀ s', Fr [49004, 51004, 53004, 55004, 57004, 48007, 48008, 50, 52, 54, 56, 58, 59, 61, 62, 63, 64, 65] s s' → cpR 18 0 s s' → Q (some (.int (iI (s 73004 0)))) (hp X s')) : Wp (d + 3) 153 0 [.ref 5] [] (hp X s) Q := by
  repeat' (first | (with_reducible refine Br_i ?_ ?_ <;> (intro hbr; first | exact False.elim hbr | skip)) | (with_reducible refine Wl_i ?_) | (simp (disch := first | omega | exact okF _ | exact okI _ | exact okR _ | assumption | exact okN) only [u_at, iI_zero, iI_31, iI_add, iI_sub, iI_mul, iI_neg, ↓iI_max, ↓iI_min, iI_div, emod_f, iI_lt, iI_le, iI_inj, iI_toInt, ↓ii01, ↓ii11, ↓bI_b, bI_0, bI_1, Kt_s, Kt_n, cat0, cat1, cat2, cat3, cat4, rfV, Nat.reduceAdd, Nat.reduceMul, Nat.reduceEqDiff, Int.reduceAdd, Int.reduceSub, Int.reduceMul, Int.reduceNeg, Int.reduceLT, Int.reduceLE, Int.reduceEq, Int.reduceDiv, ↓reduceIte, ↓ite_ww, ↓ite_wi, Br_n, Br_TW, Br_FW, Br_FP, Br_FB, nn_p, and_true, true_and, and_self, true_or, or_true, not_true_eq_false, not_false_eq_true, le_T, le_F, lt_T, lt_F, eq_T, eq_F, Int.add_zero, Int.zero_add, Int.one_mul, Int.mul_one, up_eq, up_ne, Int.add_assoc, Int.add_sub_cancel, Int.sub_zero, Int.sub_self, S_153_0, S_153_1, S_153_4, S_153_5, S_153_8, S_153_11, S_153_12, S_153_15, S_153_18, S_153_21, H_5, H_48, H_66]))
  refine c_back0 fun s' f' c => ?_
  have e : s' 55004 0 = s 73004 0 := c.1.2.2.2.1
  have kk := kk s' f' c
  repeat' (first | (with_reducible refine Br_i ?_ ?_ <;> (intro hbr; first | exact False.elim hbr | skip)) | (with_reducible refine Wl_i ?_) | (simp (disch := first | omega | exact okF _ | exact okI _ | exact okR _ | assumption | exact okN) only [u_at, iI_zero, iI_31, iI_add, iI_sub, iI_mul, iI_neg, ↓iI_max, ↓iI_min, iI_div, emod_f, iI_lt, iI_le, iI_inj, iI_toInt, ↓ii01, ↓ii11, ↓bI_b, bI_0, bI_1, Kt_s, Kt_n, cat0, cat1, cat2, cat3, cat4, rfV, Nat.reduceAdd, Nat.reduceMul, Nat.reduceEqDiff, Int.reduceAdd, Int.reduceSub, Int.reduceMul, Int.reduceNeg, Int.reduceLT, Int.reduceLE, Int.reduceEq, Int.reduceDiv, ↓reduceIte, ↓ite_ww, ↓ite_wi, Br_n, Br_TW, Br_FW, Br_FP, Br_FB, nn_p, and_true, true_and, and_self, true_or, or_true, not_true_eq_false, not_false_eq_true, le_T, le_F, lt_T, lt_F, eq_T, eq_F, Int.add_zero, Int.zero_add, Int.one_mul, Int.mul_one, up_eq, up_ne, Int.add_assoc, Int.add_sub_cancel, Int.sub_zero, Int.sub_self, S_153_0, S_153_1, S_153_4, S_153_5, S_153_8, S_153_11, S_153_12, S_153_15, S_153_18, S_153_21, H_5, H_48, H_55, e]))
  exact kk
end IM
