/-! THE CLASS: a year -/
def fillF (f : Int → Int) (v N : Int) : Int → Int := fun z => if 0 ≤ z ∧ z < N then v else f z
theorem fillF_s {f : Int → Int} {v i : Int} (h : 0 ≤ i) : up (fillF f v i) i v = fillF f v (i + 1) := by
  funext z
  unfold up fillF
  by_cases c : z = i
  · rw [if_pos c, if_pos (by omega)]
  · rw [if_neg c]
    by_cases e : 0 ≤ z ∧ z < i
    · rw [if_pos e, if_pos (by omega)]
    · rw [if_neg e, if_neg (by omega)]
theorem fillF_0 {f : Int → Int} {v : Int} : fillF f v 0 = f := by
  funext z
  unfold fillF
  rw [if_neg (by omega)]
theorem fillF_i {f : Int → Int} {v N z : Int} (h : 0 ≤ z ∧ z < N) : fillF f v N z = v := if_pos h
section CY
variable {d : Nat} {X : hX} {s : sg} {Q : Option Value → aH → Prop} {b n o v : Int} {A : Int → Int} {l : lawT}
theorem j_fill {k N : Nat} (hk : isO k = false ∧ ¬ k = 0 ∧ ¬ k = 2 ∧ ¬ k = 4 ∧ k < 156 ∧ ¬ k = 140) (hS : ∀ s, gS (hp X s) k = (1, N)) (hN : N < 1000) : Wp d 12 0 [.ref k, .int (iI v), .float 0, .float 0] [] (hp X s) Q = Q none (hp X (u s k (fillF (s k) v N))) := by
  have ok := fun s => ok_1 (h := hp X s) (k := k) (n := N) (hS s) (by omega)
  have pa := fun s z v hz => pA_hp (X := X) (s := s) (k := k) (z := z) (v := v) hk hz
  have loop : ∀ i, 0 ≤ i → i ≤ (N : Int) → Wp d 12 5 [.ref k, .int (iI v), .int (iI i), .int (iI N)] [] (hp X (u s k (fillF (s k) v i))) Q = Q none (hp X (u s k (fillF (s k) v N))) := by
    refine lp0 ?_ ?_
    · intro i i0 i1 e
      rw [← e, S_12_5]
      simp (disch := first | omega | exact okF _ | exact okI _ | exact okR _ | assumption | exact okN) only [S_12_0, S_12_1, S_12_2, S_12_3, S_12_4, S_12_6, S_12_7, S_12_10, S_12_11, S_12_12, S_12_13, S_12_14, S_12_17, S_12_20, u_at, iI_zero, iI_31, iI_add, iI_sub, iI_mul, iI_neg, ↓iI_max, ↓iI_min, iI_div, emod_f, iI_lt, iI_le, iI_inj, iI_toInt, ↓ii01, ↓ii11, ↓bI_b, bI_0, bI_1, Kt_s, Kt_n, cat0, cat1, cat2, cat3, cat4, rfV, Nat.reduceAdd, Nat.reduceMul, Nat.reduceEqDiff, Int.reduceAdd, Int.reduceSub, Int.reduceMul, Int.reduceNeg, Int.reduceLT, Int.reduceLE, Int.reduceEq, Int.reduceDiv, ↓reduceIte, ↓ite_ww, ↓ite_wi, Br_n, Br_TW, Br_FW, Br_FP, Br_FB, nn_p, and_true, true_and, and_self, true_or, or_true, not_true_eq_false, not_false_eq_true, le_T, le_F, lt_T, lt_F, eq_T, eq_F, Int.add_zero, Int.zero_add, Int.one_mul, Int.mul_one, up_eq, up_ne, Int.add_assoc, Int.add_sub_cancel, Int.sub_zero, Int.sub_self, (ok (u s k (fillF (s k) v i))).2.1, pa, u_u, u_eq, fillF_s]
    · rw [S_12_5]
      simp (disch := first | omega | exact okF _ | exact okI _ | exact okR _ | assumption | exact okN) only [S_12_0, S_12_1, S_12_2, S_12_3, S_12_4, S_12_6, S_12_7, S_12_10, S_12_11, S_12_12, S_12_13, S_12_14, S_12_17, S_12_20, u_at, iI_zero, iI_31, iI_add, iI_sub, iI_mul, iI_neg, ↓iI_max, ↓iI_min, iI_div, emod_f, iI_lt, iI_le, iI_inj, iI_toInt, ↓ii01, ↓ii11, ↓bI_b, bI_0, bI_1, Kt_s, Kt_n, cat0, cat1, cat2, cat3, cat4, rfV, Nat.reduceAdd, Nat.reduceMul, Nat.reduceEqDiff, Int.reduceAdd, Int.reduceSub, Int.reduceMul, Int.reduceNeg, Int.reduceLT, Int.reduceLE, Int.reduceEq, Int.reduceDiv, ↓reduceIte, ↓ite_ww, ↓ite_wi, Br_n, Br_TW, Br_FW, Br_FP, Br_FB, nn_p, and_true, true_and, and_self, true_or, or_true, not_true_eq_false, not_false_eq_true, le_T, le_F, lt_T, lt_F, eq_T, eq_F, Int.add_zero, Int.zero_add, Int.one_mul, Int.mul_one, up_eq, up_ne, Int.add_assoc, Int.add_sub_cancel, Int.sub_zero, Int.sub_self]
  have l0 := loop 0 (by omega) (by omega)
  have e : u s k (s k) = s := (u_id rfl).symm
  rw [fillF_0, e] at l0
  rw [← l0]
  simp (disch := first | omega | exact okF _ | exact okI _ | exact okR _ | assumption | exact okN) only [S_12_0, S_12_1, S_12_2, S_12_3, S_12_4, S_12_6, S_12_7, S_12_10, S_12_11, S_12_12, S_12_13, S_12_14, S_12_17, S_12_20, u_at, iI_zero, iI_31, iI_add, iI_sub, iI_mul, iI_neg, ↓iI_max, ↓iI_min, iI_div, emod_f, iI_lt, iI_le, iI_inj, iI_toInt, ↓ii01, ↓ii11, ↓bI_b, bI_0, bI_1, Kt_s, Kt_n, cat0, cat1, cat2, cat3, cat4, rfV, Nat.reduceAdd, Nat.reduceMul, Nat.reduceEqDiff, Int.reduceAdd, Int.reduceSub, Int.reduceMul, Int.reduceNeg, Int.reduceLT, Int.reduceLE, Int.reduceEq, Int.reduceDiv, ↓reduceIte, ↓ite_ww, ↓ite_wi, Br_n, Br_TW, Br_FW, Br_FP, Br_FB, nn_p, and_true, true_and, and_self, true_or, or_true, not_true_eq_false, not_false_eq_true, le_T, le_F, lt_T, lt_F, eq_T, eq_F, Int.add_zero, Int.zero_add, Int.one_mul, Int.mul_one, up_eq, up_ne, Int.add_assoc, Int.add_sub_cancel, Int.sub_zero, Int.sub_self, (ok s).2.2, hS]
theorem c_forget_60 : Wp (d + 1) 118 0 [.ref 60] [] (hp X s) Q = Q none (hp X (u (u s 64 (fillF (s 64) 0 10)) 65 (fillF (s 65) 0 10))) := by
  have f4 := fun (d : Nat) (s : sg) (Q : Option Value → aH → Prop) => j_fill (d := d) (X := X) (s := s) (Q := Q) (v := 0) (k := 64) (N := 10) ⟨rfl, by decide⟩ (fun _ => rfl) (by decide)
  have f5 := fun (d : Nat) (s : sg) (Q : Option Value → aH → Prop) => j_fill (d := d) (X := X) (s := s) (Q := Q) (v := 0) (k := 65) (N := 10) ⟨rfl, by decide⟩ (fun _ => rfl) (by decide)
  simp (disch := first | omega | exact okF _ | exact okI _ | exact okR _ | assumption | exact okN) only [S_118_0, S_118_1, S_118_4, S_118_5, S_118_8, S_118_9, S_118_12, S_118_13, S_118_16, u_at, iI_zero, iI_31, iI_add, iI_sub, iI_mul, iI_neg, ↓iI_max, ↓iI_min, iI_div, emod_f, iI_lt, iI_le, iI_inj, iI_toInt, ↓ii01, ↓ii11, ↓bI_b, bI_0, bI_1, Kt_s, Kt_n, cat0, cat1, cat2, cat3, cat4, rfV, Nat.reduceAdd, Nat.reduceMul, Nat.reduceEqDiff, Int.reduceAdd, Int.reduceSub, Int.reduceMul, Int.reduceNeg, Int.reduceLT, Int.reduceLE, Int.reduceEq, Int.reduceDiv, ↓reduceIte, ↓ite_ww, ↓ite_wi, Br_n, Br_TW, Br_FW, Br_FP, Br_FB, nn_p, and_true, true_and, and_self, true_or, or_true, not_true_eq_false, not_false_eq_true, le_T, le_F, lt_T, lt_F, eq_T, eq_F, Int.add_zero, Int.zero_add, Int.one_mul, Int.mul_one, up_eq, up_ne, Int.add_assoc, Int.add_sub_cancel, Int.sub_zero, Int.sub_self, H_60, f4, f5]
  rfl
theorem c_clear_60 : Wp (d + 2) 117 0 [.ref 60] [] (hp X s) Q = Q none (hp X (u (u (u (u (u s 61 (fillF (s 61) 0 22)) 62 (fillF (s 62) 0 6)) 63 (fillF (s 63) 0 6)) 64 (fillF (s 64) 0 10)) 65 (fillF (s 65) 0 10))) := by
  have f1 := fun (d : Nat) (s : sg) (Q : Option Value → aH → Prop) => j_fill (d := d) (X := X) (s := s) (Q := Q) (v := 0) (k := 61) (N := 22) ⟨rfl, by decide⟩ (fun _ => rfl) (by decide)
  have f2 := fun (d : Nat) (s : sg) (Q : Option Value → aH → Prop) => j_fill (d := d) (X := X) (s := s) (Q := Q) (v := 0) (k := 62) (N := 6) ⟨rfl, by decide⟩ (fun _ => rfl) (by decide)
  have f3 := fun (d : Nat) (s : sg) (Q : Option Value → aH → Prop) => j_fill (d := d) (X := X) (s := s) (Q := Q) (v := 0) (k := 63) (N := 6) ⟨rfl, by decide⟩ (fun _ => rfl) (by decide)
  simp (disch := first | omega | exact okF _ | exact okI _ | exact okR _ | assumption | exact okN) only [S_117_0, S_117_1, S_117_4, S_117_5, S_117_8, S_117_9, S_117_12, S_117_13, S_117_16, S_117_17, S_117_20, S_117_21, S_117_24, S_117_25, S_117_28, u_at, iI_zero, iI_31, iI_add, iI_sub, iI_mul, iI_neg, ↓iI_max, ↓iI_min, iI_div, emod_f, iI_lt, iI_le, iI_inj, iI_toInt, ↓ii01, ↓ii11, ↓bI_b, bI_0, bI_1, Kt_s, Kt_n, cat0, cat1, cat2, cat3, cat4, rfV, Nat.reduceAdd, Nat.reduceMul, Nat.reduceEqDiff, Int.reduceAdd, Int.reduceSub, Int.reduceMul, Int.reduceNeg, Int.reduceLT, Int.reduceLE, Int.reduceEq, Int.reduceDiv, ↓reduceIte, ↓ite_ww, ↓ite_wi, Br_n, Br_TW, Br_FW, Br_FP, Br_FB, nn_p, and_true, true_and, and_self, true_or, or_true, not_true_eq_false, not_false_eq_true, le_T, le_F, lt_T, lt_F, eq_T, eq_F, Int.add_zero, Int.zero_add, Int.one_mul, Int.mul_one, up_eq, up_ne, Int.add_assoc, Int.add_sub_cancel, Int.sub_zero, Int.sub_self, H_60, f1, f2, f3, c_forget_60]
  rfl
theorem c_forget_106 : Wp (d + 1) 118 0 [.ref 106] [] (hp X s) Q = Q none (hp X (u (u s 110 (fillF (s 110) 0 10)) 111 (fillF (s 111) 0 10))) := by
  have f4 := fun (d : Nat) (s : sg) (Q : Option Value → aH → Prop) => j_fill (d := d) (X := X) (s := s) (Q := Q) (v := 0) (k := 110) (N := 10) ⟨rfl, by decide⟩ (fun _ => rfl) (by decide)
  have f5 := fun (d : Nat) (s : sg) (Q : Option Value → aH → Prop) => j_fill (d := d) (X := X) (s := s) (Q := Q) (v := 0) (k := 111) (N := 10) ⟨rfl, by decide⟩ (fun _ => rfl) (by decide)
  simp (disch := first | omega | exact okF _ | exact okI _ | exact okR _ | assumption | exact okN) only [S_118_0, S_118_1, S_118_4, S_118_5, S_118_8, S_118_9, S_118_12, S_118_13, S_118_16, u_at, iI_zero, iI_31, iI_add, iI_sub, iI_mul, iI_neg, ↓iI_max, ↓iI_min, iI_div, emod_f, iI_lt, iI_le, iI_inj, iI_toInt, ↓ii01, ↓ii11, ↓bI_b, bI_0, bI_1, Kt_s, Kt_n, cat0, cat1, cat2, cat3, cat4, rfV, Nat.reduceAdd, Nat.reduceMul, Nat.reduceEqDiff, Int.reduceAdd, Int.reduceSub, Int.reduceMul, Int.reduceNeg, Int.reduceLT, Int.reduceLE, Int.reduceEq, Int.reduceDiv, ↓reduceIte, ↓ite_ww, ↓ite_wi, Br_n, Br_TW, Br_FW, Br_FP, Br_FB, nn_p, and_true, true_and, and_self, true_or, or_true, not_true_eq_false, not_false_eq_true, le_T, le_F, lt_T, lt_F, eq_T, eq_F, Int.add_zero, Int.zero_add, Int.one_mul, Int.mul_one, up_eq, up_ne, Int.add_assoc, Int.add_sub_cancel, Int.sub_zero, Int.sub_self, H_106, f4, f5]
  rfl
theorem c_clear_106 : Wp (d + 2) 117 0 [.ref 106] [] (hp X s) Q = Q none (hp X (u (u (u (u (u s 107 (fillF (s 107) 0 22)) 108 (fillF (s 108) 0 6)) 109 (fillF (s 109) 0 6)) 110 (fillF (s 110) 0 10)) 111 (fillF (s 111) 0 10))) := by
  have f1 := fun (d : Nat) (s : sg) (Q : Option Value → aH → Prop) => j_fill (d := d) (X := X) (s := s) (Q := Q) (v := 0) (k := 107) (N := 22) ⟨rfl, by decide⟩ (fun _ => rfl) (by decide)
  have f2 := fun (d : Nat) (s : sg) (Q : Option Value → aH → Prop) => j_fill (d := d) (X := X) (s := s) (Q := Q) (v := 0) (k := 108) (N := 6) ⟨rfl, by decide⟩ (fun _ => rfl) (by decide)
  have f3 := fun (d : Nat) (s : sg) (Q : Option Value → aH → Prop) => j_fill (d := d) (X := X) (s := s) (Q := Q) (v := 0) (k := 109) (N := 6) ⟨rfl, by decide⟩ (fun _ => rfl) (by decide)
  simp (disch := first | omega | exact okF _ | exact okI _ | exact okR _ | assumption | exact okN) only [S_117_0, S_117_1, S_117_4, S_117_5, S_117_8, S_117_9, S_117_12, S_117_13, S_117_16, S_117_17, S_117_20, S_117_21, S_117_24, S_117_25, S_117_28, u_at, iI_zero, iI_31, iI_add, iI_sub, iI_mul, iI_neg, ↓iI_max, ↓iI_min, iI_div, emod_f, iI_lt, iI_le, iI_inj, iI_toInt, ↓ii01, ↓ii11, ↓bI_b, bI_0, bI_1, Kt_s, Kt_n, cat0, cat1, cat2, cat3, cat4, rfV, Nat.reduceAdd, Nat.reduceMul, Nat.reduceEqDiff, Int.reduceAdd, Int.reduceSub, Int.reduceMul, Int.reduceNeg, Int.reduceLT, Int.reduceLE, Int.reduceEq, Int.reduceDiv, ↓reduceIte, ↓ite_ww, ↓ite_wi, Br_n, Br_TW, Br_FW, Br_FP, Br_FB, nn_p, and_true, true_and, and_self, true_or, or_true, not_true_eq_false, not_false_eq_true, le_T, le_F, lt_T, lt_F, eq_T, eq_F, Int.add_zero, Int.zero_add, Int.one_mul, Int.mul_one, up_eq, up_ne, Int.add_assoc, Int.add_sub_cancel, Int.sub_zero, Int.sub_self, H_106, f1, f2, f3, c_forget_106]
  rfl
theorem c_forget_112 : Wp (d + 1) 118 0 [.ref 112] [] (hp X s) Q = Q none (hp X (u (u s 116 (fillF (s 116) 0 10)) 117 (fillF (s 117) 0 10))) := by
  have f4 := fun (d : Nat) (s : sg) (Q : Option Value → aH → Prop) => j_fill (d := d) (X := X) (s := s) (Q := Q) (v := 0) (k := 116) (N := 10) ⟨rfl, by decide⟩ (fun _ => rfl) (by decide)
  have f5 := fun (d : Nat) (s : sg) (Q : Option Value → aH → Prop) => j_fill (d := d) (X := X) (s := s) (Q := Q) (v := 0) (k := 117) (N := 10) ⟨rfl, by decide⟩ (fun _ => rfl) (by decide)
  simp (disch := first | omega | exact okF _ | exact okI _ | exact okR _ | assumption | exact okN) only [S_118_0, S_118_1, S_118_4, S_118_5, S_118_8, S_118_9, S_118_12, S_118_13, S_118_16, u_at, iI_zero, iI_31, iI_add, iI_sub, iI_mul, iI_neg, ↓iI_max, ↓iI_min, iI_div, emod_f, iI_lt, iI_le, iI_inj, iI_toInt, ↓ii01, ↓ii11, ↓bI_b, bI_0, bI_1, Kt_s, Kt_n, cat0, cat1, cat2, cat3, cat4, rfV, Nat.reduceAdd, Nat.reduceMul, Nat.reduceEqDiff, Int.reduceAdd, Int.reduceSub, Int.reduceMul, Int.reduceNeg, Int.reduceLT, Int.reduceLE, Int.reduceEq, Int.reduceDiv, ↓reduceIte, ↓ite_ww, ↓ite_wi, Br_n, Br_TW, Br_FW, Br_FP, Br_FB, nn_p, and_true, true_and, and_self, true_or, or_true, not_true_eq_false, not_false_eq_true, le_T, le_F, lt_T, lt_F, eq_T, eq_F, Int.add_zero, Int.zero_add, Int.one_mul, Int.mul_one, up_eq, up_ne, Int.add_assoc, Int.add_sub_cancel, Int.sub_zero, Int.sub_self, H_112, f4, f5]
  rfl
theorem c_clear_112 : Wp (d + 2) 117 0 [.ref 112] [] (hp X s) Q = Q none (hp X (u (u (u (u (u s 113 (fillF (s 113) 0 22)) 114 (fillF (s 114) 0 6)) 115 (fillF (s 115) 0 6)) 116 (fillF (s 116) 0 10)) 117 (fillF (s 117) 0 10))) := by
  have f1 := fun (d : Nat) (s : sg) (Q : Option Value → aH → Prop) => j_fill (d := d) (X := X) (s := s) (Q := Q) (v := 0) (k := 113) (N := 22) ⟨rfl, by decide⟩ (fun _ => rfl) (by decide)
  have f2 := fun (d : Nat) (s : sg) (Q : Option Value → aH → Prop) => j_fill (d := d) (X := X) (s := s) (Q := Q) (v := 0) (k := 114) (N := 6) ⟨rfl, by decide⟩ (fun _ => rfl) (by decide)
  have f3 := fun (d : Nat) (s : sg) (Q : Option Value → aH → Prop) => j_fill (d := d) (X := X) (s := s) (Q := Q) (v := 0) (k := 115) (N := 6) ⟨rfl, by decide⟩ (fun _ => rfl) (by decide)
  simp (disch := first | omega | exact okF _ | exact okI _ | exact okR _ | assumption | exact okN) only [S_117_0, S_117_1, S_117_4, S_117_5, S_117_8, S_117_9, S_117_12, S_117_13, S_117_16, S_117_17, S_117_20, S_117_21, S_117_24, S_117_25, S_117_28, u_at, iI_zero, iI_31, iI_add, iI_sub, iI_mul, iI_neg, ↓iI_max, ↓iI_min, iI_div, emod_f, iI_lt, iI_le, iI_inj, iI_toInt, ↓ii01, ↓ii11, ↓bI_b, bI_0, bI_1, Kt_s, Kt_n, cat0, cat1, cat2, cat3, cat4, rfV, Nat.reduceAdd, Nat.reduceMul, Nat.reduceEqDiff, Int.reduceAdd, Int.reduceSub, Int.reduceMul, Int.reduceNeg, Int.reduceLT, Int.reduceLE, Int.reduceEq, Int.reduceDiv, ↓reduceIte, ↓ite_ww, ↓ite_wi, Br_n, Br_TW, Br_FW, Br_FP, Br_FB, nn_p, and_true, true_and, and_self, true_or, or_true, not_true_eq_false, not_false_eq_true, le_T, le_F, lt_T, lt_F, eq_T, eq_F, Int.add_zero, Int.zero_add, Int.one_mul, Int.mul_one, up_eq, up_ne, Int.add_assoc, Int.add_sub_cancel, Int.sub_zero, Int.sub_self, H_112, f1, f2, f3, c_forget_112]
  rfl
theorem H_ovn {b : Int} (h : 0 ≤ b ∧ b < 10) {X : hX} {s : sg} : gS (hp X s) (95 + b.toNat) = (1, 22) ∧ lnOK (hp X s) (95 + b.toNat) = True := by
  have e : b = 0 ∨ b = 1 ∨ b = 2 ∨ b = 3 ∨ b = 4 ∨ b = 5 ∨ b = 6 ∨ b = 7 ∨ b = 8 ∨ b = 9 := by omega
  have g : gS (hp X s) (95 + b.toNat) = (1, 22) := by rcases e with e | e | e | e | e | e | e | e | e | e <;> subst e <;> rfl
  exact ⟨g, (ok_1 g (by decide)).2.2⟩
theorem c_overTo (h : (0 ≤ b ∧ b < 10) ∧ 0 ≤ o ∧ o < 22) : Wp d 266 0 [.ref 87, .int (iI b), .int (iI o), .float 0] [] (hp X s) Q = Q (some (.int (iI (s (95 + b.toNat) o)))) (hp X s) := by
  have HO := H_ov h.1 (X := X) (s := s)
  have HN := H_ovn h.1 (X := X) (s := s)
  simp (disch := first | omega | exact okF _ | exact okI _ | exact okR _ | assumption | exact okN) only [S_266_0, S_266_1, S_266_4, S_266_5, S_266_6, S_266_9, S_266_10, S_266_13, S_266_14, S_266_17, S_266_18, S_266_19, S_266_22, S_266_23, S_266_24, S_266_25, S_266_28, S_266_29, S_266_32, S_266_33, S_266_34, S_266_35, S_266_38, S_266_39, S_266_42, S_266_43, S_266_44, S_266_45, S_266_46, S_266_49, S_266_50, u_at, iI_zero, iI_31, iI_add, iI_sub, iI_mul, iI_neg, ↓iI_max, ↓iI_min, iI_div, emod_f, iI_lt, iI_le, iI_inj, iI_toInt, ↓ii01, ↓ii11, ↓bI_b, bI_0, bI_1, Kt_s, Kt_n, cat0, cat1, cat2, cat3, cat4, rfV, Nat.reduceAdd, Nat.reduceMul, Nat.reduceEqDiff, Int.reduceAdd, Int.reduceSub, Int.reduceMul, Int.reduceNeg, Int.reduceLT, Int.reduceLE, Int.reduceEq, Int.reduceDiv, ↓reduceIte, ↓ite_ww, ↓ite_wi, Br_n, Br_TW, Br_FW, Br_FP, Br_FB, nn_p, and_true, true_and, and_self, true_or, or_true, not_true_eq_false, not_false_eq_true, le_T, le_F, lt_T, lt_F, eq_T, eq_F, Int.add_zero, Int.zero_add, Int.one_mul, Int.mul_one, up_eq, up_ne, Int.add_assoc, Int.add_sub_cancel, Int.sub_zero, Int.sub_self, H_87, H_94, HO, HN]
theorem c_canBeHad_60 {m a e : Int} (hm : s 93 o = m) (ha : s 88 o = a) (he : s 63 m = e) (h : (0 ≤ o ∧ o < 22) ∧ (0 ≤ m ∧ m < 6) ∧ (-2147483648 ≤ a ∧ a < 2147483648) ∧ -2147483648 ≤ e ∧ e < 2147483648) : Wp (d + 1) 267 0 [.ref 87, .int (iI o), .ref 60] [] (hp X s) Q = Q (some (.int (iI (bZ (a ≤ e))))) (hp X s) := by
  refine wp_eq (fun rr hh er eh => ?_)
  repeat' (first | (with_reducible refine Br_i ?_ ?_ <;> (intro hbr; first | exact False.elim hbr | skip)) | (with_reducible refine Wl_i ?_) | (simp (disch := first | omega | exact okF _ | exact okI _ | exact okR _ | assumption | exact okN) only [u_at, iI_zero, iI_31, iI_add, iI_sub, iI_mul, iI_neg, ↓iI_max, ↓iI_min, iI_div, emod_f, iI_lt, iI_le, iI_inj, iI_toInt, ↓ii01, ↓ii11, ↓bI_b, bI_0, bI_1, Kt_s, Kt_n, cat0, cat1, cat2, cat3, cat4, rfV, Nat.reduceAdd, Nat.reduceMul, Nat.reduceEqDiff, Int.reduceAdd, Int.reduceSub, Int.reduceMul, Int.reduceNeg, Int.reduceLT, Int.reduceLE, Int.reduceEq, Int.reduceDiv, ↓reduceIte, ↓ite_ww, ↓ite_wi, Br_n, Br_TW, Br_FW, Br_FP, Br_FB, nn_p, and_true, true_and, and_self, true_or, or_true, not_true_eq_false, not_false_eq_true, le_T, le_F, lt_T, lt_F, eq_T, eq_F, Int.add_zero, Int.zero_add, Int.one_mul, Int.mul_one, up_eq, up_ne, Int.add_assoc, Int.add_sub_cancel, Int.sub_zero, Int.sub_self, S_267_0, S_267_1, S_267_4, S_267_5, S_267_8, S_267_9, S_267_12, S_267_15, S_267_16, S_267_19, S_267_20, S_267_23, S_267_26, S_267_27, S_267_30, S_267_31, H_87, H_60, c_cell_88, c_cell_93, c_cell_63, hm, ha, he]))
  all_goals (subst er; subst eh)
  all_goals first | exact Re_T rfl (by omega) rfl | exact Re_F rfl (by omega) rfl
theorem c_canBeHad_106 {m a e : Int} (hm : s 93 o = m) (ha : s 88 o = a) (he : s 109 m = e) (h : (0 ≤ o ∧ o < 22) ∧ (0 ≤ m ∧ m < 6) ∧ (-2147483648 ≤ a ∧ a < 2147483648) ∧ -2147483648 ≤ e ∧ e < 2147483648) : Wp (d + 1) 267 0 [.ref 87, .int (iI o), .ref 106] [] (hp X s) Q = Q (some (.int (iI (bZ (a ≤ e))))) (hp X s) := by
  refine wp_eq (fun rr hh er eh => ?_)
  repeat' (first | (with_reducible refine Br_i ?_ ?_ <;> (intro hbr; first | exact False.elim hbr | skip)) | (with_reducible refine Wl_i ?_) | (simp (disch := first | omega | exact okF _ | exact okI _ | exact okR _ | assumption | exact okN) only [u_at, iI_zero, iI_31, iI_add, iI_sub, iI_mul, iI_neg, ↓iI_max, ↓iI_min, iI_div, emod_f, iI_lt, iI_le, iI_inj, iI_toInt, ↓ii01, ↓ii11, ↓bI_b, bI_0, bI_1, Kt_s, Kt_n, cat0, cat1, cat2, cat3, cat4, rfV, Nat.reduceAdd, Nat.reduceMul, Nat.reduceEqDiff, Int.reduceAdd, Int.reduceSub, Int.reduceMul, Int.reduceNeg, Int.reduceLT, Int.reduceLE, Int.reduceEq, Int.reduceDiv, ↓reduceIte, ↓ite_ww, ↓ite_wi, Br_n, Br_TW, Br_FW, Br_FP, Br_FB, nn_p, and_true, true_and, and_self, true_or, or_true, not_true_eq_false, not_false_eq_true, le_T, le_F, lt_T, lt_F, eq_T, eq_F, Int.add_zero, Int.zero_add, Int.one_mul, Int.mul_one, up_eq, up_ne, Int.add_assoc, Int.add_sub_cancel, Int.sub_zero, Int.sub_self, S_267_0, S_267_1, S_267_4, S_267_5, S_267_8, S_267_9, S_267_12, S_267_15, S_267_16, S_267_19, S_267_20, S_267_23, S_267_26, S_267_27, S_267_30, S_267_31, H_87, H_106, c_cell_88, c_cell_93, c_cell_109, hm, ha, he]))
  all_goals (subst er; subst eh)
  all_goals first | exact Re_T rfl (by omega) rfl | exact Re_F rfl (by omega) rfl
theorem c_canBeHad_112 {m a e : Int} (hm : s 93 o = m) (ha : s 88 o = a) (he : s 115 m = e) (h : (0 ≤ o ∧ o < 22) ∧ (0 ≤ m ∧ m < 6) ∧ (-2147483648 ≤ a ∧ a < 2147483648) ∧ -2147483648 ≤ e ∧ e < 2147483648) : Wp (d + 1) 267 0 [.ref 87, .int (iI o), .ref 112] [] (hp X s) Q = Q (some (.int (iI (bZ (a ≤ e))))) (hp X s) := by
  refine wp_eq (fun rr hh er eh => ?_)
  repeat' (first | (with_reducible refine Br_i ?_ ?_ <;> (intro hbr; first | exact False.elim hbr | skip)) | (with_reducible refine Wl_i ?_) | (simp (disch := first | omega | exact okF _ | exact okI _ | exact okR _ | assumption | exact okN) only [u_at, iI_zero, iI_31, iI_add, iI_sub, iI_mul, iI_neg, ↓iI_max, ↓iI_min, iI_div, emod_f, iI_lt, iI_le, iI_inj, iI_toInt, ↓ii01, ↓ii11, ↓bI_b, bI_0, bI_1, Kt_s, Kt_n, cat0, cat1, cat2, cat3, cat4, rfV, Nat.reduceAdd, Nat.reduceMul, Nat.reduceEqDiff, Int.reduceAdd, Int.reduceSub, Int.reduceMul, Int.reduceNeg, Int.reduceLT, Int.reduceLE, Int.reduceEq, Int.reduceDiv, ↓reduceIte, ↓ite_ww, ↓ite_wi, Br_n, Br_TW, Br_FW, Br_FP, Br_FB, nn_p, and_true, true_and, and_self, true_or, or_true, not_true_eq_false, not_false_eq_true, le_T, le_F, lt_T, lt_F, eq_T, eq_F, Int.add_zero, Int.zero_add, Int.one_mul, Int.mul_one, up_eq, up_ne, Int.add_assoc, Int.add_sub_cancel, Int.sub_zero, Int.sub_self, S_267_0, S_267_1, S_267_4, S_267_5, S_267_8, S_267_9, S_267_12, S_267_15, S_267_16, S_267_19, S_267_20, S_267_23, S_267_26, S_267_27, S_267_30, S_267_31, H_87, H_112, c_cell_88, c_cell_93, c_cell_115, hm, ha, he]))
  all_goals (subst er; subst eh)
  all_goals first | exact Re_T rfl (by omega) rfl | exact Re_F rfl (by omega) rfl
/-- most, beside the favourite g -/
noncomputable def mst (v : Int → Int) (g : Int) : Int := if g = -1 then -1 else v g
theorem c_favourite_60 {y : yst} (W : WF0 A) (hw : ∀ o, 0 ≤ o → o < n → WO A o) (hm : ∀ o, 0 ≤ o → o < n → CO A l o s) (hn : 0 ≤ n ∧ n ≤ 22) (hb : 0 ≤ b ∧ b < A 2) (hL : ∀ m, 0 ≤ m → m < A 1 → s 63 m = y.2.1 m) (hy : yOK A y) : Wp (d + 2) 36 0 [.ref 87, .int (iI b), .int (iI n), .ref 60, .float 0, .float 0, .float 0, .float 0] [] (hp X s) Q = Q (some (.int (iI (yfav A l n b y)))) (hp X s) := by
  have w1 := W.1.2.1
  have w2 := W.1.2.2.1
  have loop : ∀ i, 0 ≤ i → i ≤ n → ∀ v7, okO v7 = true → Wp (d + 2) 36 9 [.ref 87, .int (iI b), .int (iI n), .ref 60, .int (iI (fav (avl A l y.2.1) (oOver A l b) i)), .int (iI (mst (oOver A l b) (fav (avl A l y.2.1) (oOver A l b) i))), .int (iI i), v7] [] (hp X s) Q = Q (some (.int (iI (yfav A l n b y)))) (hp X s) := by
    refine lp0 ?_ ?_
    · intro i h0 hi e v7 o7
      have hO := hw i h0 hi
      obtain ⟨m1, -, -, -, -, m6, m7⟩ := hm i h0 hi
      have m1 : s 88 i = oH A l i := m1
      have p1 := m7 b hb.1 hb.2
      have l1 := hL _ hO.1.1 hO.1.2
      have ly := hy.2 _ hO.1.1 hO.1.2
      have ho1 := hO.1
      have rh := oH_r (l := l) hO
      have ro := oOver_r (l := l) W hO hb
      have fr := fav_r (P := avl A l y.2.1) (v := oOver A l b) h0
      have fs := fav_s (P := avl A l y.2.1) (v := oOver A l b) h0
      have rf : ∀ z, 0 ≤ z → z < i → -1 ≤ oOver A l b z ∧ oOver A l b z ≤ 60000 := fun z a b2 => oOver_r (l := l) W (hw z a (by omega)) hb
      have av : avl A l y.2.1 i ↔ oH A l i ≤ y.2.1 (A (180 + 13 * i)) := Iff.rfl
      have mr : -1 ≤ mst (oOver A l b) (fav (avl A l y.2.1) (oOver A l b) i) ∧ mst (oOver A l b) (fav (avl A l y.2.1) (oOver A l b) i) ≤ 60000 := by
        unfold mst
        rcases fr with ⟨q, _⟩ | ⟨q0, q1, _⟩
        · rw [if_pos q]; decide
        · rw [if_neg (by omega)]; exact rf _ q0 q1
      have cc : (avl A l y.2.1 i ∧ 0 ≤ oOver A l b i ∧ (fav (avl A l y.2.1) (oOver A l b) i = -1 ∨ oOver A l b (fav (avl A l y.2.1) (oOver A l b) i) < oOver A l b i)) ↔ (avl A l y.2.1 i ∧ mst (oOver A l b) (fav (avl A l y.2.1) (oOver A l b) i) < oOver A l b i) := by
        unfold mst
        rcases fr with ⟨q, _⟩ | ⟨q0, q1, q2, q3⟩
        · rw [if_pos q]
          exact ⟨fun x => ⟨x.1, by omega⟩, fun x => ⟨x.1, by omega, Or.inl q⟩⟩
        · rw [if_neg (by omega)]
          exact ⟨fun x => ⟨x.1, by omega⟩, fun x => ⟨x.1, by omega, Or.inr x.2⟩⟩
      have mi : mst (oOver A l b) i = oOver A l b i := if_neg (by omega)
      have ch := fun (d : Nat) (Q : Option Value → aH → Prop) => c_canBeHad_60 (d := d) (X := X) (Q := Q) m6 m1 l1 (by omega)
      have ov := fun (d : Nat) (Q : Option Value → aH → Prop) => c_overTo (d := d) (X := X) (s := s) (Q := Q) (b := b) (o := i) (by omega)
      rw [p1] at ov
      rw [← e (.int (iI (oOver A l b i))) rfl, fs]
      clear fs e
      generalize fav (avl A l y.2.1) (oOver A l b) i = g at *
      have fr2 : g = -1 ∨ (0 ≤ g ∧ g < i) := by omega
      clear fr
      rw [S_36_9]
      by_cases c : avl A l y.2.1 i ∧ mst (oOver A l b) g < oOver A l b i
      · rw [if_pos (cc.mpr c), mi]
        obtain ⟨c1, c2⟩ := c
        have c1 := av.mp c1
        simp (disch := first | omega | exact okF _ | exact okI _ | exact okR _ | assumption | exact okN) only [S_36_0, S_36_1, S_36_3, S_36_4, S_36_6, S_36_7, S_36_11, S_36_12, S_36_15, S_36_15_n, S_36_16, S_36_17, S_36_19, S_36_22, S_36_24, S_36_26, S_36_28, S_36_31, S_36_31_n, S_36_32, S_36_32_n, S_36_35, S_36_35_n, S_36_36, S_36_38, S_36_38_n, S_36_39, S_36_42, S_36_45, S_36_47, S_36_49, S_36_51, S_36_53, S_36_56, S_36_59, S_36_61, u_at, iI_zero, iI_31, iI_add, iI_sub, iI_mul, iI_neg, ↓iI_max, ↓iI_min, iI_div, emod_f, iI_lt, iI_le, iI_inj, iI_toInt, ↓ii01, ↓ii11, ↓bI_b, bI_0, bI_1, Kt_s, Kt_n, cat0, cat1, cat2, cat3, cat4, rfV, Nat.reduceAdd, Nat.reduceMul, Nat.reduceEqDiff, Int.reduceAdd, Int.reduceSub, Int.reduceMul, Int.reduceNeg, Int.reduceLT, Int.reduceLE, Int.reduceEq, Int.reduceDiv, ↓reduceIte, ↓ite_ww, ↓ite_wi, Br_n, Br_TW, Br_FW, Br_FP, Br_FB, nn_p, and_true, true_and, and_self, true_or, or_true, not_true_eq_false, not_false_eq_true, le_T, le_F, lt_T, lt_F, eq_T, eq_F, Int.add_zero, Int.zero_add, Int.one_mul, Int.mul_one, up_eq, up_ne, Int.add_assoc, Int.add_sub_cancel, Int.sub_zero, Int.sub_self, H_87, ch, ov]
      · rw [if_neg (fun q => c (cc.mp q))]
        rw [av] at c
        by_cases x0 : mst (oOver A l b) g < oOver A l b i
        · simp (disch := first | omega | exact okF _ | exact okI _ | exact okR _ | assumption | exact okN) only [S_36_0, S_36_1, S_36_3, S_36_4, S_36_6, S_36_7, S_36_11, S_36_12, S_36_15, S_36_15_n, S_36_16, S_36_17, S_36_19, S_36_22, S_36_24, S_36_26, S_36_28, S_36_31, S_36_31_n, S_36_32, S_36_32_n, S_36_35, S_36_35_n, S_36_36, S_36_38, S_36_38_n, S_36_39, S_36_42, S_36_45, S_36_47, S_36_49, S_36_51, S_36_53, S_36_56, S_36_59, S_36_61, u_at, iI_zero, iI_31, iI_add, iI_sub, iI_mul, iI_neg, ↓iI_max, ↓iI_min, iI_div, emod_f, iI_lt, iI_le, iI_inj, iI_toInt, ↓ii01, ↓ii11, ↓bI_b, bI_0, bI_1, Kt_s, Kt_n, cat0, cat1, cat2, cat3, cat4, rfV, Nat.reduceAdd, Nat.reduceMul, Nat.reduceEqDiff, Int.reduceAdd, Int.reduceSub, Int.reduceMul, Int.reduceNeg, Int.reduceLT, Int.reduceLE, Int.reduceEq, Int.reduceDiv, ↓reduceIte, ↓ite_ww, ↓ite_wi, Br_n, Br_TW, Br_FW, Br_FP, Br_FB, nn_p, and_true, true_and, and_self, true_or, or_true, not_true_eq_false, not_false_eq_true, le_T, le_F, lt_T, lt_F, eq_T, eq_F, Int.add_zero, Int.zero_add, Int.one_mul, Int.mul_one, up_eq, up_ne, Int.add_assoc, Int.add_sub_cancel, Int.sub_zero, Int.sub_self, H_87, ch, ov]
        · simp (disch := first | omega | exact okF _ | exact okI _ | exact okR _ | assumption | exact okN) only [S_36_0, S_36_1, S_36_3, S_36_4, S_36_6, S_36_7, S_36_11, S_36_12, S_36_15, S_36_15_n, S_36_16, S_36_17, S_36_19, S_36_22, S_36_24, S_36_26, S_36_28, S_36_31, S_36_31_n, S_36_32, S_36_32_n, S_36_35, S_36_35_n, S_36_36, S_36_38, S_36_38_n, S_36_39, S_36_42, S_36_45, S_36_47, S_36_49, S_36_51, S_36_53, S_36_56, S_36_59, S_36_61, u_at, iI_zero, iI_31, iI_add, iI_sub, iI_mul, iI_neg, ↓iI_max, ↓iI_min, iI_div, emod_f, iI_lt, iI_le, iI_inj, iI_toInt, ↓ii01, ↓ii11, ↓bI_b, bI_0, bI_1, Kt_s, Kt_n, cat0, cat1, cat2, cat3, cat4, rfV, Nat.reduceAdd, Nat.reduceMul, Nat.reduceEqDiff, Int.reduceAdd, Int.reduceSub, Int.reduceMul, Int.reduceNeg, Int.reduceLT, Int.reduceLE, Int.reduceEq, Int.reduceDiv, ↓reduceIte, ↓ite_ww, ↓ite_wi, Br_n, Br_TW, Br_FW, Br_FP, Br_FB, nn_p, and_true, true_and, and_self, true_or, or_true, not_true_eq_false, not_false_eq_true, le_T, le_F, lt_T, lt_F, eq_T, eq_F, Int.add_zero, Int.zero_add, Int.one_mul, Int.mul_one, up_eq, up_ne, Int.add_assoc, Int.add_sub_cancel, Int.sub_zero, Int.sub_self, H_87, ch, ov]
    · intro v7 o7
      rw [S_36_9]
      simp (disch := first | omega | exact okF _ | exact okI _ | exact okR _ | assumption | exact okN) only [S_36_0, S_36_1, S_36_3, S_36_4, S_36_6, S_36_7, S_36_11, S_36_12, S_36_15, S_36_15_n, S_36_16, S_36_17, S_36_19, S_36_22, S_36_24, S_36_26, S_36_28, S_36_31, S_36_31_n, S_36_32, S_36_32_n, S_36_35, S_36_35_n, S_36_36, S_36_38, S_36_38_n, S_36_39, S_36_42, S_36_45, S_36_47, S_36_49, S_36_51, S_36_53, S_36_56, S_36_59, S_36_61, u_at, iI_zero, iI_31, iI_add, iI_sub, iI_mul, iI_neg, ↓iI_max, ↓iI_min, iI_div, emod_f, iI_lt, iI_le, iI_inj, iI_toInt, ↓ii01, ↓ii11, ↓bI_b, bI_0, bI_1, Kt_s, Kt_n, cat0, cat1, cat2, cat3, cat4, rfV, Nat.reduceAdd, Nat.reduceMul, Nat.reduceEqDiff, Int.reduceAdd, Int.reduceSub, Int.reduceMul, Int.reduceNeg, Int.reduceLT, Int.reduceLE, Int.reduceEq, Int.reduceDiv, ↓reduceIte, ↓ite_ww, ↓ite_wi, Br_n, Br_TW, Br_FW, Br_FP, Br_FB, nn_p, and_true, true_and, and_self, true_or, or_true, not_true_eq_false, not_false_eq_true, le_T, le_F, lt_T, lt_F, eq_T, eq_F, Int.add_zero, Int.zero_add, Int.one_mul, Int.mul_one, up_eq, up_ne, Int.add_assoc, Int.add_sub_cancel, Int.sub_zero, Int.sub_self]
      rfl
  have l0 := loop 0 (by omega) hn.1 (.float 0) rfl
  have m0 : mst (oOver A l b) (-1) = -1 := if_pos rfl
  rw [fav_0, m0] at l0
  rw [← l0]
  simp (disch := first | omega | exact okF _ | exact okI _ | exact okR _ | assumption | exact okN) only [S_36_0, S_36_1, S_36_3, S_36_4, S_36_6, S_36_7, S_36_11, S_36_12, S_36_15, S_36_15_n, S_36_16, S_36_17, S_36_19, S_36_22, S_36_24, S_36_26, S_36_28, S_36_31, S_36_31_n, S_36_32, S_36_32_n, S_36_35, S_36_35_n, S_36_36, S_36_38, S_36_38_n, S_36_39, S_36_42, S_36_45, S_36_47, S_36_49, S_36_51, S_36_53, S_36_56, S_36_59, S_36_61, u_at, iI_zero, iI_31, iI_add, iI_sub, iI_mul, iI_neg, ↓iI_max, ↓iI_min, iI_div, emod_f, iI_lt, iI_le, iI_inj, iI_toInt, ↓ii01, ↓ii11, ↓bI_b, bI_0, bI_1, Kt_s, Kt_n, cat0, cat1, cat2, cat3, cat4, rfV, Nat.reduceAdd, Nat.reduceMul, Nat.reduceEqDiff, Int.reduceAdd, Int.reduceSub, Int.reduceMul, Int.reduceNeg, Int.reduceLT, Int.reduceLE, Int.reduceEq, Int.reduceDiv, ↓reduceIte, ↓ite_ww, ↓ite_wi, Br_n, Br_TW, Br_FW, Br_FP, Br_FB, nn_p, and_true, true_and, and_self, true_or, or_true, not_true_eq_false, not_false_eq_true, le_T, le_F, lt_T, lt_F, eq_T, eq_F, Int.add_zero, Int.zero_add, Int.one_mul, Int.mul_one, up_eq, up_ne, Int.add_assoc, Int.add_sub_cancel, Int.sub_zero, Int.sub_self]
theorem c_favourite_106 {y : yst} (W : WF0 A) (hw : ∀ o, 0 ≤ o → o < n → WO A o) (hm : ∀ o, 0 ≤ o → o < n → CO A l o s) (hn : 0 ≤ n ∧ n ≤ 22) (hb : 0 ≤ b ∧ b < A 2) (hL : ∀ m, 0 ≤ m → m < A 1 → s 109 m = y.2.1 m) (hy : yOK A y) : Wp (d + 2) 36 0 [.ref 87, .int (iI b), .int (iI n), .ref 106, .float 0, .float 0, .float 0, .float 0] [] (hp X s) Q = Q (some (.int (iI (yfav A l n b y)))) (hp X s) := by
  have w1 := W.1.2.1
  have w2 := W.1.2.2.1
  have loop : ∀ i, 0 ≤ i → i ≤ n → ∀ v7, okO v7 = true → Wp (d + 2) 36 9 [.ref 87, .int (iI b), .int (iI n), .ref 106, .int (iI (fav (avl A l y.2.1) (oOver A l b) i)), .int (iI (mst (oOver A l b) (fav (avl A l y.2.1) (oOver A l b) i))), .int (iI i), v7] [] (hp X s) Q = Q (some (.int (iI (yfav A l n b y)))) (hp X s) := by
    refine lp0 ?_ ?_
    · intro i h0 hi e v7 o7
      have hO := hw i h0 hi
      obtain ⟨m1, -, -, -, -, m6, m7⟩ := hm i h0 hi
      have m1 : s 88 i = oH A l i := m1
      have p1 := m7 b hb.1 hb.2
      have l1 := hL _ hO.1.1 hO.1.2
      have ly := hy.2 _ hO.1.1 hO.1.2
      have ho1 := hO.1
      have rh := oH_r (l := l) hO
      have ro := oOver_r (l := l) W hO hb
      have fr := fav_r (P := avl A l y.2.1) (v := oOver A l b) h0
      have fs := fav_s (P := avl A l y.2.1) (v := oOver A l b) h0
      have rf : ∀ z, 0 ≤ z → z < i → -1 ≤ oOver A l b z ∧ oOver A l b z ≤ 60000 := fun z a b2 => oOver_r (l := l) W (hw z a (by omega)) hb
      have av : avl A l y.2.1 i ↔ oH A l i ≤ y.2.1 (A (180 + 13 * i)) := Iff.rfl
      have mr : -1 ≤ mst (oOver A l b) (fav (avl A l y.2.1) (oOver A l b) i) ∧ mst (oOver A l b) (fav (avl A l y.2.1) (oOver A l b) i) ≤ 60000 := by
        unfold mst
        rcases fr with ⟨q, _⟩ | ⟨q0, q1, _⟩
        · rw [if_pos q]; decide
        · rw [if_neg (by omega)]; exact rf _ q0 q1
      have cc : (avl A l y.2.1 i ∧ 0 ≤ oOver A l b i ∧ (fav (avl A l y.2.1) (oOver A l b) i = -1 ∨ oOver A l b (fav (avl A l y.2.1) (oOver A l b) i) < oOver A l b i)) ↔ (avl A l y.2.1 i ∧ mst (oOver A l b) (fav (avl A l y.2.1) (oOver A l b) i) < oOver A l b i) := by
        unfold mst
        rcases fr with ⟨q, _⟩ | ⟨q0, q1, q2, q3⟩
        · rw [if_pos q]
          exact ⟨fun x => ⟨x.1, by omega⟩, fun x => ⟨x.1, by omega, Or.inl q⟩⟩
        · rw [if_neg (by omega)]
          exact ⟨fun x => ⟨x.1, by omega⟩, fun x => ⟨x.1, by omega, Or.inr x.2⟩⟩
      have mi : mst (oOver A l b) i = oOver A l b i := if_neg (by omega)
      have ch := fun (d : Nat) (Q : Option Value → aH → Prop) => c_canBeHad_106 (d := d) (X := X) (Q := Q) m6 m1 l1 (by omega)
      have ov := fun (d : Nat) (Q : Option Value → aH → Prop) => c_overTo (d := d) (X := X) (s := s) (Q := Q) (b := b) (o := i) (by omega)
      rw [p1] at ov
      rw [← e (.int (iI (oOver A l b i))) rfl, fs]
      clear fs e
      generalize fav (avl A l y.2.1) (oOver A l b) i = g at *
      have fr2 : g = -1 ∨ (0 ≤ g ∧ g < i) := by omega
      clear fr
      rw [S_36_9]
      by_cases c : avl A l y.2.1 i ∧ mst (oOver A l b) g < oOver A l b i
      · rw [if_pos (cc.mpr c), mi]
        obtain ⟨c1, c2⟩ := c
        have c1 := av.mp c1
        simp (disch := first | omega | exact okF _ | exact okI _ | exact okR _ | assumption | exact okN) only [S_36_0, S_36_1, S_36_3, S_36_4, S_36_6, S_36_7, S_36_11, S_36_12, S_36_15, S_36_15_n, S_36_16, S_36_17, S_36_19, S_36_22, S_36_24, S_36_26, S_36_28, S_36_31, S_36_31_n, S_36_32, S_36_32_n, S_36_35, S_36_35_n, S_36_36, S_36_38, S_36_38_n, S_36_39, S_36_42, S_36_45, S_36_47, S_36_49, S_36_51, S_36_53, S_36_56, S_36_59, S_36_61, u_at, iI_zero, iI_31, iI_add, iI_sub, iI_mul, iI_neg, ↓iI_max, ↓iI_min, iI_div, emod_f, iI_lt, iI_le, iI_inj, iI_toInt, ↓ii01, ↓ii11, ↓bI_b, bI_0, bI_1, Kt_s, Kt_n, cat0, cat1, cat2, cat3, cat4, rfV, Nat.reduceAdd, Nat.reduceMul, Nat.reduceEqDiff, Int.reduceAdd, Int.reduceSub, Int.reduceMul, Int.reduceNeg, Int.reduceLT, Int.reduceLE, Int.reduceEq, Int.reduceDiv, ↓reduceIte, ↓ite_ww, ↓ite_wi, Br_n, Br_TW, Br_FW, Br_FP, Br_FB, nn_p, and_true, true_and, and_self, true_or, or_true, not_true_eq_false, not_false_eq_true, le_T, le_F, lt_T, lt_F, eq_T, eq_F, Int.add_zero, Int.zero_add, Int.one_mul, Int.mul_one, up_eq, up_ne, Int.add_assoc, Int.add_sub_cancel, Int.sub_zero, Int.sub_self, H_87, ch, ov]
      · rw [if_neg (fun q => c (cc.mp q))]
        rw [av] at c
        by_cases x0 : mst (oOver A l b) g < oOver A l b i
        · simp (disch := first | omega | exact okF _ | exact okI _ | exact okR _ | assumption | exact okN) only [S_36_0, S_36_1, S_36_3, S_36_4, S_36_6, S_36_7, S_36_11, S_36_12, S_36_15, S_36_15_n, S_36_16, S_36_17, S_36_19, S_36_22, S_36_24, S_36_26, S_36_28, S_36_31, S_36_31_n, S_36_32, S_36_32_n, S_36_35, S_36_35_n, S_36_36, S_36_38, S_36_38_n, S_36_39, S_36_42, S_36_45, S_36_47, S_36_49, S_36_51, S_36_53, S_36_56, S_36_59, S_36_61, u_at, iI_zero, iI_31, iI_add, iI_sub, iI_mul, iI_neg, ↓iI_max, ↓iI_min, iI_div, emod_f, iI_lt, iI_le, iI_inj, iI_toInt, ↓ii01, ↓ii11, ↓bI_b, bI_0, bI_1, Kt_s, Kt_n, cat0, cat1, cat2, cat3, cat4, rfV, Nat.reduceAdd, Nat.reduceMul, Nat.reduceEqDiff, Int.reduceAdd, Int.reduceSub, Int.reduceMul, Int.reduceNeg, Int.reduceLT, Int.reduceLE, Int.reduceEq, Int.reduceDiv, ↓reduceIte, ↓ite_ww, ↓ite_wi, Br_n, Br_TW, Br_FW, Br_FP, Br_FB, nn_p, and_true, true_and, and_self, true_or, or_true, not_true_eq_false, not_false_eq_true, le_T, le_F, lt_T, lt_F, eq_T, eq_F, Int.add_zero, Int.zero_add, Int.one_mul, Int.mul_one, up_eq, up_ne, Int.add_assoc, Int.add_sub_cancel, Int.sub_zero, Int.sub_self, H_87, ch, ov]
        · simp (disch := first | omega | exact okF _ | exact okI _ | exact okR _ | assumption | exact okN) only [S_36_0, S_36_1, S_36_3, S_36_4, S_36_6, S_36_7, S_36_11, S_36_12, S_36_15, S_36_15_n, S_36_16, S_36_17, S_36_19, S_36_22, S_36_24, S_36_26, S_36_28, S_36_31, S_36_31_n, S_36_32, S_36_32_n, S_36_35, S_36_35_n, S_36_36, S_36_38, S_36_38_n, S_36_39, S_36_42, S_36_45, S_36_47, S_36_49, S_36_51, S_36_53, S_36_56, S_36_59, S_36_61, u_at, iI_zero, iI_31, iI_add, iI_sub, iI_mul, iI_neg, ↓iI_max, ↓iI_min, iI_div, emod_f, iI_lt, iI_le, iI_inj, iI_toInt, ↓ii01, ↓ii11, ↓bI_b, bI_0, bI_1, Kt_s, Kt_n, cat0, cat1, cat2, cat3, cat4, rfV, Nat.reduceAdd, Nat.reduceMul, Nat.reduceEqDiff, Int.reduceAdd, Int.reduceSub, Int.reduceMul, Int.reduceNeg, Int.reduceLT, Int.reduceLE, Int.reduceEq, Int.reduceDiv, ↓reduceIte, ↓ite_ww, ↓ite_wi, Br_n, Br_TW, Br_FW, Br_FP, Br_FB, nn_p, and_true, true_and, and_self, true_or, or_true, not_true_eq_false, not_false_eq_true, le_T, le_F, lt_T, lt_F, eq_T, eq_F, Int.add_zero, Int.zero_add, Int.one_mul, Int.mul_one, up_eq, up_ne, Int.add_assoc, Int.add_sub_cancel, Int.sub_zero, Int.sub_self, H_87, ch, ov]
    · intro v7 o7
      rw [S_36_9]
      simp (disch := first | omega | exact okF _ | exact okI _ | exact okR _ | assumption | exact okN) only [S_36_0, S_36_1, S_36_3, S_36_4, S_36_6, S_36_7, S_36_11, S_36_12, S_36_15, S_36_15_n, S_36_16, S_36_17, S_36_19, S_36_22, S_36_24, S_36_26, S_36_28, S_36_31, S_36_31_n, S_36_32, S_36_32_n, S_36_35, S_36_35_n, S_36_36, S_36_38, S_36_38_n, S_36_39, S_36_42, S_36_45, S_36_47, S_36_49, S_36_51, S_36_53, S_36_56, S_36_59, S_36_61, u_at, iI_zero, iI_31, iI_add, iI_sub, iI_mul, iI_neg, ↓iI_max, ↓iI_min, iI_div, emod_f, iI_lt, iI_le, iI_inj, iI_toInt, ↓ii01, ↓ii11, ↓bI_b, bI_0, bI_1, Kt_s, Kt_n, cat0, cat1, cat2, cat3, cat4, rfV, Nat.reduceAdd, Nat.reduceMul, Nat.reduceEqDiff, Int.reduceAdd, Int.reduceSub, Int.reduceMul, Int.reduceNeg, Int.reduceLT, Int.reduceLE, Int.reduceEq, Int.reduceDiv, ↓reduceIte, ↓ite_ww, ↓ite_wi, Br_n, Br_TW, Br_FW, Br_FP, Br_FB, nn_p, and_true, true_and, and_self, true_or, or_true, not_true_eq_false, not_false_eq_true, le_T, le_F, lt_T, lt_F, eq_T, eq_F, Int.add_zero, Int.zero_add, Int.one_mul, Int.mul_one, up_eq, up_ne, Int.add_assoc, Int.add_sub_cancel, Int.sub_zero, Int.sub_self]
      rfl
  have l0 := loop 0 (by omega) hn.1 (.float 0) rfl
  have m0 : mst (oOver A l b) (-1) = -1 := if_pos rfl
  rw [fav_0, m0] at l0
  rw [← l0]
  simp (disch := first | omega | exact okF _ | exact okI _ | exact okR _ | assumption | exact okN) only [S_36_0, S_36_1, S_36_3, S_36_4, S_36_6, S_36_7, S_36_11, S_36_12, S_36_15, S_36_15_n, S_36_16, S_36_17, S_36_19, S_36_22, S_36_24, S_36_26, S_36_28, S_36_31, S_36_31_n, S_36_32, S_36_32_n, S_36_35, S_36_35_n, S_36_36, S_36_38, S_36_38_n, S_36_39, S_36_42, S_36_45, S_36_47, S_36_49, S_36_51, S_36_53, S_36_56, S_36_59, S_36_61, u_at, iI_zero, iI_31, iI_add, iI_sub, iI_mul, iI_neg, ↓iI_max, ↓iI_min, iI_div, emod_f, iI_lt, iI_le, iI_inj, iI_toInt, ↓ii01, ↓ii11, ↓bI_b, bI_0, bI_1, Kt_s, Kt_n, cat0, cat1, cat2, cat3, cat4, rfV, Nat.reduceAdd, Nat.reduceMul, Nat.reduceEqDiff, Int.reduceAdd, Int.reduceSub, Int.reduceMul, Int.reduceNeg, Int.reduceLT, Int.reduceLE, Int.reduceEq, Int.reduceDiv, ↓reduceIte, ↓ite_ww, ↓ite_wi, Br_n, Br_TW, Br_FW, Br_FP, Br_FB, nn_p, and_true, true_and, and_self, true_or, or_true, not_true_eq_false, not_false_eq_true, le_T, le_F, lt_T, lt_F, eq_T, eq_F, Int.add_zero, Int.zero_add, Int.one_mul, Int.mul_one, up_eq, up_ne, Int.add_assoc, Int.add_sub_cancel, Int.sub_zero, Int.sub_self]
theorem c_favourite_112 {y : yst} (W : WF0 A) (hw : ∀ o, 0 ≤ o → o < n → WO A o) (hm : ∀ o, 0 ≤ o → o < n → CO A l o s) (hn : 0 ≤ n ∧ n ≤ 22) (hb : 0 ≤ b ∧ b < A 2) (hL : ∀ m, 0 ≤ m → m < A 1 → s 115 m = y.2.1 m) (hy : yOK A y) : Wp (d + 2) 36 0 [.ref 87, .int (iI b), .int (iI n), .ref 112, .float 0, .float 0, .float 0, .float 0] [] (hp X s) Q = Q (some (.int (iI (yfav A l n b y)))) (hp X s) := by
  have w1 := W.1.2.1
  have w2 := W.1.2.2.1
  have loop : ∀ i, 0 ≤ i → i ≤ n → ∀ v7, okO v7 = true → Wp (d + 2) 36 9 [.ref 87, .int (iI b), .int (iI n), .ref 112, .int (iI (fav (avl A l y.2.1) (oOver A l b) i)), .int (iI (mst (oOver A l b) (fav (avl A l y.2.1) (oOver A l b) i))), .int (iI i), v7] [] (hp X s) Q = Q (some (.int (iI (yfav A l n b y)))) (hp X s) := by
    refine lp0 ?_ ?_
    · intro i h0 hi e v7 o7
      have hO := hw i h0 hi
      obtain ⟨m1, -, -, -, -, m6, m7⟩ := hm i h0 hi
      have m1 : s 88 i = oH A l i := m1
      have p1 := m7 b hb.1 hb.2
      have l1 := hL _ hO.1.1 hO.1.2
      have ly := hy.2 _ hO.1.1 hO.1.2
      have ho1 := hO.1
      have rh := oH_r (l := l) hO
      have ro := oOver_r (l := l) W hO hb
      have fr := fav_r (P := avl A l y.2.1) (v := oOver A l b) h0
      have fs := fav_s (P := avl A l y.2.1) (v := oOver A l b) h0
      have rf : ∀ z, 0 ≤ z → z < i → -1 ≤ oOver A l b z ∧ oOver A l b z ≤ 60000 := fun z a b2 => oOver_r (l := l) W (hw z a (by omega)) hb
      have av : avl A l y.2.1 i ↔ oH A l i ≤ y.2.1 (A (180 + 13 * i)) := Iff.rfl
      have mr : -1 ≤ mst (oOver A l b) (fav (avl A l y.2.1) (oOver A l b) i) ∧ mst (oOver A l b) (fav (avl A l y.2.1) (oOver A l b) i) ≤ 60000 := by
        unfold mst
        rcases fr with ⟨q, _⟩ | ⟨q0, q1, _⟩
        · rw [if_pos q]; decide
        · rw [if_neg (by omega)]; exact rf _ q0 q1
      have cc : (avl A l y.2.1 i ∧ 0 ≤ oOver A l b i ∧ (fav (avl A l y.2.1) (oOver A l b) i = -1 ∨ oOver A l b (fav (avl A l y.2.1) (oOver A l b) i) < oOver A l b i)) ↔ (avl A l y.2.1 i ∧ mst (oOver A l b) (fav (avl A l y.2.1) (oOver A l b) i) < oOver A l b i) := by
        unfold mst
        rcases fr with ⟨q, _⟩ | ⟨q0, q1, q2, q3⟩
        · rw [if_pos q]
          exact ⟨fun x => ⟨x.1, by omega⟩, fun x => ⟨x.1, by omega, Or.inl q⟩⟩
        · rw [if_neg (by omega)]
          exact ⟨fun x => ⟨x.1, by omega⟩, fun x => ⟨x.1, by omega, Or.inr x.2⟩⟩
      have mi : mst (oOver A l b) i = oOver A l b i := if_neg (by omega)
      have ch := fun (d : Nat) (Q : Option Value → aH → Prop) => c_canBeHad_112 (d := d) (X := X) (Q := Q) m6 m1 l1 (by omega)
      have ov := fun (d : Nat) (Q : Option Value → aH → Prop) => c_overTo (d := d) (X := X) (s := s) (Q := Q) (b := b) (o := i) (by omega)
      rw [p1] at ov
      rw [← e (.int (iI (oOver A l b i))) rfl, fs]
      clear fs e
      generalize fav (avl A l y.2.1) (oOver A l b) i = g at *
      have fr2 : g = -1 ∨ (0 ≤ g ∧ g < i) := by omega
      clear fr
      rw [S_36_9]
      by_cases c : avl A l y.2.1 i ∧ mst (oOver A l b) g < oOver A l b i
      · rw [if_pos (cc.mpr c), mi]
        obtain ⟨c1, c2⟩ := c
        have c1 := av.mp c1
        simp (disch := first | omega | exact okF _ | exact okI _ | exact okR _ | assumption | exact okN) only [S_36_0, S_36_1, S_36_3, S_36_4, S_36_6, S_36_7, S_36_11, S_36_12, S_36_15, S_36_15_n, S_36_16, S_36_17, S_36_19, S_36_22, S_36_24, S_36_26, S_36_28, S_36_31, S_36_31_n, S_36_32, S_36_32_n, S_36_35, S_36_35_n, S_36_36, S_36_38, S_36_38_n, S_36_39, S_36_42, S_36_45, S_36_47, S_36_49, S_36_51, S_36_53, S_36_56, S_36_59, S_36_61, u_at, iI_zero, iI_31, iI_add, iI_sub, iI_mul, iI_neg, ↓iI_max, ↓iI_min, iI_div, emod_f, iI_lt, iI_le, iI_inj, iI_toInt, ↓ii01, ↓ii11, ↓bI_b, bI_0, bI_1, Kt_s, Kt_n, cat0, cat1, cat2, cat3, cat4, rfV, Nat.reduceAdd, Nat.reduceMul, Nat.reduceEqDiff, Int.reduceAdd, Int.reduceSub, Int.reduceMul, Int.reduceNeg, Int.reduceLT, Int.reduceLE, Int.reduceEq, Int.reduceDiv, ↓reduceIte, ↓ite_ww, ↓ite_wi, Br_n, Br_TW, Br_FW, Br_FP, Br_FB, nn_p, and_true, true_and, and_self, true_or, or_true, not_true_eq_false, not_false_eq_true, le_T, le_F, lt_T, lt_F, eq_T, eq_F, Int.add_zero, Int.zero_add, Int.one_mul, Int.mul_one, up_eq, up_ne, Int.add_assoc, Int.add_sub_cancel, Int.sub_zero, Int.sub_self, H_87, ch, ov]
      · rw [if_neg (fun q => c (cc.mp q))]
        rw [av] at c
        by_cases x0 : mst (oOver A l b) g < oOver A l b i
        · simp (disch := first | omega | exact okF _ | exact okI _ | exact okR _ | assumption | exact okN) only [S_36_0, S_36_1, S_36_3, S_36_4, S_36_6, S_36_7, S_36_11, S_36_12, S_36_15, S_36_15_n, S_36_16, S_36_17, S_36_19, S_36_22, S_36_24, S_36_26, S_36_28, S_36_31, S_36_31_n, S_36_32, S_36_32_n, S_36_35, S_36_35_n, S_36_36, S_36_38, S_36_38_n, S_36_39, S_36_42, S_36_45, S_36_47, S_36_49, S_36_51, S_36_53, S_36_56, S_36_59, S_36_61, u_at, iI_zero, iI_31, iI_add, iI_sub, iI_mul, iI_neg, ↓iI_max, ↓iI_min, iI_div, emod_f, iI_lt, iI_le, iI_inj, iI_toInt, ↓ii01, ↓ii11, ↓bI_b, bI_0, bI_1, Kt_s, Kt_n, cat0, cat1, cat2, cat3, cat4, rfV, Nat.reduceAdd, Nat.reduceMul, Nat.reduceEqDiff, Int.reduceAdd, Int.reduceSub, Int.reduceMul, Int.reduceNeg, Int.reduceLT, Int.reduceLE, Int.reduceEq, Int.reduceDiv, ↓reduceIte, ↓ite_ww, ↓ite_wi, Br_n, Br_TW, Br_FW, Br_FP, Br_FB, nn_p, and_true, true_and, and_self, true_or, or_true, not_true_eq_false, not_false_eq_true, le_T, le_F, lt_T, lt_F, eq_T, eq_F, Int.add_zero, Int.zero_add, Int.one_mul, Int.mul_one, up_eq, up_ne, Int.add_assoc, Int.add_sub_cancel, Int.sub_zero, Int.sub_self, H_87, ch, ov]
        · simp (disch := first | omega | exact okF _ | exact okI _ | exact okR _ | assumption | exact okN) only [S_36_0, S_36_1, S_36_3, S_36_4, S_36_6, S_36_7, S_36_11, S_36_12, S_36_15, S_36_15_n, S_36_16, S_36_17, S_36_19, S_36_22, S_36_24, S_36_26, S_36_28, S_36_31, S_36_31_n, S_36_32, S_36_32_n, S_36_35, S_36_35_n, S_36_36, S_36_38, S_36_38_n, S_36_39, S_36_42, S_36_45, S_36_47, S_36_49, S_36_51, S_36_53, S_36_56, S_36_59, S_36_61, u_at, iI_zero, iI_31, iI_add, iI_sub, iI_mul, iI_neg, ↓iI_max, ↓iI_min, iI_div, emod_f, iI_lt, iI_le, iI_inj, iI_toInt, ↓ii01, ↓ii11, ↓bI_b, bI_0, bI_1, Kt_s, Kt_n, cat0, cat1, cat2, cat3, cat4, rfV, Nat.reduceAdd, Nat.reduceMul, Nat.reduceEqDiff, Int.reduceAdd, Int.reduceSub, Int.reduceMul, Int.reduceNeg, Int.reduceLT, Int.reduceLE, Int.reduceEq, Int.reduceDiv, ↓reduceIte, ↓ite_ww, ↓ite_wi, Br_n, Br_TW, Br_FW, Br_FP, Br_FB, nn_p, and_true, true_and, and_self, true_or, or_true, not_true_eq_false, not_false_eq_true, le_T, le_F, lt_T, lt_F, eq_T, eq_F, Int.add_zero, Int.zero_add, Int.one_mul, Int.mul_one, up_eq, up_ne, Int.add_assoc, Int.add_sub_cancel, Int.sub_zero, Int.sub_self, H_87, ch, ov]
    · intro v7 o7
      rw [S_36_9]
      simp (disch := first | omega | exact okF _ | exact okI _ | exact okR _ | assumption | exact okN) only [S_36_0, S_36_1, S_36_3, S_36_4, S_36_6, S_36_7, S_36_11, S_36_12, S_36_15, S_36_15_n, S_36_16, S_36_17, S_36_19, S_36_22, S_36_24, S_36_26, S_36_28, S_36_31, S_36_31_n, S_36_32, S_36_32_n, S_36_35, S_36_35_n, S_36_36, S_36_38, S_36_38_n, S_36_39, S_36_42, S_36_45, S_36_47, S_36_49, S_36_51, S_36_53, S_36_56, S_36_59, S_36_61, u_at, iI_zero, iI_31, iI_add, iI_sub, iI_mul, iI_neg, ↓iI_max, ↓iI_min, iI_div, emod_f, iI_lt, iI_le, iI_inj, iI_toInt, ↓ii01, ↓ii11, ↓bI_b, bI_0, bI_1, Kt_s, Kt_n, cat0, cat1, cat2, cat3, cat4, rfV, Nat.reduceAdd, Nat.reduceMul, Nat.reduceEqDiff, Int.reduceAdd, Int.reduceSub, Int.reduceMul, Int.reduceNeg, Int.reduceLT, Int.reduceLE, Int.reduceEq, Int.reduceDiv, ↓reduceIte, ↓ite_ww, ↓ite_wi, Br_n, Br_TW, Br_FW, Br_FP, Br_FB, nn_p, and_true, true_and, and_self, true_or, or_true, not_true_eq_false, not_false_eq_true, le_T, le_F, lt_T, lt_F, eq_T, eq_F, Int.add_zero, Int.zero_add, Int.one_mul, Int.mul_one, up_eq, up_ne, Int.add_assoc, Int.add_sub_cancel, Int.sub_zero, Int.sub_self]
      rfl
  have l0 := loop 0 (by omega) hn.1 (.float 0) rfl
  have m0 : mst (oOver A l b) (-1) = -1 := if_pos rfl
  rw [fav_0, m0] at l0
  rw [← l0]
  simp (disch := first | omega | exact okF _ | exact okI _ | exact okR _ | assumption | exact okN) only [S_36_0, S_36_1, S_36_3, S_36_4, S_36_6, S_36_7, S_36_11, S_36_12, S_36_15, S_36_15_n, S_36_16, S_36_17, S_36_19, S_36_22, S_36_24, S_36_26, S_36_28, S_36_31, S_36_31_n, S_36_32, S_36_32_n, S_36_35, S_36_35_n, S_36_36, S_36_38, S_36_38_n, S_36_39, S_36_42, S_36_45, S_36_47, S_36_49, S_36_51, S_36_53, S_36_56, S_36_59, S_36_61, u_at, iI_zero, iI_31, iI_add, iI_sub, iI_mul, iI_neg, ↓iI_max, ↓iI_min, iI_div, emod_f, iI_lt, iI_le, iI_inj, iI_toInt, ↓ii01, ↓ii11, ↓bI_b, bI_0, bI_1, Kt_s, Kt_n, cat0, cat1, cat2, cat3, cat4, rfV, Nat.reduceAdd, Nat.reduceMul, Nat.reduceEqDiff, Int.reduceAdd, Int.reduceSub, Int.reduceMul, Int.reduceNeg, Int.reduceLT, Int.reduceLE, Int.reduceEq, Int.reduceDiv, ↓reduceIte, ↓ite_ww, ↓ite_wi, Br_n, Br_TW, Br_FW, Br_FP, Br_FB, nn_p, and_true, true_and, and_self, true_or, or_true, not_true_eq_false, not_false_eq_true, le_T, le_F, lt_T, lt_F, eq_T, eq_F, Int.add_zero, Int.zero_add, Int.one_mul, Int.mul_one, up_eq, up_ne, Int.add_assoc, Int.add_sub_cancel, Int.sub_zero, Int.sub_self]
end CY
