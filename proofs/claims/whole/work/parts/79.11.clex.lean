/-! TOKENS, the class: bytes, words, signs -/
def bya (B : Int → Int) (n i : Int) : Int := if 0 ≤ i ∧ i < n then B i else 0
def TB (s : sg) (B : Int → Int) (n : Int) : Prop := s 7 = B ∧ s 6004 0 = n ∧ (0 ≤ n ∧ n ≤ 300) ∧ ∀ i, 0 ≤ i → i < n → 0 ≤ B i ∧ B i ≤ 255
def sgi (c : Int) : Int := if sgk c = 14 then -1 else sgk c - 20
section CL
variable {d : Nat} {X : hX} {s s1 : sg} {Q : Option Value → aH → Prop} {a b c e i k m n p t z : Int} {B : Int → Int}
theorem bya_r (h : ∀ i, 0 ≤ i → i < n → 0 ≤ B i ∧ B i ≤ 255) : 0 ≤ bya B n i ∧ bya B n i ≤ 255 := by
  unfold bya
  by_cases c : 0 ≤ i ∧ i < n
  · rw [if_pos c]; exact h i c.1 c.2
  · rw [if_neg c]; omega
theorem chr (h : 0 ≤ c ∧ c ≤ 255) : ((iI c).toUInt32 % 65536).toInt32 = iI c := by
  apply Int32.toBitVec_inj.mp
  apply BitVec.eq_of_toNat_eq
  have h2 : (iI c).toBitVec = BitVec.ofInt 32 c := rfl
  have h1 : ((iI c).toUInt32 % 65536).toInt32.toBitVec = (iI c).toBitVec % 65536#32 := rfl
  rw [h1, h2, BitVec.toNat_umod, BitVec.toNat_ofInt]
  show (c % 4294967296).toNat % 65536 = (c % 4294967296).toNat
  omega
theorem narrow_c (h : 0 ≤ c ∧ c ≤ 255) : (narrow .char (.int (iI c)) = .int (iI c)) = True := by
  apply eq_true
  have e := chr h
  show Value.int ((iI c).toUInt32 % 65536).toInt32 = _
  rw [e]
theorem c_byteAt (T : TB s B n) (hi : (-2147483648 ≤ i ∧ i < 2147483648)) : Wp d 96 0 [.ref 6, .int (iI i)] [] (hp X s) Q = Q (some (.int (iI (bya B n i)))) (hp X s) := by
  obtain ⟨h7, hn, hn2, _⟩ := T
  unfold bya
  by_cases c : 0 ≤ i ∧ i < n
  · rw [if_pos c]
    simp (disch := first | omega | exact okF _ | exact okI _ | exact okR _ | assumption | exact okN) only [S_96_0, S_96_1, S_96_4, S_96_5, S_96_6, S_96_9, S_96_12, S_96_13, S_96_14, S_96_17, S_96_18, S_96_21, S_96_22, S_96_25, S_96_26, S_96_27, S_96_30, S_96_31, u_at, iI_zero, iI_31, iI_add, iI_sub, iI_mul, iI_neg, ↓iI_max, ↓iI_min, iI_div, emod_f, iI_lt, iI_le, iI_inj, iI_toInt, ↓ii01, ↓ii11, ↓bI_b, bI_0, bI_1, Kt_s, Kt_n, cat0, cat1, cat2, cat3, cat4, rfV, Nat.reduceAdd, Nat.reduceMul, Nat.reduceEqDiff, Int.reduceAdd, Int.reduceSub, Int.reduceMul, Int.reduceNeg, Int.reduceLT, Int.reduceLE, Int.reduceEq, Int.reduceDiv, ↓reduceIte, ↓ite_ww, ↓ite_wi, Br_n, Br_TW, Br_FW, Br_FP, Br_FB, nn_p, and_true, true_and, and_self, true_or, or_true, not_true_eq_false, not_false_eq_true, le_T, le_F, lt_T, lt_F, eq_T, eq_F, Int.add_zero, Int.zero_add, Int.one_mul, Int.mul_one, up_eq, up_ne, Int.add_assoc, Int.add_sub_cancel, Int.sub_zero, Int.sub_self, H_6, H_7, hn, h7]
  · rw [if_neg c]
    by_cases c2 : i < 0
    · simp (disch := first | omega | exact okF _ | exact okI _ | exact okR _ | assumption | exact okN) only [S_96_0, S_96_1, S_96_4, S_96_5, S_96_6, S_96_9, S_96_12, S_96_13, S_96_14, S_96_17, S_96_18, S_96_21, S_96_22, S_96_25, S_96_26, S_96_27, S_96_30, S_96_31, u_at, iI_zero, iI_31, iI_add, iI_sub, iI_mul, iI_neg, ↓iI_max, ↓iI_min, iI_div, emod_f, iI_lt, iI_le, iI_inj, iI_toInt, ↓ii01, ↓ii11, ↓bI_b, bI_0, bI_1, Kt_s, Kt_n, cat0, cat1, cat2, cat3, cat4, rfV, Nat.reduceAdd, Nat.reduceMul, Nat.reduceEqDiff, Int.reduceAdd, Int.reduceSub, Int.reduceMul, Int.reduceNeg, Int.reduceLT, Int.reduceLE, Int.reduceEq, Int.reduceDiv, ↓reduceIte, ↓ite_ww, ↓ite_wi, Br_n, Br_TW, Br_FW, Br_FP, Br_FB, nn_p, and_true, true_and, and_self, true_or, or_true, not_true_eq_false, not_false_eq_true, le_T, le_F, lt_T, lt_F, eq_T, eq_F, Int.add_zero, Int.zero_add, Int.one_mul, Int.mul_one, up_eq, up_ne, Int.add_assoc, Int.add_sub_cancel, Int.sub_zero, Int.sub_self, H_6, H_7, hn, h7]
    · simp (disch := first | omega | exact okF _ | exact okI _ | exact okR _ | assumption | exact okN) only [S_96_0, S_96_1, S_96_4, S_96_5, S_96_6, S_96_9, S_96_12, S_96_13, S_96_14, S_96_17, S_96_18, S_96_21, S_96_22, S_96_25, S_96_26, S_96_27, S_96_30, S_96_31, u_at, iI_zero, iI_31, iI_add, iI_sub, iI_mul, iI_neg, ↓iI_max, ↓iI_min, iI_div, emod_f, iI_lt, iI_le, iI_inj, iI_toInt, ↓ii01, ↓ii11, ↓bI_b, bI_0, bI_1, Kt_s, Kt_n, cat0, cat1, cat2, cat3, cat4, rfV, Nat.reduceAdd, Nat.reduceMul, Nat.reduceEqDiff, Int.reduceAdd, Int.reduceSub, Int.reduceMul, Int.reduceNeg, Int.reduceLT, Int.reduceLE, Int.reduceEq, Int.reduceDiv, ↓reduceIte, ↓ite_ww, ↓ite_wi, Br_n, Br_TW, Br_FW, Br_FP, Br_FB, nn_p, and_true, true_and, and_self, true_or, or_true, not_true_eq_false, not_false_eq_true, le_T, le_F, lt_T, lt_F, eq_T, eq_F, Int.add_zero, Int.zero_add, Int.one_mul, Int.mul_one, up_eq, up_ne, Int.add_assoc, Int.add_sub_cancel, Int.sub_zero, Int.sub_self, H_6, H_7, hn, h7]
theorem c_isLetter (h : (-2147483648 ≤ c ∧ c < 2147483648)) : Wp d 97 0 [.int (iI c)] [] (hp X s) Q = Q (some (.int (iI (bZ (isLt c))))) (hp X s) := by
  refine wp_eq (fun rr hh er eh => ?_)
  repeat' (first | (with_reducible refine Br_i ?_ ?_ <;> (intro hbr; first | exact False.elim hbr | skip)) | (with_reducible refine Wl_i ?_) | (simp (disch := first | omega | exact okF _ | exact okI _ | exact okR _ | assumption | exact okN) only [u_at, iI_zero, iI_31, iI_add, iI_sub, iI_mul, iI_neg, ↓iI_max, ↓iI_min, iI_div, emod_f, iI_lt, iI_le, iI_inj, iI_toInt, ↓ii01, ↓ii11, ↓bI_b, bI_0, bI_1, Kt_s, Kt_n, cat0, cat1, cat2, cat3, cat4, rfV, Nat.reduceAdd, Nat.reduceMul, Nat.reduceEqDiff, Int.reduceAdd, Int.reduceSub, Int.reduceMul, Int.reduceNeg, Int.reduceLT, Int.reduceLE, Int.reduceEq, Int.reduceDiv, ↓reduceIte, ↓ite_ww, ↓ite_wi, Br_n, Br_TW, Br_FW, Br_FP, Br_FB, nn_p, and_true, true_and, and_self, true_or, or_true, not_true_eq_false, not_false_eq_true, le_T, le_F, lt_T, lt_F, eq_T, eq_F, Int.add_zero, Int.zero_add, Int.one_mul, Int.mul_one, up_eq, up_ne, Int.add_assoc, Int.add_sub_cancel, Int.sub_zero, Int.sub_self, S_97_0, S_97_1, S_97_3, S_97_6, S_97_7, S_97_9, S_97_12, S_97_13, S_97_15, S_97_18, S_97_19, S_97_21, S_97_24, S_97_25, S_97_28, S_97_29]))
  all_goals (subst er; subst eh)
  all_goals first | exact Re_T rfl (by unfold isLt; omega) rfl | exact Re_F rfl (by unfold isLt; omega) rfl
theorem c_isDigit (h : (-2147483648 ≤ c ∧ c < 2147483648)) : Wp d 98 0 [.int (iI c)] [] (hp X s) Q = Q (some (.int (iI (bZ (isDg c))))) (hp X s) := by
  refine wp_eq (fun rr hh er eh => ?_)
  repeat' (first | (with_reducible refine Br_i ?_ ?_ <;> (intro hbr; first | exact False.elim hbr | skip)) | (with_reducible refine Wl_i ?_) | (simp (disch := first | omega | exact okF _ | exact okI _ | exact okR _ | assumption | exact okN) only [u_at, iI_zero, iI_31, iI_add, iI_sub, iI_mul, iI_neg, ↓iI_max, ↓iI_min, iI_div, emod_f, iI_lt, iI_le, iI_inj, iI_toInt, ↓ii01, ↓ii11, ↓bI_b, bI_0, bI_1, Kt_s, Kt_n, cat0, cat1, cat2, cat3, cat4, rfV, Nat.reduceAdd, Nat.reduceMul, Nat.reduceEqDiff, Int.reduceAdd, Int.reduceSub, Int.reduceMul, Int.reduceNeg, Int.reduceLT, Int.reduceLE, Int.reduceEq, Int.reduceDiv, ↓reduceIte, ↓ite_ww, ↓ite_wi, Br_n, Br_TW, Br_FW, Br_FP, Br_FB, nn_p, and_true, true_and, and_self, true_or, or_true, not_true_eq_false, not_false_eq_true, le_T, le_F, lt_T, lt_F, eq_T, eq_F, Int.add_zero, Int.zero_add, Int.one_mul, Int.mul_one, up_eq, up_ne, Int.add_assoc, Int.add_sub_cancel, Int.sub_zero, Int.sub_self, S_98_0, S_98_1, S_98_3, S_98_6, S_98_7, S_98_9, S_98_12, S_98_13, S_98_16, S_98_17]))
  all_goals (subst er; subst eh)
  all_goals first | exact Re_T rfl (by unfold isDg; omega) rfl | exact Re_F rfl (by unfold isDg; omega) rfl
theorem g_str {k j : Nat} (hk : k = 2 ∨ k = 4) (hj : j < 1000) : gM (hp X s) k (ix (iI (j : Int))) = (sby.getD (k / 2 - 1) []).getD j 0 := by
  have e : ix (iI (j : Int)) = j := by rw [ix_iI (by omega)]; rfl
  rw [e]
  rcases hk with q | q <;> subst q <;> rfl
theorem wW_all : (List.range 71).all (fun j => decide ((((wch j &&& iI 255).toUInt32 % 65536).toInt32 = iI (wch j).toInt) ∧ 0 ≤ (wch j).toInt ∧ (wch j).toInt ≤ 255)) = true := by decide +kernel
theorem wW_at (h : 0 ≤ i ∧ i < 71) : (((gM (hp X s) 2 (ix (iI i)) &&& iI 255).toUInt32 % 65536).toInt32 = iI (wW i)) ∧ 0 ≤ wW i ∧ wW i ≤ 255 := by
  have g := g_str (X := X) (s := s) (k := 2) (j := i.toNat) (Or.inl rfl) (by omega)
  rw [Int.toNat_of_nonneg h.1] at g
  rw [g]
  exact of_decide_eq_true (List.all_eq_true.mp wW_all i.toNat (List.mem_range.mpr (by omega)))
theorem c_len1 : Wp (d + 1) 5 0 [.ref 1] [] (hp X s) Q = Q (some (.int (iI 71))) (hp X s) := by
  have g1 : gS (hp X s) 1 = (8, 0) := rfl
  have g2 : gS (hp X s) 2 = (9, 71) := rfl
  have l2 : lnOK (hp X s) (1 + 1) = True := eq_true (by unfold lnOK; rw [show (1 + 1 : Nat) = 2 from rfl, g2]; exact lnk (by decide) (by decide) (by decide))
  have sh : iI 71 >>> (iI 0 &&& iI 31) = iI 71 := by decide
  have e71 : ((71 : Nat) : Int) = 71 := rfl
  have nb : (narrow .byte (.int (iI 0)) = .int (iI 0)) = True := eq_true (by decide)
  simp (disch := first | omega | exact okF _ | exact okI _ | exact okR _ | assumption | exact okN) only [S_5_0, S_5_1, S_5_4, S_5_5, S_5_6, S_5_9, S_5_10, S_3_0, S_3_3, S_3_6, S_3_7, S_3_10, S_3_13, S_3_14, u_at, iI_zero, iI_31, iI_add, iI_sub, iI_mul, iI_neg, ↓iI_max, ↓iI_min, iI_div, emod_f, iI_lt, iI_le, iI_inj, iI_toInt, ↓ii01, ↓ii11, ↓bI_b, bI_0, bI_1, Kt_s, Kt_n, cat0, cat1, cat2, cat3, cat4, rfV, Nat.reduceAdd, Nat.reduceMul, Nat.reduceEqDiff, Int.reduceAdd, Int.reduceSub, Int.reduceMul, Int.reduceNeg, Int.reduceLT, Int.reduceLE, Int.reduceEq, Int.reduceDiv, ↓reduceIte, ↓ite_ww, ↓ite_wi, Br_n, Br_TW, Br_FW, Br_FP, Br_FB, nn_p, and_true, true_and, and_self, true_or, or_true, not_true_eq_false, not_false_eq_true, le_T, le_F, lt_T, lt_F, eq_T, eq_F, Int.add_zero, Int.zero_add, Int.one_mul, Int.mul_one, up_eq, up_ne, Int.add_assoc, Int.add_sub_cancel, Int.sub_zero, Int.sub_self, g1, g2, l2, sh, e71, nb]
theorem c_charAt (h : 0 ≤ i ∧ i < 71) : Wp (d + 3) 1 0 [.ref 1, .int (iI i)] [] (hp X s) Q = Q (some (.int (iI (wW i)))) (hp X s) := by
  have g1 : gS (hp X s) 1 = (8, 0) := rfl
  have g2 : gS (hp X s) 2 = (9, 71) := rfl
  have l2 : lnOK (hp X s) 2 = True := eq_true (by unfold lnOK; rw [g2]; exact lnk (by decide) (by decide) (by decide))
  have b2 : baOK (hp X s) 2 (iI i) = True := eq_true (by unfold baOK; rw [g2, iI_toInt (by omega)]; exact ⟨Or.inr (Or.inr rfl), by show 0 ≤ i ∧ i < ((71 : Nat) : Int); omega⟩)
  obtain ⟨v1, v2⟩ := wW_at (X := X) (s := s) h
  have e71 : ((71 : Nat) : Int) = 71 := rfl
  have nc := narrow_c v2
  simp (disch := first | omega | exact okF _ | exact okI _ | exact okR _ | assumption | exact okN) only [S_1_0, S_1_1, S_1_4, S_1_7, S_1_8, S_1_11, S_1_12, S_1_15, S_1_16, S_1_17, S_1_20, S_1_24, S_4_0, S_4_3, S_4_6, S_4_7, S_4_10, S_4_13, S_4_14, S_4_17, S_4_18, S_8_0, S_8_1, S_8_2, S_8_3, S_8_6, S_8_7, S_8_8, S_8_9, S_8_12, S_8_13, S_8_14, S_2_0, S_2_1, S_2_2, S_2_5, S_2_5_n, S_2_8, S_2_9, S_13_0, S_13_1, S_13_4, S_13_5, S_13_6, S_13_9, S_13_10, S_13_11, S_13_16, S_13_17, u_at, iI_zero, iI_31, iI_add, iI_sub, iI_mul, iI_neg, ↓iI_max, ↓iI_min, iI_div, emod_f, iI_lt, iI_le, iI_inj, iI_toInt, ↓ii01, ↓ii11, ↓bI_b, bI_0, bI_1, Kt_s, Kt_n, cat0, cat1, cat2, cat3, cat4, rfV, Nat.reduceAdd, Nat.reduceMul, Nat.reduceEqDiff, Int.reduceAdd, Int.reduceSub, Int.reduceMul, Int.reduceNeg, Int.reduceLT, Int.reduceLE, Int.reduceEq, Int.reduceDiv, ↓reduceIte, ↓ite_ww, ↓ite_wi, Br_n, Br_TW, Br_FW, Br_FP, Br_FB, nn_p, and_true, true_and, and_self, true_or, or_true, not_true_eq_false, not_false_eq_true, le_T, le_F, lt_T, lt_F, eq_T, eq_F, Int.add_zero, Int.zero_add, Int.one_mul, Int.mul_one, up_eq, up_ne, Int.add_assoc, Int.add_sub_cancel, Int.sub_zero, Int.sub_self, g1, g2, l2, b2, v1, e71, nc]
theorem c_isSame (T : TB s B n) (h : (0 ≤ a ∧ 0 ≤ m ∧ a + m ≤ 71) ∧ 0 ≤ b ∧ b ≤ 300) : Wp (d + 4) 95 0 [.ref 6, .int (iI a), .int (iI b), .int (iI m), .float 0] [] (hp X s) Q = Q (some (.int (iI (bZ (∀ i, 0 ≤ i → i < m → wW (a + i) = bya B n (b + i)))))) (hp X s) := by
  refine wp_eq (fun rr hh er eh => ?_)
  have rB := T.2.2.2
  have g1 : gS (hp X s) 1 = (8, 0) := rfl
  have loop : ∀ i, 0 ≤ i → i ≤ m → ((∀ j, 0 ≤ j → j < i → wW (a + j) = bya B n (b + j)) → Wp (d + 4) 95 3 [.ref 6, .int (iI a), .int (iI b), .int (iI m), .int (iI i)] [] (hp X s) (Re rr hh)) := by
    refine lp0 ?_ ?_
    · intro i i0 i1 ih hq
      have w := (wW_at (X := X) (s := s) (i := a + i) (by omega)).2
      have y := bya_r (i := b + i) rB
      rw [S_95_3]
      by_cases c : wW (a + i) = bya B n (b + i)
      · have ih := ih (fun j j0 j1 => by
          by_cases e : j = i
          · rw [e]; exact c
          · exact hq j j0 (by omega))
        repeat' (first | (with_reducible refine Br_i ?_ ?_ <;> (intro hbr; first | exact False.elim hbr | skip)) | (with_reducible refine Wl_i ?_) | (simp (disch := first | omega | exact okF _ | exact okI _ | exact okR _ | assumption | exact okN) only [u_at, iI_zero, iI_31, iI_add, iI_sub, iI_mul, iI_neg, ↓iI_max, ↓iI_min, iI_div, emod_f, iI_lt, iI_le, iI_inj, iI_toInt, ↓ii01, ↓ii11, ↓bI_b, bI_0, bI_1, Kt_s, Kt_n, cat0, cat1, cat2, cat3, cat4, rfV, Nat.reduceAdd, Nat.reduceMul, Nat.reduceEqDiff, Int.reduceAdd, Int.reduceSub, Int.reduceMul, Int.reduceNeg, Int.reduceLT, Int.reduceLE, Int.reduceEq, Int.reduceDiv, ↓reduceIte, ↓ite_ww, ↓ite_wi, Br_n, Br_TW, Br_FW, Br_FP, Br_FB, nn_p, and_true, true_and, and_self, true_or, or_true, not_true_eq_false, not_false_eq_true, le_T, le_F, lt_T, lt_F, eq_T, eq_F, Int.add_zero, Int.zero_add, Int.one_mul, Int.mul_one, up_eq, up_ne, Int.add_assoc, Int.add_sub_cancel, Int.sub_zero, Int.sub_self, S_95_0, S_95_1, S_95_5, S_95_6, S_95_9, S_95_11, S_95_12, S_95_14, S_95_15, S_95_18, S_95_19, S_95_20, S_95_22, S_95_23, S_95_26, S_95_29, S_95_30, S_95_31, S_95_34, S_95_37, S_95_38, H_6, g1, c_charAt, c_byteAt T]))
        exact ih
      · repeat' (first | (with_reducible refine Br_i ?_ ?_ <;> (intro hbr; first | exact False.elim hbr | skip)) | (with_reducible refine Wl_i ?_) | (simp (disch := first | omega | exact okF _ | exact okI _ | exact okR _ | assumption | exact okN) only [u_at, iI_zero, iI_31, iI_add, iI_sub, iI_mul, iI_neg, ↓iI_max, ↓iI_min, iI_div, emod_f, iI_lt, iI_le, iI_inj, iI_toInt, ↓ii01, ↓ii11, ↓bI_b, bI_0, bI_1, Kt_s, Kt_n, cat0, cat1, cat2, cat3, cat4, rfV, Nat.reduceAdd, Nat.reduceMul, Nat.reduceEqDiff, Int.reduceAdd, Int.reduceSub, Int.reduceMul, Int.reduceNeg, Int.reduceLT, Int.reduceLE, Int.reduceEq, Int.reduceDiv, ↓reduceIte, ↓ite_ww, ↓ite_wi, Br_n, Br_TW, Br_FW, Br_FP, Br_FB, nn_p, and_true, true_and, and_self, true_or, or_true, not_true_eq_false, not_false_eq_true, le_T, le_F, lt_T, lt_F, eq_T, eq_F, Int.add_zero, Int.zero_add, Int.one_mul, Int.mul_one, up_eq, up_ne, Int.add_assoc, Int.add_sub_cancel, Int.sub_zero, Int.sub_self, S_95_0, S_95_1, S_95_5, S_95_6, S_95_9, S_95_11, S_95_12, S_95_14, S_95_15, S_95_18, S_95_19, S_95_20, S_95_22, S_95_23, S_95_26, S_95_29, S_95_30, S_95_31, S_95_34, S_95_37, S_95_38, H_6, g1, c_charAt, c_byteAt T]))
        subst er
        subst eh
        refine Re_F rfl ?_ rfl
        intro q
        exact c (q i i0 i1)
    · intro hq
      rw [S_95_3]
      repeat' (first | (with_reducible refine Br_i ?_ ?_ <;> (intro hbr; first | exact False.elim hbr | skip)) | (with_reducible refine Wl_i ?_) | (simp (disch := first | omega | exact okF _ | exact okI _ | exact okR _ | assumption | exact okN) only [u_at, iI_zero, iI_31, iI_add, iI_sub, iI_mul, iI_neg, ↓iI_max, ↓iI_min, iI_div, emod_f, iI_lt, iI_le, iI_inj, iI_toInt, ↓ii01, ↓ii11, ↓bI_b, bI_0, bI_1, Kt_s, Kt_n, cat0, cat1, cat2, cat3, cat4, rfV, Nat.reduceAdd, Nat.reduceMul, Nat.reduceEqDiff, Int.reduceAdd, Int.reduceSub, Int.reduceMul, Int.reduceNeg, Int.reduceLT, Int.reduceLE, Int.reduceEq, Int.reduceDiv, ↓reduceIte, ↓ite_ww, ↓ite_wi, Br_n, Br_TW, Br_FW, Br_FP, Br_FB, nn_p, and_true, true_and, and_self, true_or, or_true, not_true_eq_false, not_false_eq_true, le_T, le_F, lt_T, lt_F, eq_T, eq_F, Int.add_zero, Int.zero_add, Int.one_mul, Int.mul_one, up_eq, up_ne, Int.add_assoc, Int.add_sub_cancel, Int.sub_zero, Int.sub_self, S_95_0, S_95_1, S_95_5, S_95_6, S_95_9, S_95_11, S_95_12, S_95_14, S_95_15, S_95_18, S_95_19, S_95_20, S_95_22, S_95_23, S_95_26, S_95_29, S_95_30, S_95_31, S_95_34, S_95_37, S_95_38]))
      subst er
      subst eh
      exact Re_T rfl hq rfl
  have l0 := loop 0 (by omega) (by omega) (fun j j0 j1 => by omega)
  repeat' (first | (with_reducible refine Br_i ?_ ?_ <;> (intro hbr; first | exact False.elim hbr | skip)) | (with_reducible refine Wl_i ?_) | (simp (disch := first | omega | exact okF _ | exact okI _ | exact okR _ | assumption | exact okN) only [u_at, iI_zero, iI_31, iI_add, iI_sub, iI_mul, iI_neg, ↓iI_max, ↓iI_min, iI_div, emod_f, iI_lt, iI_le, iI_inj, iI_toInt, ↓ii01, ↓ii11, ↓bI_b, bI_0, bI_1, Kt_s, Kt_n, cat0, cat1, cat2, cat3, cat4, rfV, Nat.reduceAdd, Nat.reduceMul, Nat.reduceEqDiff, Int.reduceAdd, Int.reduceSub, Int.reduceMul, Int.reduceNeg, Int.reduceLT, Int.reduceLE, Int.reduceEq, Int.reduceDiv, ↓reduceIte, ↓ite_ww, ↓ite_wi, Br_n, Br_TW, Br_FW, Br_FP, Br_FB, nn_p, and_true, true_and, and_self, true_or, or_true, not_true_eq_false, not_false_eq_true, le_T, le_F, lt_T, lt_F, eq_T, eq_F, Int.add_zero, Int.zero_add, Int.one_mul, Int.mul_one, up_eq, up_ne, Int.add_assoc, Int.add_sub_cancel, Int.sub_zero, Int.sub_self, S_95_0, S_95_1, S_95_5, S_95_6, S_95_9, S_95_11, S_95_12, S_95_14, S_95_15, S_95_18, S_95_19, S_95_20, S_95_22, S_95_23, S_95_26, S_95_29, S_95_30, S_95_31, S_95_34, S_95_37, S_95_38]))
  exact l0
/-- the class's search among the words -/
theorem c_wordKind_l (T : TB s B n) (hb : 0 ≤ b ∧ b < e ∧ e ≤ n) : ∀ (l : List (Nat × Nat)) (st : Nat) (k : Int), wchk l st = true → 0 ≤ k → k + l.length ≤ 14 → Wp (d + 5) 94 8 [.ref 6, .int (iI b), .int (iI e), .int (iI k), .int (iI st), .int (iI st)] [] (hp X s) Q = Q (some (.int (iI (wkl B b e l k)))) (hp X s)
  | [], st, k, hc, k0, k1 => by
    have e : st = 72 := Nat.eq_of_beq_eq_true hc
    subst e
    have e72 : ((72 : Nat) : Int) = 72 := rfl
    have g1 : gS (hp X s) 1 = (8, 0) := rfl
    rw [S_94_8, wkl, e72]
    simp (disch := first | omega | exact okF _ | exact okI _ | exact okR _ | assumption | exact okN) only [S_94_0, S_94_1, S_94_2, S_94_3, S_94_5, S_94_6, S_94_10, S_94_12, S_94_15, S_94_18, S_94_20, S_94_22, S_94_25, S_94_28, S_94_30, S_94_32, S_94_35, S_94_37, S_94_40, S_94_42, S_94_44, S_94_45, S_94_46, S_94_47, S_94_48, S_94_51, S_94_52, S_94_54, S_94_55, S_94_57, S_94_59, S_94_60, S_94_63, S_94_66, S_94_67, S_94_68, S_94_71, S_94_73, S_94_74, S_94_75, S_94_77, S_94_80, S_94_83, S_94_85, u_at, iI_zero, iI_31, iI_add, iI_sub, iI_mul, iI_neg, ↓iI_max, ↓iI_min, iI_div, emod_f, iI_lt, iI_le, iI_inj, iI_toInt, ↓ii01, ↓ii11, ↓bI_b, bI_0, bI_1, Kt_s, Kt_n, cat0, cat1, cat2, cat3, cat4, rfV, Nat.reduceAdd, Nat.reduceMul, Nat.reduceEqDiff, Int.reduceAdd, Int.reduceSub, Int.reduceMul, Int.reduceNeg, Int.reduceLT, Int.reduceLE, Int.reduceEq, Int.reduceDiv, ↓reduceIte, ↓ite_ww, ↓ite_wi, Br_n, Br_TW, Br_FW, Br_FP, Br_FB, nn_p, and_true, true_and, and_self, true_or, or_true, not_true_eq_false, not_false_eq_true, le_T, le_F, lt_T, lt_F, eq_T, eq_F, Int.add_zero, Int.zero_add, Int.one_mul, Int.mul_one, up_eq, up_ne, Int.add_assoc, Int.add_sub_cancel, Int.sub_zero, Int.sub_self, H_6, g1, c_len1]
  | q :: r, st, k, hc, k0, k1 => by
    have el : ((q :: r).length : Int) = r.length + 1 := by simp
    have n1 := T.2.2.1
    have g1 : gS (hp X s) 1 = (8, 0) := rfl
    simp only [wchk, Bool.and_eq_true] at hc
    obtain ⟨h1, h2, h3, h4, h5, h6⟩ := hc
    have h1 := Nat.eq_of_beq_eq_true h1
    have h2 := Nat.le_of_ble_eq_true h2
    have h3 := Nat.le_of_ble_eq_true h3
    have sp : ∀ i : Int, (q.1 : Int) ≤ i → i < q.2 → ¬ wW i = 32 := by
      intro i i0 i1 e32
      have x := List.all_eq_true.mp h4 i.toNat (List.mem_range.mpr (by omega))
      simp only [Bool.or_eq_true, Bool.not_eq_true', Bool.and_eq_false_iff, decide_eq_false_iff_not] at x
      rcases x with (x | x) | x
      · rw [Nat.ble_eq_true_of_le (by omega)] at x; cases x
      · rw [Nat.ble_eq_true_of_le (by omega)] at x; cases x
      · apply x
        apply Int32.toInt_inj.mp
        exact e32
    have ih := c_wordKind_l T hb r (q.2 + 1) (k + 1) h6 (by omega) (by omega)
    have ed : (((q.2 + 1 : Nat)) : Int) = (q.2 : Int) + 1 := by omega
    rw [ed] at ih
    have last : Wp (d + 5) 94 8 [.ref 6, .int (iI b), .int (iI e), .int (iI k), .int (iI (q.1 : Int)), .int (iI (q.2 : Int))] [] (hp X s) Q = Q (some (.int (iI (wkl B b e (q :: r) k)))) (hp X s) := by
      rw [wkl]
      have sm := fun (d : Nat) (Q : Option Value → aH → Prop) => c_isSame (d := d) (X := X) (Q := Q) (a := q.1) (b := b) (m := (q.2 : Int) - q.1) T (by omega)
      have eq1 : (∀ i, 0 ≤ i → i < (q.2 : Int) - q.1 → wW (q.1 + i) = bya B n (b + i)) ↔ (e - b = q.2 - q.1 → ∀ i, 0 ≤ i → i < (q.2 : Int) - q.1 → wW (q.1 + i) = B (b + i)) ∧ (¬ e - b = q.2 - q.1 → ∀ i, 0 ≤ i → i < (q.2 : Int) - q.1 → wW (q.1 + i) = bya B n (b + i)) := by
        constructor
        · intro x
          refine ⟨fun y i i0 i1 => ?_, fun _ => x⟩
          have x := x i i0 i1
          unfold bya at x
          rw [if_pos (by omega)] at x
          exact x
        · intro ⟨x1, x2⟩
          by_cases y : e - b = q.2 - q.1
          · intro i i0 i1
            unfold bya
            rw [if_pos (by omega)]
            exact x1 y i i0 i1
          · exact x2 y
      have at71 : (q.2 : Int) = 71 ∨ ((q.2 : Int) < 71 ∧ wW q.2 = 32) := by
        simp only [Bool.or_eq_true, decide_eq_true_eq] at h5
        rcases h5 with x | x
        · left
          have := Nat.eq_of_beq_eq_true x
          omega
        · by_cases y : q.2 = 71
          · left; omega
          · right
            refine ⟨by omega, ?_⟩
            show (wch (q.2 : Int).toNat).toInt = 32
            rw [show ((q.2 : Int)).toNat = q.2 by omega, x]
            rfl
      rw [S_94_8]
      by_cases c : wEq B b e q.1 q.2
      · rw [if_pos c]
        obtain ⟨c1, c2⟩ := c
        have s1 : bZ (∀ i, 0 ≤ i → i < (q.2 : Int) - q.1 → wW (q.1 + i) = bya B n (b + i)) = 1 := bZ_T (eq1.mpr ⟨fun _ => c2, fun y => absurd c1 y⟩)
        rcases at71 with x | ⟨x1, x2⟩
        · rw [x] at c1 sm s1 ⊢
          simp (disch := first | omega | exact okF _ | exact okI _ | exact okR _ | assumption | exact okN) only [S_94_0, S_94_1, S_94_2, S_94_3, S_94_5, S_94_6, S_94_10, S_94_12, S_94_15, S_94_18, S_94_20, S_94_22, S_94_25, S_94_28, S_94_30, S_94_32, S_94_35, S_94_37, S_94_40, S_94_42, S_94_44, S_94_45, S_94_46, S_94_47, S_94_48, S_94_51, S_94_52, S_94_54, S_94_55, S_94_57, S_94_59, S_94_60, S_94_63, S_94_66, S_94_67, S_94_68, S_94_71, S_94_73, S_94_74, S_94_75, S_94_77, S_94_80, S_94_83, S_94_85, u_at, iI_zero, iI_31, iI_add, iI_sub, iI_mul, iI_neg, ↓iI_max, ↓iI_min, iI_div, emod_f, iI_lt, iI_le, iI_inj, iI_toInt, ↓ii01, ↓ii11, ↓bI_b, bI_0, bI_1, Kt_s, Kt_n, cat0, cat1, cat2, cat3, cat4, rfV, Nat.reduceAdd, Nat.reduceMul, Nat.reduceEqDiff, Int.reduceAdd, Int.reduceSub, Int.reduceMul, Int.reduceNeg, Int.reduceLT, Int.reduceLE, Int.reduceEq, Int.reduceDiv, ↓reduceIte, ↓ite_ww, ↓ite_wi, Br_n, Br_TW, Br_FW, Br_FP, Br_FB, nn_p, and_true, true_and, and_self, true_or, or_true, not_true_eq_false, not_false_eq_true, le_T, le_F, lt_T, lt_F, eq_T, eq_F, Int.add_zero, Int.zero_add, Int.one_mul, Int.mul_one, up_eq, up_ne, Int.add_assoc, Int.add_sub_cancel, Int.sub_zero, Int.sub_self, H_6, g1, c_len1, sm, s1]
        · simp (disch := first | omega | exact okF _ | exact okI _ | exact okR _ | assumption | exact okN) only [S_94_0, S_94_1, S_94_2, S_94_3, S_94_5, S_94_6, S_94_10, S_94_12, S_94_15, S_94_18, S_94_20, S_94_22, S_94_25, S_94_28, S_94_30, S_94_32, S_94_35, S_94_37, S_94_40, S_94_42, S_94_44, S_94_45, S_94_46, S_94_47, S_94_48, S_94_51, S_94_52, S_94_54, S_94_55, S_94_57, S_94_59, S_94_60, S_94_63, S_94_66, S_94_67, S_94_68, S_94_71, S_94_73, S_94_74, S_94_75, S_94_77, S_94_80, S_94_83, S_94_85, u_at, iI_zero, iI_31, iI_add, iI_sub, iI_mul, iI_neg, ↓iI_max, ↓iI_min, iI_div, emod_f, iI_lt, iI_le, iI_inj, iI_toInt, ↓ii01, ↓ii11, ↓bI_b, bI_0, bI_1, Kt_s, Kt_n, cat0, cat1, cat2, cat3, cat4, rfV, Nat.reduceAdd, Nat.reduceMul, Nat.reduceEqDiff, Int.reduceAdd, Int.reduceSub, Int.reduceMul, Int.reduceNeg, Int.reduceLT, Int.reduceLE, Int.reduceEq, Int.reduceDiv, ↓reduceIte, ↓ite_ww, ↓ite_wi, Br_n, Br_TW, Br_FW, Br_FP, Br_FB, nn_p, and_true, true_and, and_self, true_or, or_true, not_true_eq_false, not_false_eq_true, le_T, le_F, lt_T, lt_F, eq_T, eq_F, Int.add_zero, Int.zero_add, Int.one_mul, Int.mul_one, up_eq, up_ne, Int.add_assoc, Int.add_sub_cancel, Int.sub_zero, Int.sub_self, H_6, g1, c_len1, c_charAt, x2, sm, s1]
      · rw [if_neg c, ← ih]
        by_cases c1 : e - b = (q.2 : Int) - q.1
        · have s0 : bZ (∀ i, 0 ≤ i → i < (q.2 : Int) - q.1 → wW (q.1 + i) = bya B n (b + i)) = 0 := bZ_F (fun y => c ⟨c1, (eq1.mp y).1 c1⟩)
          rcases at71 with x | ⟨x1, x2⟩
          · rw [x] at c1 sm s0 ⊢
            simp (disch := first | omega | exact okF _ | exact okI _ | exact okR _ | assumption | exact okN) only [S_94_0, S_94_1, S_94_2, S_94_3, S_94_5, S_94_6, S_94_10, S_94_12, S_94_15, S_94_18, S_94_20, S_94_22, S_94_25, S_94_28, S_94_30, S_94_32, S_94_35, S_94_37, S_94_40, S_94_42, S_94_44, S_94_45, S_94_46, S_94_47, S_94_48, S_94_51, S_94_52, S_94_54, S_94_55, S_94_57, S_94_59, S_94_60, S_94_63, S_94_66, S_94_67, S_94_68, S_94_71, S_94_73, S_94_74, S_94_75, S_94_77, S_94_80, S_94_83, S_94_85, u_at, iI_zero, iI_31, iI_add, iI_sub, iI_mul, iI_neg, ↓iI_max, ↓iI_min, iI_div, emod_f, iI_lt, iI_le, iI_inj, iI_toInt, ↓ii01, ↓ii11, ↓bI_b, bI_0, bI_1, Kt_s, Kt_n, cat0, cat1, cat2, cat3, cat4, rfV, Nat.reduceAdd, Nat.reduceMul, Nat.reduceEqDiff, Int.reduceAdd, Int.reduceSub, Int.reduceMul, Int.reduceNeg, Int.reduceLT, Int.reduceLE, Int.reduceEq, Int.reduceDiv, ↓reduceIte, ↓ite_ww, ↓ite_wi, Br_n, Br_TW, Br_FW, Br_FP, Br_FB, nn_p, and_true, true_and, and_self, true_or, or_true, not_true_eq_false, not_false_eq_true, le_T, le_F, lt_T, lt_F, eq_T, eq_F, Int.add_zero, Int.zero_add, Int.one_mul, Int.mul_one, up_eq, up_ne, Int.add_assoc, Int.add_sub_cancel, Int.sub_zero, Int.sub_self, H_6, g1, c_len1, sm, s0]
          · simp (disch := first | omega | exact okF _ | exact okI _ | exact okR _ | assumption | exact okN) only [S_94_0, S_94_1, S_94_2, S_94_3, S_94_5, S_94_6, S_94_10, S_94_12, S_94_15, S_94_18, S_94_20, S_94_22, S_94_25, S_94_28, S_94_30, S_94_32, S_94_35, S_94_37, S_94_40, S_94_42, S_94_44, S_94_45, S_94_46, S_94_47, S_94_48, S_94_51, S_94_52, S_94_54, S_94_55, S_94_57, S_94_59, S_94_60, S_94_63, S_94_66, S_94_67, S_94_68, S_94_71, S_94_73, S_94_74, S_94_75, S_94_77, S_94_80, S_94_83, S_94_85, u_at, iI_zero, iI_31, iI_add, iI_sub, iI_mul, iI_neg, ↓iI_max, ↓iI_min, iI_div, emod_f, iI_lt, iI_le, iI_inj, iI_toInt, ↓ii01, ↓ii11, ↓bI_b, bI_0, bI_1, Kt_s, Kt_n, cat0, cat1, cat2, cat3, cat4, rfV, Nat.reduceAdd, Nat.reduceMul, Nat.reduceEqDiff, Int.reduceAdd, Int.reduceSub, Int.reduceMul, Int.reduceNeg, Int.reduceLT, Int.reduceLE, Int.reduceEq, Int.reduceDiv, ↓reduceIte, ↓ite_ww, ↓ite_wi, Br_n, Br_TW, Br_FW, Br_FP, Br_FB, nn_p, and_true, true_and, and_self, true_or, or_true, not_true_eq_false, not_false_eq_true, le_T, le_F, lt_T, lt_F, eq_T, eq_F, Int.add_zero, Int.zero_add, Int.one_mul, Int.mul_one, up_eq, up_ne, Int.add_assoc, Int.add_sub_cancel, Int.sub_zero, Int.sub_self, H_6, g1, c_len1, c_charAt, x2, sm, s0]
        · rcases at71 with x | ⟨x1, x2⟩
          · rw [x] at c1 ⊢
            simp (disch := first | omega | exact okF _ | exact okI _ | exact okR _ | assumption | exact okN) only [S_94_0, S_94_1, S_94_2, S_94_3, S_94_5, S_94_6, S_94_10, S_94_12, S_94_15, S_94_18, S_94_20, S_94_22, S_94_25, S_94_28, S_94_30, S_94_32, S_94_35, S_94_37, S_94_40, S_94_42, S_94_44, S_94_45, S_94_46, S_94_47, S_94_48, S_94_51, S_94_52, S_94_54, S_94_55, S_94_57, S_94_59, S_94_60, S_94_63, S_94_66, S_94_67, S_94_68, S_94_71, S_94_73, S_94_74, S_94_75, S_94_77, S_94_80, S_94_83, S_94_85, u_at, iI_zero, iI_31, iI_add, iI_sub, iI_mul, iI_neg, ↓iI_max, ↓iI_min, iI_div, emod_f, iI_lt, iI_le, iI_inj, iI_toInt, ↓ii01, ↓ii11, ↓bI_b, bI_0, bI_1, Kt_s, Kt_n, cat0, cat1, cat2, cat3, cat4, rfV, Nat.reduceAdd, Nat.reduceMul, Nat.reduceEqDiff, Int.reduceAdd, Int.reduceSub, Int.reduceMul, Int.reduceNeg, Int.reduceLT, Int.reduceLE, Int.reduceEq, Int.reduceDiv, ↓reduceIte, ↓ite_ww, ↓ite_wi, Br_n, Br_TW, Br_FW, Br_FP, Br_FB, nn_p, and_true, true_and, and_self, true_or, or_true, not_true_eq_false, not_false_eq_true, le_T, le_F, lt_T, lt_F, eq_T, eq_F, Int.add_zero, Int.zero_add, Int.one_mul, Int.mul_one, up_eq, up_ne, Int.add_assoc, Int.add_sub_cancel, Int.sub_zero, Int.sub_self, H_6, g1, c_len1]
          · simp (disch := first | omega | exact okF _ | exact okI _ | exact okR _ | assumption | exact okN) only [S_94_0, S_94_1, S_94_2, S_94_3, S_94_5, S_94_6, S_94_10, S_94_12, S_94_15, S_94_18, S_94_20, S_94_22, S_94_25, S_94_28, S_94_30, S_94_32, S_94_35, S_94_37, S_94_40, S_94_42, S_94_44, S_94_45, S_94_46, S_94_47, S_94_48, S_94_51, S_94_52, S_94_54, S_94_55, S_94_57, S_94_59, S_94_60, S_94_63, S_94_66, S_94_67, S_94_68, S_94_71, S_94_73, S_94_74, S_94_75, S_94_77, S_94_80, S_94_83, S_94_85, u_at, iI_zero, iI_31, iI_add, iI_sub, iI_mul, iI_neg, ↓iI_max, ↓iI_min, iI_div, emod_f, iI_lt, iI_le, iI_inj, iI_toInt, ↓ii01, ↓ii11, ↓bI_b, bI_0, bI_1, Kt_s, Kt_n, cat0, cat1, cat2, cat3, cat4, rfV, Nat.reduceAdd, Nat.reduceMul, Nat.reduceEqDiff, Int.reduceAdd, Int.reduceSub, Int.reduceMul, Int.reduceNeg, Int.reduceLT, Int.reduceLE, Int.reduceEq, Int.reduceDiv, ↓reduceIte, ↓ite_ww, ↓ite_wi, Br_n, Br_TW, Br_FW, Br_FP, Br_FB, nn_p, and_true, true_and, and_self, true_or, or_true, not_true_eq_false, not_false_eq_true, le_T, le_F, lt_T, lt_F, eq_T, eq_F, Int.add_zero, Int.zero_add, Int.one_mul, Int.mul_one, up_eq, up_ne, Int.add_assoc, Int.add_sub_cancel, Int.sub_zero, Int.sub_self, H_6, g1, c_len1, c_charAt, x2]
    have scan : ∀ (f : Nat) (i : Int), (f : Int) = q.2 - i → (q.1 : Int) ≤ i → Wp (d + 5) 94 8 [.ref 6, .int (iI b), .int (iI e), .int (iI k), .int (iI (q.1 : Int)), .int (iI i)] [] (hp X s) Q = Q (some (.int (iI (wkl B b e (q :: r) k)))) (hp X s) := by
      intro f
      induction f with
      | zero =>
        intro i h1 h2
        have x : i = q.2 := by omega
        rw [x]
        exact last
      | succ f ihf =>
        intro i h1 h2
        have w := (wW_at (X := X) (s := s) (i := i) (by omega)).2
        have ns := sp i h2 (by omega)
        rw [← ihf (i + 1) (by omega) (by omega), S_94_8]
        simp (disch := first | omega | exact okF _ | exact okI _ | exact okR _ | assumption | exact okN) only [S_94_0, S_94_1, S_94_2, S_94_3, S_94_5, S_94_6, S_94_10, S_94_12, S_94_15, S_94_18, S_94_20, S_94_22, S_94_25, S_94_28, S_94_30, S_94_32, S_94_35, S_94_37, S_94_40, S_94_42, S_94_44, S_94_45, S_94_46, S_94_47, S_94_48, S_94_51, S_94_52, S_94_54, S_94_55, S_94_57, S_94_59, S_94_60, S_94_63, S_94_66, S_94_67, S_94_68, S_94_71, S_94_73, S_94_74, S_94_75, S_94_77, S_94_80, S_94_83, S_94_85, u_at, iI_zero, iI_31, iI_add, iI_sub, iI_mul, iI_neg, ↓iI_max, ↓iI_min, iI_div, emod_f, iI_lt, iI_le, iI_inj, iI_toInt, ↓ii01, ↓ii11, ↓bI_b, bI_0, bI_1, Kt_s, Kt_n, cat0, cat1, cat2, cat3, cat4, rfV, Nat.reduceAdd, Nat.reduceMul, Nat.reduceEqDiff, Int.reduceAdd, Int.reduceSub, Int.reduceMul, Int.reduceNeg, Int.reduceLT, Int.reduceLE, Int.reduceEq, Int.reduceDiv, ↓reduceIte, ↓ite_ww, ↓ite_wi, Br_n, Br_TW, Br_FW, Br_FP, Br_FB, nn_p, and_true, true_and, and_self, true_or, or_true, not_true_eq_false, not_false_eq_true, le_T, le_F, lt_T, lt_F, eq_T, eq_F, Int.add_zero, Int.zero_add, Int.one_mul, Int.mul_one, up_eq, up_ne, Int.add_assoc, Int.add_sub_cancel, Int.sub_zero, Int.sub_self, H_6, g1, c_len1, c_charAt, ns]
    have sc := scan (q.2 - q.1) q.1 (by omega) (Int.le_refl _)
    rw [h1] at sc
    exact sc
theorem c_wordKind (T : TB s B n) (hb : 0 ≤ b ∧ b < e ∧ e ≤ n) : Wp (d + 5) 94 0 [.ref 6, .int (iI b), .int (iI e), .float 0, .float 0, .float 0] [] (hp X s) Q = Q (some (.int (iI (wkl B b e WL 0)))) (hp X s) := by
  have h := c_wordKind_l (d := d) (X := X) (Q := Q) T hb WL 0 0 WL_ok (by omega) (by decide)
  have e0 : ((0 : Nat) : Int) = 0 := rfl
  rw [e0] at h
  rw [← h]
  simp (disch := first | omega | exact okF _ | exact okI _ | exact okR _ | assumption | exact okN) only [S_94_0, S_94_1, S_94_2, S_94_3, S_94_5, S_94_6, S_94_10, S_94_12, S_94_15, S_94_18, S_94_20, S_94_22, S_94_25, S_94_28, S_94_30, S_94_32, S_94_35, S_94_37, S_94_40, S_94_42, S_94_44, S_94_45, S_94_46, S_94_47, S_94_48, S_94_51, S_94_52, S_94_54, S_94_55, S_94_57, S_94_59, S_94_60, S_94_63, S_94_66, S_94_67, S_94_68, S_94_71, S_94_73, S_94_74, S_94_75, S_94_77, S_94_80, S_94_83, S_94_85, u_at, iI_zero, iI_31, iI_add, iI_sub, iI_mul, iI_neg, ↓iI_max, ↓iI_min, iI_div, emod_f, iI_lt, iI_le, iI_inj, iI_toInt, ↓ii01, ↓ii11, ↓bI_b, bI_0, bI_1, Kt_s, Kt_n, cat0, cat1, cat2, cat3, cat4, rfV, Nat.reduceAdd, Nat.reduceMul, Nat.reduceEqDiff, Int.reduceAdd, Int.reduceSub, Int.reduceMul, Int.reduceNeg, Int.reduceLT, Int.reduceLE, Int.reduceEq, Int.reduceDiv, ↓reduceIte, ↓ite_ww, ↓ite_wi, Br_n, Br_TW, Br_FW, Br_FP, Br_FB, nn_p, and_true, true_and, and_self, true_or, or_true, not_true_eq_false, not_false_eq_true, le_T, le_F, lt_T, lt_F, eq_T, eq_F, Int.add_zero, Int.zero_add, Int.one_mul, Int.mul_one, up_eq, up_ne, Int.add_assoc, Int.add_sub_cancel, Int.sub_zero, Int.sub_self]
theorem c_keep2 (ht : s 6005 0 = t) (h : 0 ≤ t ∧ t ≤ 300) : Wp d 93 0 [.ref 6, .int (iI k), .int (iI p), .int (iI m)] [] (hp X s) Q = Q none (hp X (u (u (u (u s 8 (up (s 8) t k)) 9 (up (s 9) t p)) 10 (up (s 10) t m)) 6005 (fun _ => t + 1))) := by
  simp (disch := first | omega | exact okF _ | exact okI _ | exact okR _ | assumption | exact okN) only [S_93_0, S_93_1, S_93_4, S_93_5, S_93_8, S_93_9, S_93_12, S_93_13, S_93_16, S_93_17, S_93_20, S_93_21, S_93_22, S_93_23, S_93_26, S_93_27, S_93_30, S_93_31, S_93_32, S_93_33, S_93_36, S_93_37, S_93_40, S_93_41, S_93_42, S_93_43, S_93_43_r, S_93_44, S_93_47, S_93_48, S_93_49, S_93_52, u_at, iI_zero, iI_31, iI_add, iI_sub, iI_mul, iI_neg, ↓iI_max, ↓iI_min, iI_div, emod_f, iI_lt, iI_le, iI_inj, iI_toInt, ↓ii01, ↓ii11, ↓bI_b, bI_0, bI_1, Kt_s, Kt_n, cat0, cat1, cat2, cat3, cat4, rfV, Nat.reduceAdd, Nat.reduceMul, Nat.reduceEqDiff, Int.reduceAdd, Int.reduceSub, Int.reduceMul, Int.reduceNeg, Int.reduceLT, Int.reduceLE, Int.reduceEq, Int.reduceDiv, ↓reduceIte, ↓ite_ww, ↓ite_wi, Br_n, Br_TW, Br_FW, Br_FP, Br_FB, nn_p, and_true, true_and, and_self, true_or, or_true, not_true_eq_false, not_false_eq_true, le_T, le_F, lt_T, lt_F, eq_T, eq_F, Int.add_zero, Int.zero_add, Int.one_mul, Int.mul_one, up_eq, up_ne, Int.add_assoc, Int.add_sub_cancel, Int.sub_zero, Int.sub_self, H_6, H_8, H_9, H_10, ht]
set_option maxHeartbeats 4000000 in
theorem c_indexOf (h : 0 ≤ c ∧ c ≤ 255) : Wp (d + 3) 6 0 [.ref 3, .int (iI c)] [] (hp X s) Q = Q (some (.int (iI (sgi c)))) (hp X s) := by
  have g1 : gS (hp X s) 3 = (8, 1) := rfl
  have g2 : gS (hp X s) 4 = (9, 11) := rfl
  have l2 : lnOK (hp X s) 4 = True := eq_true (by unfold lnOK; rw [g2]; exact lnk (by decide) (by decide) (by decide))
  have b2 : ∀ {i : Int}, 0 ≤ i ∧ i < 11 → baOK (hp X s) 4 (iI i) = True := fun hi => eq_true (by unfold baOK; rw [g2, iI_toInt (by omega)]; exact ⟨Or.inr (Or.inr rfl), by show _ ∧ _ < ((11 : Nat) : Int); omega⟩)
  have e11 : ((11 : Nat) : Int) = 11 := rfl
  have sh : iI 11 >>> (iI 0 &&& iI 31) = iI 11 := by decide
  have nb : (narrow .byte (.int (iI 0)) = .int (iI 0)) = True := eq_true (by decide)
  have gg := fun (j : Nat) (hj : j < 1000) => g_str (X := X) (s := s) (k := 4) (j := j) (Or.inr rfl) hj
  have g0 : gM (hp X s) 4 (ix (iI 0)) = iI 35 := gg 0 (by omega)
  have h1 : gM (hp X s) 4 (ix (iI 1)) = iI 61 := gg 1 (by omega)
  have h2 : gM (hp X s) 4 (ix (iI 2)) = iI 60 := gg 2 (by omega)
  have h3 : gM (hp X s) 4 (ix (iI 3)) = iI 62 := gg 3 (by omega)
  have h4 : gM (hp X s) 4 (ix (iI 4)) = iI 43 := gg 4 (by omega)
  have h5 : gM (hp X s) 4 (ix (iI 5)) = iI 45 := gg 5 (by omega)
  have h6 : gM (hp X s) 4 (ix (iI 6)) = iI 42 := gg 6 (by omega)
  have h7 : gM (hp X s) 4 (ix (iI 7)) = iI 47 := gg 7 (by omega)
  have h8 : gM (hp X s) 4 (ix (iI 8)) = iI 40 := gg 8 (by omega)
  have h9 : gM (hp X s) 4 (ix (iI 9)) = iI 41 := gg 9 (by omega)
  have h10 : gM (hp X s) 4 (ix (iI 10)) = iI 59 := gg 10 (by omega)
  have eb : bt (iI c) = c := by
    unfold bt
    rw [iI_toInt (by omega)]
    omega
  have main : ∀ v r : Int, sb c = v → (-128 ≤ v ∧ v ≤ 127) → r = (if v = 35 then 0 else if v = 61 then 1 else if v = 60 then 2 else if v = 62 then 3 else if v = 43 then 4 else if v = 45 then 5 else if v = 42 then 6 else if v = 47 then 7 else if v = 40 then 8 else if v = 41 then 9 else if v = 59 then 10 else -1) → Wp (d + 3) 6 0 [.ref 3, .int (iI c)] [] (hp X s) Q = Q (some (.int (iI r))) (hp X s) := by
    intro v r esb hv hr
    have kdv : v = 35 ∨ v = 61 ∨ v = 60 ∨ v = 62 ∨ v = 43 ∨ v = 45 ∨ v = 42 ∨ v = 47 ∨ v = 40 ∨ v = 41 ∨ v = 59 ∨ (¬ v = 35 ∧ ¬ v = 61 ∧ ¬ v = 60 ∧ ¬ v = 62 ∧ ¬ v = 43 ∧ ¬ v = 45 ∧ ¬ v = 42 ∧ ¬ v = 47 ∧ ¬ v = 40 ∧ ¬ v = 41 ∧ ¬ v = 59) := by omega
    clear gg
    rcases kdv with q | q | q | q | q | q | q | q | q | q | q | q
    · subst q
      have hr : r = 0 := hr
      subst hr
      simp (disch := first | omega | exact okF _ | exact okI _ | exact okR _ | assumption | exact okN) only [S_6_0, S_6_1, S_6_2, S_6_3, S_6_6, S_7_0, S_7_1, S_7_4, S_7_7, S_7_8, S_7_11, S_7_12, S_7_13, S_7_14, S_7_17, S_7_20, S_7_23, S_7_24, S_7_27, S_7_28, S_7_29, S_7_30, S_7_36, S_4_0, S_4_3, S_4_6, S_4_7, S_4_10, S_4_13, S_4_14, S_4_17, S_4_18, S_5_0, S_5_1, S_5_4, S_5_5, S_5_6, S_5_9, S_5_10, S_3_0, S_3_3, S_3_6, S_3_7, S_3_10, S_3_13, S_3_14, S_10_0, S_10_1, S_10_4, S_10_7, S_10_8, S_10_9, S_10_10, S_10_11, S_10_14, S_10_15, S_10_16, S_10_17, S_10_18, S_10_21, S_10_22, S_10_23, S_10_24, S_10_27, S_10_28, S_10_29, S_10_30, S_10_31, S_10_32, S_10_33, S_10_36, S_9_0, S_9_1, S_9_4, S_9_5, S_9_8, S_9_11, S_9_12, S_9_15, S_9_16, S_11_0, S_11_1, S_11_2, S_11_4, S_11_5, S_11_7, S_11_9, S_11_10, S_11_13, S_11_14, S_11_16, S_11_17, S_11_19, S_11_22, S_11_24, S_11_25, S_11_28, S_11_31, S_11_32, u_at, iI_zero, iI_31, iI_add, iI_sub, iI_mul, iI_neg, ↓iI_max, ↓iI_min, iI_div, emod_f, iI_lt, iI_le, iI_inj, iI_toInt, ↓ii01, ↓ii11, ↓bI_b, bI_0, bI_1, Kt_s, Kt_n, cat0, cat1, cat2, cat3, cat4, rfV, Nat.reduceAdd, Nat.reduceMul, Nat.reduceEqDiff, Int.reduceAdd, Int.reduceSub, Int.reduceMul, Int.reduceNeg, Int.reduceLT, Int.reduceLE, Int.reduceEq, Int.reduceDiv, ↓reduceIte, ↓ite_ww, ↓ite_wi, Br_n, Br_TW, Br_FW, Br_FP, Br_FB, nn_p, and_true, true_and, and_self, true_or, or_true, not_true_eq_false, not_false_eq_true, le_T, le_F, lt_T, lt_F, eq_T, eq_F, Int.add_zero, Int.zero_add, Int.one_mul, Int.mul_one, up_eq, up_ne, Int.add_assoc, Int.add_sub_cancel, Int.sub_zero, Int.sub_self, g1, g2, l2, b2, e11, sh, nb, g0, h1, h2, h3, h4, h5, h6, h7, h8, h9, h10, toi8, eb, esb, Int.max_self, Int.min_self]
    · subst q
      have hr : r = 1 := hr
      subst hr
      simp (disch := first | omega | exact okF _ | exact okI _ | exact okR _ | assumption | exact okN) only [S_6_0, S_6_1, S_6_2, S_6_3, S_6_6, S_7_0, S_7_1, S_7_4, S_7_7, S_7_8, S_7_11, S_7_12, S_7_13, S_7_14, S_7_17, S_7_20, S_7_23, S_7_24, S_7_27, S_7_28, S_7_29, S_7_30, S_7_36, S_4_0, S_4_3, S_4_6, S_4_7, S_4_10, S_4_13, S_4_14, S_4_17, S_4_18, S_5_0, S_5_1, S_5_4, S_5_5, S_5_6, S_5_9, S_5_10, S_3_0, S_3_3, S_3_6, S_3_7, S_3_10, S_3_13, S_3_14, S_10_0, S_10_1, S_10_4, S_10_7, S_10_8, S_10_9, S_10_10, S_10_11, S_10_14, S_10_15, S_10_16, S_10_17, S_10_18, S_10_21, S_10_22, S_10_23, S_10_24, S_10_27, S_10_28, S_10_29, S_10_30, S_10_31, S_10_32, S_10_33, S_10_36, S_9_0, S_9_1, S_9_4, S_9_5, S_9_8, S_9_11, S_9_12, S_9_15, S_9_16, S_11_0, S_11_1, S_11_2, S_11_4, S_11_5, S_11_7, S_11_9, S_11_10, S_11_13, S_11_14, S_11_16, S_11_17, S_11_19, S_11_22, S_11_24, S_11_25, S_11_28, S_11_31, S_11_32, u_at, iI_zero, iI_31, iI_add, iI_sub, iI_mul, iI_neg, ↓iI_max, ↓iI_min, iI_div, emod_f, iI_lt, iI_le, iI_inj, iI_toInt, ↓ii01, ↓ii11, ↓bI_b, bI_0, bI_1, Kt_s, Kt_n, cat0, cat1, cat2, cat3, cat4, rfV, Nat.reduceAdd, Nat.reduceMul, Nat.reduceEqDiff, Int.reduceAdd, Int.reduceSub, Int.reduceMul, Int.reduceNeg, Int.reduceLT, Int.reduceLE, Int.reduceEq, Int.reduceDiv, ↓reduceIte, ↓ite_ww, ↓ite_wi, Br_n, Br_TW, Br_FW, Br_FP, Br_FB, nn_p, and_true, true_and, and_self, true_or, or_true, not_true_eq_false, not_false_eq_true, le_T, le_F, lt_T, lt_F, eq_T, eq_F, Int.add_zero, Int.zero_add, Int.one_mul, Int.mul_one, up_eq, up_ne, Int.add_assoc, Int.add_sub_cancel, Int.sub_zero, Int.sub_self, g1, g2, l2, b2, e11, sh, nb, g0, h1, h2, h3, h4, h5, h6, h7, h8, h9, h10, toi8, eb, esb, Int.max_self, Int.min_self]
    · subst q
      have hr : r = 2 := hr
      subst hr
      simp (disch := first | omega | exact okF _ | exact okI _ | exact okR _ | assumption | exact okN) only [S_6_0, S_6_1, S_6_2, S_6_3, S_6_6, S_7_0, S_7_1, S_7_4, S_7_7, S_7_8, S_7_11, S_7_12, S_7_13, S_7_14, S_7_17, S_7_20, S_7_23, S_7_24, S_7_27, S_7_28, S_7_29, S_7_30, S_7_36, S_4_0, S_4_3, S_4_6, S_4_7, S_4_10, S_4_13, S_4_14, S_4_17, S_4_18, S_5_0, S_5_1, S_5_4, S_5_5, S_5_6, S_5_9, S_5_10, S_3_0, S_3_3, S_3_6, S_3_7, S_3_10, S_3_13, S_3_14, S_10_0, S_10_1, S_10_4, S_10_7, S_10_8, S_10_9, S_10_10, S_10_11, S_10_14, S_10_15, S_10_16, S_10_17, S_10_18, S_10_21, S_10_22, S_10_23, S_10_24, S_10_27, S_10_28, S_10_29, S_10_30, S_10_31, S_10_32, S_10_33, S_10_36, S_9_0, S_9_1, S_9_4, S_9_5, S_9_8, S_9_11, S_9_12, S_9_15, S_9_16, S_11_0, S_11_1, S_11_2, S_11_4, S_11_5, S_11_7, S_11_9, S_11_10, S_11_13, S_11_14, S_11_16, S_11_17, S_11_19, S_11_22, S_11_24, S_11_25, S_11_28, S_11_31, S_11_32, u_at, iI_zero, iI_31, iI_add, iI_sub, iI_mul, iI_neg, ↓iI_max, ↓iI_min, iI_div, emod_f, iI_lt, iI_le, iI_inj, iI_toInt, ↓ii01, ↓ii11, ↓bI_b, bI_0, bI_1, Kt_s, Kt_n, cat0, cat1, cat2, cat3, cat4, rfV, Nat.reduceAdd, Nat.reduceMul, Nat.reduceEqDiff, Int.reduceAdd, Int.reduceSub, Int.reduceMul, Int.reduceNeg, Int.reduceLT, Int.reduceLE, Int.reduceEq, Int.reduceDiv, ↓reduceIte, ↓ite_ww, ↓ite_wi, Br_n, Br_TW, Br_FW, Br_FP, Br_FB, nn_p, and_true, true_and, and_self, true_or, or_true, not_true_eq_false, not_false_eq_true, le_T, le_F, lt_T, lt_F, eq_T, eq_F, Int.add_zero, Int.zero_add, Int.one_mul, Int.mul_one, up_eq, up_ne, Int.add_assoc, Int.add_sub_cancel, Int.sub_zero, Int.sub_self, g1, g2, l2, b2, e11, sh, nb, g0, h1, h2, h3, h4, h5, h6, h7, h8, h9, h10, toi8, eb, esb, Int.max_self, Int.min_self]
    · subst q
      have hr : r = 3 := hr
      subst hr
      simp (disch := first | omega | exact okF _ | exact okI _ | exact okR _ | assumption | exact okN) only [S_6_0, S_6_1, S_6_2, S_6_3, S_6_6, S_7_0, S_7_1, S_7_4, S_7_7, S_7_8, S_7_11, S_7_12, S_7_13, S_7_14, S_7_17, S_7_20, S_7_23, S_7_24, S_7_27, S_7_28, S_7_29, S_7_30, S_7_36, S_4_0, S_4_3, S_4_6, S_4_7, S_4_10, S_4_13, S_4_14, S_4_17, S_4_18, S_5_0, S_5_1, S_5_4, S_5_5, S_5_6, S_5_9, S_5_10, S_3_0, S_3_3, S_3_6, S_3_7, S_3_10, S_3_13, S_3_14, S_10_0, S_10_1, S_10_4, S_10_7, S_10_8, S_10_9, S_10_10, S_10_11, S_10_14, S_10_15, S_10_16, S_10_17, S_10_18, S_10_21, S_10_22, S_10_23, S_10_24, S_10_27, S_10_28, S_10_29, S_10_30, S_10_31, S_10_32, S_10_33, S_10_36, S_9_0, S_9_1, S_9_4, S_9_5, S_9_8, S_9_11, S_9_12, S_9_15, S_9_16, S_11_0, S_11_1, S_11_2, S_11_4, S_11_5, S_11_7, S_11_9, S_11_10, S_11_13, S_11_14, S_11_16, S_11_17, S_11_19, S_11_22, S_11_24, S_11_25, S_11_28, S_11_31, S_11_32, u_at, iI_zero, iI_31, iI_add, iI_sub, iI_mul, iI_neg, ↓iI_max, ↓iI_min, iI_div, emod_f, iI_lt, iI_le, iI_inj, iI_toInt, ↓ii01, ↓ii11, ↓bI_b, bI_0, bI_1, Kt_s, Kt_n, cat0, cat1, cat2, cat3, cat4, rfV, Nat.reduceAdd, Nat.reduceMul, Nat.reduceEqDiff, Int.reduceAdd, Int.reduceSub, Int.reduceMul, Int.reduceNeg, Int.reduceLT, Int.reduceLE, Int.reduceEq, Int.reduceDiv, ↓reduceIte, ↓ite_ww, ↓ite_wi, Br_n, Br_TW, Br_FW, Br_FP, Br_FB, nn_p, and_true, true_and, and_self, true_or, or_true, not_true_eq_false, not_false_eq_true, le_T, le_F, lt_T, lt_F, eq_T, eq_F, Int.add_zero, Int.zero_add, Int.one_mul, Int.mul_one, up_eq, up_ne, Int.add_assoc, Int.add_sub_cancel, Int.sub_zero, Int.sub_self, g1, g2, l2, b2, e11, sh, nb, g0, h1, h2, h3, h4, h5, h6, h7, h8, h9, h10, toi8, eb, esb, Int.max_self, Int.min_self]
    · subst q
      have hr : r = 4 := hr
      subst hr
      simp (disch := first | omega | exact okF _ | exact okI _ | exact okR _ | assumption | exact okN) only [S_6_0, S_6_1, S_6_2, S_6_3, S_6_6, S_7_0, S_7_1, S_7_4, S_7_7, S_7_8, S_7_11, S_7_12, S_7_13, S_7_14, S_7_17, S_7_20, S_7_23, S_7_24, S_7_27, S_7_28, S_7_29, S_7_30, S_7_36, S_4_0, S_4_3, S_4_6, S_4_7, S_4_10, S_4_13, S_4_14, S_4_17, S_4_18, S_5_0, S_5_1, S_5_4, S_5_5, S_5_6, S_5_9, S_5_10, S_3_0, S_3_3, S_3_6, S_3_7, S_3_10, S_3_13, S_3_14, S_10_0, S_10_1, S_10_4, S_10_7, S_10_8, S_10_9, S_10_10, S_10_11, S_10_14, S_10_15, S_10_16, S_10_17, S_10_18, S_10_21, S_10_22, S_10_23, S_10_24, S_10_27, S_10_28, S_10_29, S_10_30, S_10_31, S_10_32, S_10_33, S_10_36, S_9_0, S_9_1, S_9_4, S_9_5, S_9_8, S_9_11, S_9_12, S_9_15, S_9_16, S_11_0, S_11_1, S_11_2, S_11_4, S_11_5, S_11_7, S_11_9, S_11_10, S_11_13, S_11_14, S_11_16, S_11_17, S_11_19, S_11_22, S_11_24, S_11_25, S_11_28, S_11_31, S_11_32, u_at, iI_zero, iI_31, iI_add, iI_sub, iI_mul, iI_neg, ↓iI_max, ↓iI_min, iI_div, emod_f, iI_lt, iI_le, iI_inj, iI_toInt, ↓ii01, ↓ii11, ↓bI_b, bI_0, bI_1, Kt_s, Kt_n, cat0, cat1, cat2, cat3, cat4, rfV, Nat.reduceAdd, Nat.reduceMul, Nat.reduceEqDiff, Int.reduceAdd, Int.reduceSub, Int.reduceMul, Int.reduceNeg, Int.reduceLT, Int.reduceLE, Int.reduceEq, Int.reduceDiv, ↓reduceIte, ↓ite_ww, ↓ite_wi, Br_n, Br_TW, Br_FW, Br_FP, Br_FB, nn_p, and_true, true_and, and_self, true_or, or_true, not_true_eq_false, not_false_eq_true, le_T, le_F, lt_T, lt_F, eq_T, eq_F, Int.add_zero, Int.zero_add, Int.one_mul, Int.mul_one, up_eq, up_ne, Int.add_assoc, Int.add_sub_cancel, Int.sub_zero, Int.sub_self, g1, g2, l2, b2, e11, sh, nb, g0, h1, h2, h3, h4, h5, h6, h7, h8, h9, h10, toi8, eb, esb, Int.max_self, Int.min_self]
    · subst q
      have hr : r = 5 := hr
      subst hr
      simp (disch := first | omega | exact okF _ | exact okI _ | exact okR _ | assumption | exact okN) only [S_6_0, S_6_1, S_6_2, S_6_3, S_6_6, S_7_0, S_7_1, S_7_4, S_7_7, S_7_8, S_7_11, S_7_12, S_7_13, S_7_14, S_7_17, S_7_20, S_7_23, S_7_24, S_7_27, S_7_28, S_7_29, S_7_30, S_7_36, S_4_0, S_4_3, S_4_6, S_4_7, S_4_10, S_4_13, S_4_14, S_4_17, S_4_18, S_5_0, S_5_1, S_5_4, S_5_5, S_5_6, S_5_9, S_5_10, S_3_0, S_3_3, S_3_6, S_3_7, S_3_10, S_3_13, S_3_14, S_10_0, S_10_1, S_10_4, S_10_7, S_10_8, S_10_9, S_10_10, S_10_11, S_10_14, S_10_15, S_10_16, S_10_17, S_10_18, S_10_21, S_10_22, S_10_23, S_10_24, S_10_27, S_10_28, S_10_29, S_10_30, S_10_31, S_10_32, S_10_33, S_10_36, S_9_0, S_9_1, S_9_4, S_9_5, S_9_8, S_9_11, S_9_12, S_9_15, S_9_16, S_11_0, S_11_1, S_11_2, S_11_4, S_11_5, S_11_7, S_11_9, S_11_10, S_11_13, S_11_14, S_11_16, S_11_17, S_11_19, S_11_22, S_11_24, S_11_25, S_11_28, S_11_31, S_11_32, u_at, iI_zero, iI_31, iI_add, iI_sub, iI_mul, iI_neg, ↓iI_max, ↓iI_min, iI_div, emod_f, iI_lt, iI_le, iI_inj, iI_toInt, ↓ii01, ↓ii11, ↓bI_b, bI_0, bI_1, Kt_s, Kt_n, cat0, cat1, cat2, cat3, cat4, rfV, Nat.reduceAdd, Nat.reduceMul, Nat.reduceEqDiff, Int.reduceAdd, Int.reduceSub, Int.reduceMul, Int.reduceNeg, Int.reduceLT, Int.reduceLE, Int.reduceEq, Int.reduceDiv, ↓reduceIte, ↓ite_ww, ↓ite_wi, Br_n, Br_TW, Br_FW, Br_FP, Br_FB, nn_p, and_true, true_and, and_self, true_or, or_true, not_true_eq_false, not_false_eq_true, le_T, le_F, lt_T, lt_F, eq_T, eq_F, Int.add_zero, Int.zero_add, Int.one_mul, Int.mul_one, up_eq, up_ne, Int.add_assoc, Int.add_sub_cancel, Int.sub_zero, Int.sub_self, g1, g2, l2, b2, e11, sh, nb, g0, h1, h2, h3, h4, h5, h6, h7, h8, h9, h10, toi8, eb, esb, Int.max_self, Int.min_self]
    · subst q
      have hr : r = 6 := hr
      subst hr
      simp (disch := first | omega | exact okF _ | exact okI _ | exact okR _ | assumption | exact okN) only [S_6_0, S_6_1, S_6_2, S_6_3, S_6_6, S_7_0, S_7_1, S_7_4, S_7_7, S_7_8, S_7_11, S_7_12, S_7_13, S_7_14, S_7_17, S_7_20, S_7_23, S_7_24, S_7_27, S_7_28, S_7_29, S_7_30, S_7_36, S_4_0, S_4_3, S_4_6, S_4_7, S_4_10, S_4_13, S_4_14, S_4_17, S_4_18, S_5_0, S_5_1, S_5_4, S_5_5, S_5_6, S_5_9, S_5_10, S_3_0, S_3_3, S_3_6, S_3_7, S_3_10, S_3_13, S_3_14, S_10_0, S_10_1, S_10_4, S_10_7, S_10_8, S_10_9, S_10_10, S_10_11, S_10_14, S_10_15, S_10_16, S_10_17, S_10_18, S_10_21, S_10_22, S_10_23, S_10_24, S_10_27, S_10_28, S_10_29, S_10_30, S_10_31, S_10_32, S_10_33, S_10_36, S_9_0, S_9_1, S_9_4, S_9_5, S_9_8, S_9_11, S_9_12, S_9_15, S_9_16, S_11_0, S_11_1, S_11_2, S_11_4, S_11_5, S_11_7, S_11_9, S_11_10, S_11_13, S_11_14, S_11_16, S_11_17, S_11_19, S_11_22, S_11_24, S_11_25, S_11_28, S_11_31, S_11_32, u_at, iI_zero, iI_31, iI_add, iI_sub, iI_mul, iI_neg, ↓iI_max, ↓iI_min, iI_div, emod_f, iI_lt, iI_le, iI_inj, iI_toInt, ↓ii01, ↓ii11, ↓bI_b, bI_0, bI_1, Kt_s, Kt_n, cat0, cat1, cat2, cat3, cat4, rfV, Nat.reduceAdd, Nat.reduceMul, Nat.reduceEqDiff, Int.reduceAdd, Int.reduceSub, Int.reduceMul, Int.reduceNeg, Int.reduceLT, Int.reduceLE, Int.reduceEq, Int.reduceDiv, ↓reduceIte, ↓ite_ww, ↓ite_wi, Br_n, Br_TW, Br_FW, Br_FP, Br_FB, nn_p, and_true, true_and, and_self, true_or, or_true, not_true_eq_false, not_false_eq_true, le_T, le_F, lt_T, lt_F, eq_T, eq_F, Int.add_zero, Int.zero_add, Int.one_mul, Int.mul_one, up_eq, up_ne, Int.add_assoc, Int.add_sub_cancel, Int.sub_zero, Int.sub_self, g1, g2, l2, b2, e11, sh, nb, g0, h1, h2, h3, h4, h5, h6, h7, h8, h9, h10, toi8, eb, esb, Int.max_self, Int.min_self]
    · subst q
      have hr : r = 7 := hr
      subst hr
      simp (disch := first | omega | exact okF _ | exact okI _ | exact okR _ | assumption | exact okN) only [S_6_0, S_6_1, S_6_2, S_6_3, S_6_6, S_7_0, S_7_1, S_7_4, S_7_7, S_7_8, S_7_11, S_7_12, S_7_13, S_7_14, S_7_17, S_7_20, S_7_23, S_7_24, S_7_27, S_7_28, S_7_29, S_7_30, S_7_36, S_4_0, S_4_3, S_4_6, S_4_7, S_4_10, S_4_13, S_4_14, S_4_17, S_4_18, S_5_0, S_5_1, S_5_4, S_5_5, S_5_6, S_5_9, S_5_10, S_3_0, S_3_3, S_3_6, S_3_7, S_3_10, S_3_13, S_3_14, S_10_0, S_10_1, S_10_4, S_10_7, S_10_8, S_10_9, S_10_10, S_10_11, S_10_14, S_10_15, S_10_16, S_10_17, S_10_18, S_10_21, S_10_22, S_10_23, S_10_24, S_10_27, S_10_28, S_10_29, S_10_30, S_10_31, S_10_32, S_10_33, S_10_36, S_9_0, S_9_1, S_9_4, S_9_5, S_9_8, S_9_11, S_9_12, S_9_15, S_9_16, S_11_0, S_11_1, S_11_2, S_11_4, S_11_5, S_11_7, S_11_9, S_11_10, S_11_13, S_11_14, S_11_16, S_11_17, S_11_19, S_11_22, S_11_24, S_11_25, S_11_28, S_11_31, S_11_32, u_at, iI_zero, iI_31, iI_add, iI_sub, iI_mul, iI_neg, ↓iI_max, ↓iI_min, iI_div, emod_f, iI_lt, iI_le, iI_inj, iI_toInt, ↓ii01, ↓ii11, ↓bI_b, bI_0, bI_1, Kt_s, Kt_n, cat0, cat1, cat2, cat3, cat4, rfV, Nat.reduceAdd, Nat.reduceMul, Nat.reduceEqDiff, Int.reduceAdd, Int.reduceSub, Int.reduceMul, Int.reduceNeg, Int.reduceLT, Int.reduceLE, Int.reduceEq, Int.reduceDiv, ↓reduceIte, ↓ite_ww, ↓ite_wi, Br_n, Br_TW, Br_FW, Br_FP, Br_FB, nn_p, and_true, true_and, and_self, true_or, or_true, not_true_eq_false, not_false_eq_true, le_T, le_F, lt_T, lt_F, eq_T, eq_F, Int.add_zero, Int.zero_add, Int.one_mul, Int.mul_one, up_eq, up_ne, Int.add_assoc, Int.add_sub_cancel, Int.sub_zero, Int.sub_self, g1, g2, l2, b2, e11, sh, nb, g0, h1, h2, h3, h4, h5, h6, h7, h8, h9, h10, toi8, eb, esb, Int.max_self, Int.min_self]
    · subst q
      have hr : r = 8 := hr
      subst hr
      simp (disch := first | omega | exact okF _ | exact okI _ | exact okR _ | assumption | exact okN) only [S_6_0, S_6_1, S_6_2, S_6_3, S_6_6, S_7_0, S_7_1, S_7_4, S_7_7, S_7_8, S_7_11, S_7_12, S_7_13, S_7_14, S_7_17, S_7_20, S_7_23, S_7_24, S_7_27, S_7_28, S_7_29, S_7_30, S_7_36, S_4_0, S_4_3, S_4_6, S_4_7, S_4_10, S_4_13, S_4_14, S_4_17, S_4_18, S_5_0, S_5_1, S_5_4, S_5_5, S_5_6, S_5_9, S_5_10, S_3_0, S_3_3, S_3_6, S_3_7, S_3_10, S_3_13, S_3_14, S_10_0, S_10_1, S_10_4, S_10_7, S_10_8, S_10_9, S_10_10, S_10_11, S_10_14, S_10_15, S_10_16, S_10_17, S_10_18, S_10_21, S_10_22, S_10_23, S_10_24, S_10_27, S_10_28, S_10_29, S_10_30, S_10_31, S_10_32, S_10_33, S_10_36, S_9_0, S_9_1, S_9_4, S_9_5, S_9_8, S_9_11, S_9_12, S_9_15, S_9_16, S_11_0, S_11_1, S_11_2, S_11_4, S_11_5, S_11_7, S_11_9, S_11_10, S_11_13, S_11_14, S_11_16, S_11_17, S_11_19, S_11_22, S_11_24, S_11_25, S_11_28, S_11_31, S_11_32, u_at, iI_zero, iI_31, iI_add, iI_sub, iI_mul, iI_neg, ↓iI_max, ↓iI_min, iI_div, emod_f, iI_lt, iI_le, iI_inj, iI_toInt, ↓ii01, ↓ii11, ↓bI_b, bI_0, bI_1, Kt_s, Kt_n, cat0, cat1, cat2, cat3, cat4, rfV, Nat.reduceAdd, Nat.reduceMul, Nat.reduceEqDiff, Int.reduceAdd, Int.reduceSub, Int.reduceMul, Int.reduceNeg, Int.reduceLT, Int.reduceLE, Int.reduceEq, Int.reduceDiv, ↓reduceIte, ↓ite_ww, ↓ite_wi, Br_n, Br_TW, Br_FW, Br_FP, Br_FB, nn_p, and_true, true_and, and_self, true_or, or_true, not_true_eq_false, not_false_eq_true, le_T, le_F, lt_T, lt_F, eq_T, eq_F, Int.add_zero, Int.zero_add, Int.one_mul, Int.mul_one, up_eq, up_ne, Int.add_assoc, Int.add_sub_cancel, Int.sub_zero, Int.sub_self, g1, g2, l2, b2, e11, sh, nb, g0, h1, h2, h3, h4, h5, h6, h7, h8, h9, h10, toi8, eb, esb, Int.max_self, Int.min_self]
    · subst q
      have hr : r = 9 := hr
      subst hr
      simp (disch := first | omega | exact okF _ | exact okI _ | exact okR _ | assumption | exact okN) only [S_6_0, S_6_1, S_6_2, S_6_3, S_6_6, S_7_0, S_7_1, S_7_4, S_7_7, S_7_8, S_7_11, S_7_12, S_7_13, S_7_14, S_7_17, S_7_20, S_7_23, S_7_24, S_7_27, S_7_28, S_7_29, S_7_30, S_7_36, S_4_0, S_4_3, S_4_6, S_4_7, S_4_10, S_4_13, S_4_14, S_4_17, S_4_18, S_5_0, S_5_1, S_5_4, S_5_5, S_5_6, S_5_9, S_5_10, S_3_0, S_3_3, S_3_6, S_3_7, S_3_10, S_3_13, S_3_14, S_10_0, S_10_1, S_10_4, S_10_7, S_10_8, S_10_9, S_10_10, S_10_11, S_10_14, S_10_15, S_10_16, S_10_17, S_10_18, S_10_21, S_10_22, S_10_23, S_10_24, S_10_27, S_10_28, S_10_29, S_10_30, S_10_31, S_10_32, S_10_33, S_10_36, S_9_0, S_9_1, S_9_4, S_9_5, S_9_8, S_9_11, S_9_12, S_9_15, S_9_16, S_11_0, S_11_1, S_11_2, S_11_4, S_11_5, S_11_7, S_11_9, S_11_10, S_11_13, S_11_14, S_11_16, S_11_17, S_11_19, S_11_22, S_11_24, S_11_25, S_11_28, S_11_31, S_11_32, u_at, iI_zero, iI_31, iI_add, iI_sub, iI_mul, iI_neg, ↓iI_max, ↓iI_min, iI_div, emod_f, iI_lt, iI_le, iI_inj, iI_toInt, ↓ii01, ↓ii11, ↓bI_b, bI_0, bI_1, Kt_s, Kt_n, cat0, cat1, cat2, cat3, cat4, rfV, Nat.reduceAdd, Nat.reduceMul, Nat.reduceEqDiff, Int.reduceAdd, Int.reduceSub, Int.reduceMul, Int.reduceNeg, Int.reduceLT, Int.reduceLE, Int.reduceEq, Int.reduceDiv, ↓reduceIte, ↓ite_ww, ↓ite_wi, Br_n, Br_TW, Br_FW, Br_FP, Br_FB, nn_p, and_true, true_and, and_self, true_or, or_true, not_true_eq_false, not_false_eq_true, le_T, le_F, lt_T, lt_F, eq_T, eq_F, Int.add_zero, Int.zero_add, Int.one_mul, Int.mul_one, up_eq, up_ne, Int.add_assoc, Int.add_sub_cancel, Int.sub_zero, Int.sub_self, g1, g2, l2, b2, e11, sh, nb, g0, h1, h2, h3, h4, h5, h6, h7, h8, h9, h10, toi8, eb, esb, Int.max_self, Int.min_self]
    · subst q
      have hr : r = 10 := hr
      subst hr
      simp (disch := first | omega | exact okF _ | exact okI _ | exact okR _ | assumption | exact okN) only [S_6_0, S_6_1, S_6_2, S_6_3, S_6_6, S_7_0, S_7_1, S_7_4, S_7_7, S_7_8, S_7_11, S_7_12, S_7_13, S_7_14, S_7_17, S_7_20, S_7_23, S_7_24, S_7_27, S_7_28, S_7_29, S_7_30, S_7_36, S_4_0, S_4_3, S_4_6, S_4_7, S_4_10, S_4_13, S_4_14, S_4_17, S_4_18, S_5_0, S_5_1, S_5_4, S_5_5, S_5_6, S_5_9, S_5_10, S_3_0, S_3_3, S_3_6, S_3_7, S_3_10, S_3_13, S_3_14, S_10_0, S_10_1, S_10_4, S_10_7, S_10_8, S_10_9, S_10_10, S_10_11, S_10_14, S_10_15, S_10_16, S_10_17, S_10_18, S_10_21, S_10_22, S_10_23, S_10_24, S_10_27, S_10_28, S_10_29, S_10_30, S_10_31, S_10_32, S_10_33, S_10_36, S_9_0, S_9_1, S_9_4, S_9_5, S_9_8, S_9_11, S_9_12, S_9_15, S_9_16, S_11_0, S_11_1, S_11_2, S_11_4, S_11_5, S_11_7, S_11_9, S_11_10, S_11_13, S_11_14, S_11_16, S_11_17, S_11_19, S_11_22, S_11_24, S_11_25, S_11_28, S_11_31, S_11_32, u_at, iI_zero, iI_31, iI_add, iI_sub, iI_mul, iI_neg, ↓iI_max, ↓iI_min, iI_div, emod_f, iI_lt, iI_le, iI_inj, iI_toInt, ↓ii01, ↓ii11, ↓bI_b, bI_0, bI_1, Kt_s, Kt_n, cat0, cat1, cat2, cat3, cat4, rfV, Nat.reduceAdd, Nat.reduceMul, Nat.reduceEqDiff, Int.reduceAdd, Int.reduceSub, Int.reduceMul, Int.reduceNeg, Int.reduceLT, Int.reduceLE, Int.reduceEq, Int.reduceDiv, ↓reduceIte, ↓ite_ww, ↓ite_wi, Br_n, Br_TW, Br_FW, Br_FP, Br_FB, nn_p, and_true, true_and, and_self, true_or, or_true, not_true_eq_false, not_false_eq_true, le_T, le_F, lt_T, lt_F, eq_T, eq_F, Int.add_zero, Int.zero_add, Int.one_mul, Int.mul_one, up_eq, up_ne, Int.add_assoc, Int.add_sub_cancel, Int.sub_zero, Int.sub_self, g1, g2, l2, b2, e11, sh, nb, g0, h1, h2, h3, h4, h5, h6, h7, h8, h9, h10, toi8, eb, esb, Int.max_self, Int.min_self]
    · have hr : r = -1 := by
        obtain ⟨q1, q2, q3, q4, q5, q6, q7, q8, q9, q10, q11⟩ := q
        rw [hr, if_neg q1, if_neg q2, if_neg q3, if_neg q4, if_neg q5, if_neg q6, if_neg q7, if_neg q8, if_neg q9, if_neg q10, if_neg q11]
      subst hr
      simp (disch := first | omega | exact okF _ | exact okI _ | exact okR _ | assumption | exact okN) only [S_6_0, S_6_1, S_6_2, S_6_3, S_6_6, S_7_0, S_7_1, S_7_4, S_7_7, S_7_8, S_7_11, S_7_12, S_7_13, S_7_14, S_7_17, S_7_20, S_7_23, S_7_24, S_7_27, S_7_28, S_7_29, S_7_30, S_7_36, S_4_0, S_4_3, S_4_6, S_4_7, S_4_10, S_4_13, S_4_14, S_4_17, S_4_18, S_5_0, S_5_1, S_5_4, S_5_5, S_5_6, S_5_9, S_5_10, S_3_0, S_3_3, S_3_6, S_3_7, S_3_10, S_3_13, S_3_14, S_10_0, S_10_1, S_10_4, S_10_7, S_10_8, S_10_9, S_10_10, S_10_11, S_10_14, S_10_15, S_10_16, S_10_17, S_10_18, S_10_21, S_10_22, S_10_23, S_10_24, S_10_27, S_10_28, S_10_29, S_10_30, S_10_31, S_10_32, S_10_33, S_10_36, S_9_0, S_9_1, S_9_4, S_9_5, S_9_8, S_9_11, S_9_12, S_9_15, S_9_16, S_11_0, S_11_1, S_11_2, S_11_4, S_11_5, S_11_7, S_11_9, S_11_10, S_11_13, S_11_14, S_11_16, S_11_17, S_11_19, S_11_22, S_11_24, S_11_25, S_11_28, S_11_31, S_11_32, u_at, iI_zero, iI_31, iI_add, iI_sub, iI_mul, iI_neg, ↓iI_max, ↓iI_min, iI_div, emod_f, iI_lt, iI_le, iI_inj, iI_toInt, ↓ii01, ↓ii11, ↓bI_b, bI_0, bI_1, Kt_s, Kt_n, cat0, cat1, cat2, cat3, cat4, rfV, Nat.reduceAdd, Nat.reduceMul, Nat.reduceEqDiff, Int.reduceAdd, Int.reduceSub, Int.reduceMul, Int.reduceNeg, Int.reduceLT, Int.reduceLE, Int.reduceEq, Int.reduceDiv, ↓reduceIte, ↓ite_ww, ↓ite_wi, Br_n, Br_TW, Br_FW, Br_FP, Br_FB, nn_p, and_true, true_and, and_self, true_or, or_true, not_true_eq_false, not_false_eq_true, le_T, le_F, lt_T, lt_F, eq_T, eq_F, Int.add_zero, Int.zero_add, Int.one_mul, Int.mul_one, up_eq, up_ne, Int.add_assoc, Int.add_sub_cancel, Int.sub_zero, Int.sub_self, g1, g2, l2, b2, e11, sh, nb, g0, h1, h2, h3, h4, h5, h6, h7, h8, h9, h10, toi8, eb, esb, Int.max_self, Int.min_self]
  have sr := sb_r h
  refine main (sb c) (sgi c) rfl sr ?_
  by_cases c1 : c < 128
  · have e : sb c = c := if_pos c1
    rw [e]
    unfold sgi sgk
    clear main g0 h1 h2 h3 h4 h5 h6 h7 h8 h9 h10 gg e sr eb
    repeat' split
    all_goals omega
  · have e : sb c = c - 256 := if_neg c1
    have e2 : sgk c = 14 := by
      unfold sgk
      rw [if_neg (by omega), if_neg (by omega), if_neg (by omega), if_neg (by omega), if_neg (by omega), if_neg (by omega), if_neg (by omega), if_neg (by omega), if_neg (by omega), if_neg (by omega), if_neg (by omega)]
    rw [e, if_neg (by omega), if_neg (by omega), if_neg (by omega), if_neg (by omega), if_neg (by omega), if_neg (by omega), if_neg (by omega), if_neg (by omega), if_neg (by omega), if_neg (by omega), if_neg (by omega)]
    unfold sgi
    rw [if_pos e2]
end CL
