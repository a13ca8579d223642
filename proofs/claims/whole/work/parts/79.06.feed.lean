/-! THE TAPE is fed -/
def bt (v : Int32) : Int := v.toInt % 256
def sb (z : Int) : Int := if z < 128 then z else z - 256
/-- the k-th byte of a word -/
def wb (w k : Int) : Int := bt (iI w >>> (iI (24 - 8 * k) &&& iI 31))
theorem and255 (v : Int32) : v &&& iI 255 = iI (bt v) := by
  apply Int32.toBitVec_inj.mp
  apply BitVec.eq_of_toNat_eq
  have h1 : (v &&& iI 255).toBitVec = v.toBitVec &&& 255#32 := rfl
  have h2 : (iI (bt v)).toBitVec = BitVec.ofInt 32 (bt v) := rfl
  have h3 : (v.toBitVec &&& 255#32).toNat = v.toBitVec.toNat % 256 := by
    rw [BitVec.toNat_and]
    exact Nat.and_two_pow_sub_one_eq_mod _ 8
  have h4 : bt v = v.toBitVec.toInt % 256 := rfl
  have h5 := BitVec.toInt_eq_toNat_cond v.toBitVec
  have h6 := v.toBitVec.isLt
  rw [h1, h2, h3, BitVec.toNat_ofInt, h4, h5]
  split <;> omega
theorem bt_r (v : Int32) : 0 ≤ bt v ∧ bt v ≤ 255 := by unfold bt; omega
theorem sb_r {z : Int} (h : 0 ≤ z ∧ z ≤ 255) : -128 ≤ sb z ∧ sb z ≤ 127 := by unfold sb; split <;> omega
theorem toi8 (v : Int32) : v.toInt8.toInt32 = iI (sb (bt v)) := by
  have r := sb_r (bt_r v)
  apply Int32.toInt_inj.mp
  rw [iI_toInt (by omega), Int8.toInt_toInt32, Int32.toInt_toInt8]
  unfold sb bt
  rw [Int.bmod_def]
  have e : ((256 : Nat) : Int) = 256 := rfl
  show (if v.toInt % 256 < (256 + 1) / 2 then v.toInt % 256 else v.toInt % 256 - 256) = _
  by_cases c : v.toInt % 256 < 128
  · rw [if_pos c, if_pos (by omega)]
  · rw [if_neg c, if_neg (by omega)]
theorem sbb (v : Int32) : sb (bt (iI (sb (bt v)))) = sb (bt v) := by
  have r := sb_r (bt_r v)
  have r0 := bt_r v
  have e : bt (iI (sb (bt v))) = sb (bt v) % 256 := by
    unfold bt
    rw [iI_toInt (by unfold bt at r; omega)]
  rw [e]
  generalize bt v = z at *
  unfold sb
  split <;> split <;> omega
theorem u_sw {s : sg} {K K2 : Nat} {f g : Int → Int} (h : ¬ K = K2) : u (u s K f) K2 g = u (u s K2 g) K f := by
  funext k
  unfold u
  by_cases c : k = K2
  · rw [if_pos c, if_neg (by omega), if_pos c]
  · rw [if_neg c]
    by_cases c2 : k = K
    · rw [if_pos c2, if_pos c2]
    · rw [if_neg c2, if_neg c2, if_neg c]
section FD
variable {d : Nat} {X : hX} {s s1 : sg} {Q : Option Value → aH → Prop} {w a b c e f n x m j : Int} {A B : Int → Int}
/-- four bytes more -/
def four (K F : Nat) (g : Int → Int) (n w : Int) (s s2 : sg) : Prop := s2 F 0 = n + 4 ∧ (∀ z, ¬ (n ≤ z ∧ z < n + 4) → s2 K z = s K z) ∧ ∀ k, 0 ≤ k → k < 4 → s2 K (n + k) = g (wb w k)
theorem four_i {K F : Nat} {g : Int → Int} (h : ¬ F = K) : four K F g n w s (u (u s F (fun _ => n + 4)) K (up (up (up (up (s K) n (g (wb w 0))) (n + 1) (g (wb w 1))) (n + 2) (g (wb w 2))) (n + 3) (g (wb w 3)))) := by
  refine ⟨?_, fun z hz => ?_, fun k k0 k1 => ?_⟩
  · rw [u_ne h, u_eq]
  · rw [u_eq, up_ne (by omega), up_ne (by omega), up_ne (by omega), up_ne (by omega)]
  · rw [u_eq]
    have kd : k = 0 ∨ k = 1 ∨ k = 2 ∨ k = 3 := by omega
    rcases kd with q | q | q | q <;> subst q <;> simp (disch := omega) only [up_eq, up_ne]
theorem c_addFour (hn : s 6004 0 = n) (h : 0 ≤ n ∧ n ≤ 296) (kk : ∀ s', Fr [7, 6004] s s' → four 7 6004 (fun z => z) n w s s' → Q none (hp X s')) : Wp d 89 0 [.ref 6, .int (iI w), .float 0] [] (hp X s) Q := by
  have kk := kk (u (u s 6004 (fun _ => n + 4)) 7 (up (up (up (up (s 7) n (wb w 0)) (n + 1) (wb w 1)) (n + 2) (wb w 2)) (n + 3) (wb w 3))) (by repeat (first | exact Fr.rf _ | refine Fr.u ?_ rfl)) (four_i (by omega))
  have w0 : bt (iI w >>> (iI 24 &&& iI 31)) = wb w 0 := rfl
  have w1 : bt (iI w >>> (iI 16 &&& iI 31)) = wb w 1 := rfl
  have w2 : bt (iI w >>> (iI 8 &&& iI 31)) = wb w 2 := rfl
  have w3 : bt (iI w >>> (iI 0 &&& iI 31)) = wb w 3 := rfl
  have sw : ∀ (s : sg) (f g : Int → Int), u (u s 7 f) 6004 g = u (u s 6004 g) 7 f := fun s f g => u_sw (by omega)
  repeat' (first | (with_reducible refine Br_i ?_ ?_ <;> (intro hbr; first | exact False.elim hbr | skip)) | (with_reducible refine Wl_i ?_) | (simp (disch := first | omega | exact okF _ | exact okI _ | exact okR _ | assumption | exact okN) only [u_at, iI_zero, iI_31, iI_add, iI_sub, iI_mul, iI_neg, ↓iI_max, ↓iI_min, iI_div, emod_f, iI_lt, iI_le, iI_inj, iI_toInt, ↓ii01, ↓ii11, ↓bI_b, bI_0, bI_1, Kt_s, Kt_n, cat0, cat1, cat2, cat3, cat4, rfV, Nat.reduceAdd, Nat.reduceMul, Nat.reduceEqDiff, Int.reduceAdd, Int.reduceSub, Int.reduceMul, Int.reduceNeg, Int.reduceLT, Int.reduceLE, Int.reduceEq, Int.reduceDiv, ↓reduceIte, ↓ite_ww, ↓ite_wi, Br_n, Br_TW, Br_FW, Br_FP, Br_FB, nn_p, and_true, true_and, and_self, true_or, or_true, not_true_eq_false, not_false_eq_true, le_T, le_F, lt_T, lt_F, eq_T, eq_F, Int.add_zero, Int.zero_add, Int.one_mul, Int.mul_one, up_eq, up_ne, Int.add_assoc, Int.add_sub_cancel, Int.sub_zero, Int.sub_self, S_89_0, S_89_2, S_89_3, S_89_4, S_89_7, S_89_8, S_89_11, S_89_12, S_89_15, S_89_16, S_89_19, S_89_20, S_89_23, S_89_24, S_89_27, S_89_28, S_89_29, S_89_30, S_89_33, S_89_34, S_89_35, S_89_36, S_89_36_r, S_89_37, S_89_40, S_89_41, S_89_42, S_89_45, S_89_48, S_89_51, H_6, H_7, hn, and255, w0, w1, w2, w3, sw, u_u]))
  exact kk
theorem m_tapes (hn : s 122003 0 = n) (h : 0 ≤ n ∧ n ≤ 296) (kk : ∀ s', Fr [125, 122003] s s' → four 125 122003 sb n w s s' → Q none (hp X s')) : Wp d 184 0 [.ref 122, .int (iI w), .float 0] [] (hp X s) Q := by
  have kk := kk (u (u s 122003 (fun _ => n + 4)) 125 (up (up (up (up (s 125) n (sb (wb w 0))) (n + 1) (sb (wb w 1))) (n + 2) (sb (wb w 2))) (n + 3) (sb (wb w 3)))) (by repeat (first | exact Fr.rf _ | refine Fr.u ?_ rfl)) (four_i (by omega))
  have w0 : bt (iI w >>> (iI 24 &&& iI 31)) = wb w 0 := rfl
  have w1 : bt (iI w >>> (iI 16 &&& iI 31)) = wb w 1 := rfl
  have w2 : bt (iI w >>> (iI 8 &&& iI 31)) = wb w 2 := rfl
  have w3 : bt (iI w >>> (iI 0 &&& iI 31)) = wb w 3 := rfl
  have sw : ∀ (s : sg) (f g : Int → Int), u (u s 125 f) 122003 g = u (u s 122003 g) 125 f := fun s f g => u_sw (by omega)
  have ss : ∀ k, sb (bt (iI (sb (wb w k)))) = sb (wb w k) := fun k => sbb _
  repeat' (first | (with_reducible refine Br_i ?_ ?_ <;> (intro hbr; first | exact False.elim hbr | skip)) | (with_reducible refine Wl_i ?_) | (simp (disch := first | omega | exact okF _ | exact okI _ | exact okR _ | assumption | exact okN) only [u_at, iI_zero, iI_31, iI_add, iI_sub, iI_mul, iI_neg, ↓iI_max, ↓iI_min, iI_div, emod_f, iI_lt, iI_le, iI_inj, iI_toInt, ↓ii01, ↓ii11, ↓bI_b, bI_0, bI_1, Kt_s, Kt_n, cat0, cat1, cat2, cat3, cat4, rfV, Nat.reduceAdd, Nat.reduceMul, Nat.reduceEqDiff, Int.reduceAdd, Int.reduceSub, Int.reduceMul, Int.reduceNeg, Int.reduceLT, Int.reduceLE, Int.reduceEq, Int.reduceDiv, ↓reduceIte, ↓ite_ww, ↓ite_wi, Br_n, Br_TW, Br_FW, Br_FP, Br_FB, nn_p, and_true, true_and, and_self, true_or, or_true, not_true_eq_false, not_false_eq_true, le_T, le_F, lt_T, lt_F, eq_T, eq_F, Int.add_zero, Int.zero_add, Int.one_mul, Int.mul_one, up_eq, up_ne, Int.add_assoc, Int.add_sub_cancel, Int.sub_zero, Int.sub_self, S_184_0, S_184_2, S_184_3, S_184_4, S_184_7, S_184_8, S_184_11, S_184_12, S_184_15, S_184_16, S_184_17, S_184_18, S_184_19, S_184_20, S_184_21, S_184_21_r, S_184_22, S_184_25, S_184_26, S_184_27, S_184_30, S_184_31, S_184_33, S_184_34, S_184_35, S_184_38, H_122, H_125, hn, toi8, ss, w0, w1, w2, w3, sw, u_u]))
  exact kk
/-- twenty bytes more -/
def twenty (K F : Nat) (g : Int → Int) (n a b c e f : Int) (s s2 : sg) : Prop := s2 F 0 = n + 20 ∧ (∀ z, z < n → s2 K z = s K z) ∧ ∀ k, 0 ≤ k → k < 4 → s2 K (n + k) = g (wb a k) ∧ s2 K (n + 4 + k) = g (wb b k) ∧ s2 K (n + 8 + k) = g (wb c k) ∧ s2 K (n + 12 + k) = g (wb e k) ∧ s2 K (n + 16 + k) = g (wb f k)
theorem twenty_i {K F : Nat} {g : Int → Int} {s1 s2 s3 s4 s5 : sg} (h1 : four K F g n a s s1) (h2 : four K F g (n + 4) b s1 s2) (h3 : four K F g (n + 4 + 4) c s2 s3) (h4 : four K F g (n + 4 + 4 + 4) e s3 s4) (h5 : four K F g (n + 4 + 4 + 4 + 4) f s4 s5) : twenty K F g n a b c e f s s5 := by
  refine ⟨by rw [h5.1]; omega, fun z hz => ?_, fun k k0 k1 => ⟨?_, ?_, ?_, ?_, ?_⟩⟩
  · rw [h5.2.1 z (by omega), h4.2.1 z (by omega), h3.2.1 z (by omega), h2.2.1 z (by omega), h1.2.1 z (by omega)]
  · rw [h5.2.1 _ (by omega), h4.2.1 _ (by omega), h3.2.1 _ (by omega), h2.2.1 _ (by omega), h1.2.2 k k0 k1]
  · rw [h5.2.1 _ (by omega), h4.2.1 _ (by omega), h3.2.1 _ (by omega), h2.2.2 k k0 k1]
  · rw [h5.2.1 _ (by omega), h4.2.1 _ (by omega), show n + 8 + k = n + 4 + 4 + k by omega, h3.2.2 k k0 k1]
  · rw [h5.2.1 _ (by omega), show n + 12 + k = n + 4 + 4 + 4 + k by omega, h4.2.2 k k0 k1]
  · rw [show n + 16 + k = n + 4 + 4 + 4 + 4 + k by omega, h5.2.2 k k0 k1]
theorem c_feed (h : 0 ≤ s 6004 0 ∧ s 6004 0 ≤ 300) (k1 : ¬ s 6004 0 ≤ 280 → Q (some (.int (iI (-1)))) (hp X s)) (k2 : s 6004 0 ≤ 280 → ∀ s', Fr [7, 6004] s s' → twenty 7 6004 (fun z => z) (s 6004 0) a b c e f s s' → Q (some (.int (iI (s 6004 0 + 20)))) (hp X s')) : Wp (d + 1) 128 0 [.ref 5, .int (iI a), .int (iI b), .int (iI c), .int (iI e), .int (iI f)] [] (hp X s) Q := by
  by_cases q : s 6004 0 ≤ 280
  · have k2 := k2 q
    generalize hn : s 6004 0 = n at *
    repeat' (first | (with_reducible refine Br_i ?_ ?_ <;> (intro hbr; first | exact False.elim hbr | skip)) | (with_reducible refine Wl_i ?_) | (simp (disch := first | omega | exact okF _ | exact okI _ | exact okR _ | assumption | exact okN) only [u_at, iI_zero, iI_31, iI_add, iI_sub, iI_mul, iI_neg, ↓iI_max, ↓iI_min, iI_div, emod_f, iI_lt, iI_le, iI_inj, iI_toInt, ↓ii01, ↓ii11, ↓bI_b, bI_0, bI_1, Kt_s, Kt_n, cat0, cat1, cat2, cat3, cat4, rfV, Nat.reduceAdd, Nat.reduceMul, Nat.reduceEqDiff, Int.reduceAdd, Int.reduceSub, Int.reduceMul, Int.reduceNeg, Int.reduceLT, Int.reduceLE, Int.reduceEq, Int.reduceDiv, ↓reduceIte, ↓ite_ww, ↓ite_wi, Br_n, Br_TW, Br_FW, Br_FP, Br_FB, nn_p, and_true, true_and, and_self, true_or, or_true, not_true_eq_false, not_false_eq_true, le_T, le_F, lt_T, lt_F, eq_T, eq_F, Int.add_zero, Int.zero_add, Int.one_mul, Int.mul_one, up_eq, up_ne, Int.add_assoc, Int.add_sub_cancel, Int.sub_zero, Int.sub_self, S_128_0, S_128_1, S_128_4, S_128_7, S_128_9, S_128_10, S_128_13, S_128_16, S_128_17, S_128_18, S_128_19, S_128_22, S_128_23, S_128_26, S_128_27, S_128_30, S_128_31, S_128_34, S_128_35, S_128_38, S_128_39, S_128_42, S_128_43, S_128_46, S_128_48, S_128_51, S_128_52, S_128_55, S_128_57, S_128_60, S_128_61, S_128_64, S_128_67, H_5, H_6, hn]))
    refine c_addFour hn (by omega) fun s1 f1 h1 => ?_
    repeat' (first | (with_reducible refine Br_i ?_ ?_ <;> (intro hbr; first | exact False.elim hbr | skip)) | (with_reducible refine Wl_i ?_) | (simp (disch := first | omega | exact okF _ | exact okI _ | exact okR _ | assumption | exact okN) only [u_at, iI_zero, iI_31, iI_add, iI_sub, iI_mul, iI_neg, ↓iI_max, ↓iI_min, iI_div, emod_f, iI_lt, iI_le, iI_inj, iI_toInt, ↓ii01, ↓ii11, ↓bI_b, bI_0, bI_1, Kt_s, Kt_n, cat0, cat1, cat2, cat3, cat4, rfV, Nat.reduceAdd, Nat.reduceMul, Nat.reduceEqDiff, Int.reduceAdd, Int.reduceSub, Int.reduceMul, Int.reduceNeg, Int.reduceLT, Int.reduceLE, Int.reduceEq, Int.reduceDiv, ↓reduceIte, ↓ite_ww, ↓ite_wi, Br_n, Br_TW, Br_FW, Br_FP, Br_FB, nn_p, and_true, true_and, and_self, true_or, or_true, not_true_eq_false, not_false_eq_true, le_T, le_F, lt_T, lt_F, eq_T, eq_F, Int.add_zero, Int.zero_add, Int.one_mul, Int.mul_one, up_eq, up_ne, Int.add_assoc, Int.add_sub_cancel, Int.sub_zero, Int.sub_self, S_128_0, S_128_1, S_128_4, S_128_7, S_128_9, S_128_10, S_128_13, S_128_16, S_128_17, S_128_18, S_128_19, S_128_22, S_128_23, S_128_26, S_128_27, S_128_30, S_128_31, S_128_34, S_128_35, S_128_38, S_128_39, S_128_42, S_128_43, S_128_46, S_128_48, S_128_51, S_128_52, S_128_55, S_128_57, S_128_60, S_128_61, S_128_64, S_128_67, H_5, H_6]))
    refine c_addFour h1.1 (by omega) fun s2 f2 h2 => ?_
    repeat' (first | (with_reducible refine Br_i ?_ ?_ <;> (intro hbr; first | exact False.elim hbr | skip)) | (with_reducible refine Wl_i ?_) | (simp (disch := first | omega | exact okF _ | exact okI _ | exact okR _ | assumption | exact okN) only [u_at, iI_zero, iI_31, iI_add, iI_sub, iI_mul, iI_neg, ↓iI_max, ↓iI_min, iI_div, emod_f, iI_lt, iI_le, iI_inj, iI_toInt, ↓ii01, ↓ii11, ↓bI_b, bI_0, bI_1, Kt_s, Kt_n, cat0, cat1, cat2, cat3, cat4, rfV, Nat.reduceAdd, Nat.reduceMul, Nat.reduceEqDiff, Int.reduceAdd, Int.reduceSub, Int.reduceMul, Int.reduceNeg, Int.reduceLT, Int.reduceLE, Int.reduceEq, Int.reduceDiv, ↓reduceIte, ↓ite_ww, ↓ite_wi, Br_n, Br_TW, Br_FW, Br_FP, Br_FB, nn_p, and_true, true_and, and_self, true_or, or_true, not_true_eq_false, not_false_eq_true, le_T, le_F, lt_T, lt_F, eq_T, eq_F, Int.add_zero, Int.zero_add, Int.one_mul, Int.mul_one, up_eq, up_ne, Int.add_assoc, Int.add_sub_cancel, Int.sub_zero, Int.sub_self, S_128_0, S_128_1, S_128_4, S_128_7, S_128_9, S_128_10, S_128_13, S_128_16, S_128_17, S_128_18, S_128_19, S_128_22, S_128_23, S_128_26, S_128_27, S_128_30, S_128_31, S_128_34, S_128_35, S_128_38, S_128_39, S_128_42, S_128_43, S_128_46, S_128_48, S_128_51, S_128_52, S_128_55, S_128_57, S_128_60, S_128_61, S_128_64, S_128_67, H_5, H_6]))
    refine c_addFour h2.1 (by omega) fun s3 f3 h3 => ?_
    repeat' (first | (with_reducible refine Br_i ?_ ?_ <;> (intro hbr; first | exact False.elim hbr | skip)) | (with_reducible refine Wl_i ?_) | (simp (disch := first | omega | exact okF _ | exact okI _ | exact okR _ | assumption | exact okN) only [u_at, iI_zero, iI_31, iI_add, iI_sub, iI_mul, iI_neg, ↓iI_max, ↓iI_min, iI_div, emod_f, iI_lt, iI_le, iI_inj, iI_toInt, ↓ii01, ↓ii11, ↓bI_b, bI_0, bI_1, Kt_s, Kt_n, cat0, cat1, cat2, cat3, cat4, rfV, Nat.reduceAdd, Nat.reduceMul, Nat.reduceEqDiff, Int.reduceAdd, Int.reduceSub, Int.reduceMul, Int.reduceNeg, Int.reduceLT, Int.reduceLE, Int.reduceEq, Int.reduceDiv, ↓reduceIte, ↓ite_ww, ↓ite_wi, Br_n, Br_TW, Br_FW, Br_FP, Br_FB, nn_p, and_true, true_and, and_self, true_or, or_true, not_true_eq_false, not_false_eq_true, le_T, le_F, lt_T, lt_F, eq_T, eq_F, Int.add_zero, Int.zero_add, Int.one_mul, Int.mul_one, up_eq, up_ne, Int.add_assoc, Int.add_sub_cancel, Int.sub_zero, Int.sub_self, S_128_0, S_128_1, S_128_4, S_128_7, S_128_9, S_128_10, S_128_13, S_128_16, S_128_17, S_128_18, S_128_19, S_128_22, S_128_23, S_128_26, S_128_27, S_128_30, S_128_31, S_128_34, S_128_35, S_128_38, S_128_39, S_128_42, S_128_43, S_128_46, S_128_48, S_128_51, S_128_52, S_128_55, S_128_57, S_128_60, S_128_61, S_128_64, S_128_67, H_5, H_6]))
    refine c_addFour h3.1 (by omega) fun s4 f4 h4 => ?_
    repeat' (first | (with_reducible refine Br_i ?_ ?_ <;> (intro hbr; first | exact False.elim hbr | skip)) | (with_reducible refine Wl_i ?_) | (simp (disch := first | omega | exact okF _ | exact okI _ | exact okR _ | assumption | exact okN) only [u_at, iI_zero, iI_31, iI_add, iI_sub, iI_mul, iI_neg, ↓iI_max, ↓iI_min, iI_div, emod_f, iI_lt, iI_le, iI_inj, iI_toInt, ↓ii01, ↓ii11, ↓bI_b, bI_0, bI_1, Kt_s, Kt_n, cat0, cat1, cat2, cat3, cat4, rfV, Nat.reduceAdd, Nat.reduceMul, Nat.reduceEqDiff, Int.reduceAdd, Int.reduceSub, Int.reduceMul, Int.reduceNeg, Int.reduceLT, Int.reduceLE, Int.reduceEq, Int.reduceDiv, ↓reduceIte, ↓ite_ww, ↓ite_wi, Br_n, Br_TW, Br_FW, Br_FP, Br_FB, nn_p, and_true, true_and, and_self, true_or, or_true, not_true_eq_false, not_false_eq_true, le_T, le_F, lt_T, lt_F, eq_T, eq_F, Int.add_zero, Int.zero_add, Int.one_mul, Int.mul_one, up_eq, up_ne, Int.add_assoc, Int.add_sub_cancel, Int.sub_zero, Int.sub_self, S_128_0, S_128_1, S_128_4, S_128_7, S_128_9, S_128_10, S_128_13, S_128_16, S_128_17, S_128_18, S_128_19, S_128_22, S_128_23, S_128_26, S_128_27, S_128_30, S_128_31, S_128_34, S_128_35, S_128_38, S_128_39, S_128_42, S_128_43, S_128_46, S_128_48, S_128_51, S_128_52, S_128_55, S_128_57, S_128_60, S_128_61, S_128_64, S_128_67, H_5, H_6]))
    refine c_addFour h4.1 (by omega) fun s5 f5 h5 => ?_
    have tw := twenty_i h1 h2 h3 h4 h5
    have k2 := k2 s5 ((((f1.tr f2).tr f3).tr f4).tr f5) tw
    have e := tw.1
    repeat' (first | (with_reducible refine Br_i ?_ ?_ <;> (intro hbr; first | exact False.elim hbr | skip)) | (with_reducible refine Wl_i ?_) | (simp (disch := first | omega | exact okF _ | exact okI _ | exact okR _ | assumption | exact okN) only [u_at, iI_zero, iI_31, iI_add, iI_sub, iI_mul, iI_neg, ↓iI_max, ↓iI_min, iI_div, emod_f, iI_lt, iI_le, iI_inj, iI_toInt, ↓ii01, ↓ii11, ↓bI_b, bI_0, bI_1, Kt_s, Kt_n, cat0, cat1, cat2, cat3, cat4, rfV, Nat.reduceAdd, Nat.reduceMul, Nat.reduceEqDiff, Int.reduceAdd, Int.reduceSub, Int.reduceMul, Int.reduceNeg, Int.reduceLT, Int.reduceLE, Int.reduceEq, Int.reduceDiv, ↓reduceIte, ↓ite_ww, ↓ite_wi, Br_n, Br_TW, Br_FW, Br_FP, Br_FB, nn_p, and_true, true_and, and_self, true_or, or_true, not_true_eq_false, not_false_eq_true, le_T, le_F, lt_T, lt_F, eq_T, eq_F, Int.add_zero, Int.zero_add, Int.one_mul, Int.mul_one, up_eq, up_ne, Int.add_assoc, Int.add_sub_cancel, Int.sub_zero, Int.sub_self, S_128_0, S_128_1, S_128_4, S_128_7, S_128_9, S_128_10, S_128_13, S_128_16, S_128_17, S_128_18, S_128_19, S_128_22, S_128_23, S_128_26, S_128_27, S_128_30, S_128_31, S_128_34, S_128_35, S_128_38, S_128_39, S_128_42, S_128_43, S_128_46, S_128_48, S_128_51, S_128_52, S_128_55, S_128_57, S_128_60, S_128_61, S_128_64, S_128_67, H_5, H_6, e]))
    exact k2
  · have k1 := k1 q
    repeat' (first | (with_reducible refine Br_i ?_ ?_ <;> (intro hbr; first | exact False.elim hbr | skip)) | (with_reducible refine Wl_i ?_) | (simp (disch := first | omega | exact okF _ | exact okI _ | exact okR _ | assumption | exact okN) only [u_at, iI_zero, iI_31, iI_add, iI_sub, iI_mul, iI_neg, ↓iI_max, ↓iI_min, iI_div, emod_f, iI_lt, iI_le, iI_inj, iI_toInt, ↓ii01, ↓ii11, ↓bI_b, bI_0, bI_1, Kt_s, Kt_n, cat0, cat1, cat2, cat3, cat4, rfV, Nat.reduceAdd, Nat.reduceMul, Nat.reduceEqDiff, Int.reduceAdd, Int.reduceSub, Int.reduceMul, Int.reduceNeg, Int.reduceLT, Int.reduceLE, Int.reduceEq, Int.reduceDiv, ↓reduceIte, ↓ite_ww, ↓ite_wi, Br_n, Br_TW, Br_FW, Br_FP, Br_FB, nn_p, and_true, true_and, and_self, true_or, or_true, not_true_eq_false, not_false_eq_true, le_T, le_F, lt_T, lt_F, eq_T, eq_F, Int.add_zero, Int.zero_add, Int.one_mul, Int.mul_one, up_eq, up_ne, Int.add_assoc, Int.add_sub_cancel, Int.sub_zero, Int.sub_self, S_128_0, S_128_1, S_128_4, S_128_7, S_128_9, S_128_10, S_128_13, S_128_16, S_128_17, S_128_18, S_128_19, S_128_22, S_128_23, S_128_26, S_128_27, S_128_30, S_128_31, S_128_34, S_128_35, S_128_38, S_128_39, S_128_42, S_128_43, S_128_46, S_128_48, S_128_51, S_128_52, S_128_55, S_128_57, S_128_60, S_128_61, S_128_64, S_128_67, H_5, H_6]))
    all_goals first | exact k1 | (exfalso; omega)
theorem m_feed (h : 0 ≤ s 122003 0 ∧ s 122003 0 ≤ 300) (k1 : ¬ s 122003 0 ≤ 280 → Q (some (.int (iI (-1)))) (hp X s)) (k2 : s 122003 0 ≤ 280 → ∀ s', Fr [125, 122003] s s' → twenty 125 122003 sb (s 122003 0) a b c e f s s' → Q (some (.int (iI (s 122003 0 + 20)))) (hp X s')) : Wp (d + 1) 185 0 [.ref 122, .int (iI a), .int (iI b), .int (iI c), .int (iI e), .int (iI f)] [] (hp X s) Q := by
  by_cases q : s 122003 0 ≤ 280
  · have k2 := k2 q
    generalize hn : s 122003 0 = n at *
    repeat' (first | (with_reducible refine Br_i ?_ ?_ <;> (intro hbr; first | exact False.elim hbr | skip)) | (with_reducible refine Wl_i ?_) | (simp (disch := first | omega | exact okF _ | exact okI _ | exact okR _ | assumption | exact okN) only [u_at, iI_zero, iI_31, iI_add, iI_sub, iI_mul, iI_neg, ↓iI_max, ↓iI_min, iI_div, emod_f, iI_lt, iI_le, iI_inj, iI_toInt, ↓ii01, ↓ii11, ↓bI_b, bI_0, bI_1, Kt_s, Kt_n, cat0, cat1, cat2, cat3, cat4, rfV, Nat.reduceAdd, Nat.reduceMul, Nat.reduceEqDiff, Int.reduceAdd, Int.reduceSub, Int.reduceMul, Int.reduceNeg, Int.reduceLT, Int.reduceLE, Int.reduceEq, Int.reduceDiv, ↓reduceIte, ↓ite_ww, ↓ite_wi, Br_n, Br_TW, Br_FW, Br_FP, Br_FB, nn_p, and_true, true_and, and_self, true_or, or_true, not_true_eq_false, not_false_eq_true, le_T, le_F, lt_T, lt_F, eq_T, eq_F, Int.add_zero, Int.zero_add, Int.one_mul, Int.mul_one, up_eq, up_ne, Int.add_assoc, Int.add_sub_cancel, Int.sub_zero, Int.sub_self, S_185_0, S_185_1, S_185_4, S_185_6, S_185_7, S_185_10, S_185_13, S_185_14, S_185_15, S_185_16, S_185_17, S_185_20, S_185_21, S_185_22, S_185_25, S_185_26, S_185_27, S_185_30, S_185_31, S_185_33, S_185_36, S_185_37, S_185_39, S_185_42, S_185_43, S_185_46, H_122, hn]))
    refine m_tapes hn (by omega) fun s1 f1 h1 => ?_
    repeat' (first | (with_reducible refine Br_i ?_ ?_ <;> (intro hbr; first | exact False.elim hbr | skip)) | (with_reducible refine Wl_i ?_) | (simp (disch := first | omega | exact okF _ | exact okI _ | exact okR _ | assumption | exact okN) only [u_at, iI_zero, iI_31, iI_add, iI_sub, iI_mul, iI_neg, ↓iI_max, ↓iI_min, iI_div, emod_f, iI_lt, iI_le, iI_inj, iI_toInt, ↓ii01, ↓ii11, ↓bI_b, bI_0, bI_1, Kt_s, Kt_n, cat0, cat1, cat2, cat3, cat4, rfV, Nat.reduceAdd, Nat.reduceMul, Nat.reduceEqDiff, Int.reduceAdd, Int.reduceSub, Int.reduceMul, Int.reduceNeg, Int.reduceLT, Int.reduceLE, Int.reduceEq, Int.reduceDiv, ↓reduceIte, ↓ite_ww, ↓ite_wi, Br_n, Br_TW, Br_FW, Br_FP, Br_FB, nn_p, and_true, true_and, and_self, true_or, or_true, not_true_eq_false, not_false_eq_true, le_T, le_F, lt_T, lt_F, eq_T, eq_F, Int.add_zero, Int.zero_add, Int.one_mul, Int.mul_one, up_eq, up_ne, Int.add_assoc, Int.add_sub_cancel, Int.sub_zero, Int.sub_self, S_185_0, S_185_1, S_185_4, S_185_6, S_185_7, S_185_10, S_185_13, S_185_14, S_185_15, S_185_16, S_185_17, S_185_20, S_185_21, S_185_22, S_185_25, S_185_26, S_185_27, S_185_30, S_185_31, S_185_33, S_185_36, S_185_37, S_185_39, S_185_42, S_185_43, S_185_46, H_122]))
    refine m_tapes h1.1 (by omega) fun s2 f2 h2 => ?_
    repeat' (first | (with_reducible refine Br_i ?_ ?_ <;> (intro hbr; first | exact False.elim hbr | skip)) | (with_reducible refine Wl_i ?_) | (simp (disch := first | omega | exact okF _ | exact okI _ | exact okR _ | assumption | exact okN) only [u_at, iI_zero, iI_31, iI_add, iI_sub, iI_mul, iI_neg, ↓iI_max, ↓iI_min, iI_div, emod_f, iI_lt, iI_le, iI_inj, iI_toInt, ↓ii01, ↓ii11, ↓bI_b, bI_0, bI_1, Kt_s, Kt_n, cat0, cat1, cat2, cat3, cat4, rfV, Nat.reduceAdd, Nat.reduceMul, Nat.reduceEqDiff, Int.reduceAdd, Int.reduceSub, Int.reduceMul, Int.reduceNeg, Int.reduceLT, Int.reduceLE, Int.reduceEq, Int.reduceDiv, ↓reduceIte, ↓ite_ww, ↓ite_wi, Br_n, Br_TW, Br_FW, Br_FP, Br_FB, nn_p, and_true, true_and, and_self, true_or, or_true, not_true_eq_false, not_false_eq_true, le_T, le_F, lt_T, lt_F, eq_T, eq_F, Int.add_zero, Int.zero_add, Int.one_mul, Int.mul_one, up_eq, up_ne, Int.add_assoc, Int.add_sub_cancel, Int.sub_zero, Int.sub_self, S_185_0, S_185_1, S_185_4, S_185_6, S_185_7, S_185_10, S_185_13, S_185_14, S_185_15, S_185_16, S_185_17, S_185_20, S_185_21, S_185_22, S_185_25, S_185_26, S_185_27, S_185_30, S_185_31, S_185_33, S_185_36, S_185_37, S_185_39, S_185_42, S_185_43, S_185_46, H_122]))
    refine m_tapes h2.1 (by omega) fun s3 f3 h3 => ?_
    repeat' (first | (with_reducible refine Br_i ?_ ?_ <;> (intro hbr; first | exact False.elim hbr | skip)) | (with_reducible refine Wl_i ?_) | (simp (disch := first | omega | exact okF _ | exact okI _ | exact okR _ | assumption | exact okN) only [u_at, iI_zero, iI_31, iI_add, iI_sub, iI_mul, iI_neg, ↓iI_max, ↓iI_min, iI_div, emod_f, iI_lt, iI_le, iI_inj, iI_toInt, ↓ii01, ↓ii11, ↓bI_b, bI_0, bI_1, Kt_s, Kt_n, cat0, cat1, cat2, cat3, cat4, rfV, Nat.reduceAdd, Nat.reduceMul, Nat.reduceEqDiff, Int.reduceAdd, Int.reduceSub, Int.reduceMul, Int.reduceNeg, Int.reduceLT, Int.reduceLE, Int.reduceEq, Int.reduceDiv, ↓reduceIte, ↓ite_ww, ↓ite_wi, Br_n, Br_TW, Br_FW, Br_FP, Br_FB, nn_p, and_true, true_and, and_self, true_or, or_true, not_true_eq_false, not_false_eq_true, le_T, le_F, lt_T, lt_F, eq_T, eq_F, Int.add_zero, Int.zero_add, Int.one_mul, Int.mul_one, up_eq, up_ne, Int.add_assoc, Int.add_sub_cancel, Int.sub_zero, Int.sub_self, S_185_0, S_185_1, S_185_4, S_185_6, S_185_7, S_185_10, S_185_13, S_185_14, S_185_15, S_185_16, S_185_17, S_185_20, S_185_21, S_185_22, S_185_25, S_185_26, S_185_27, S_185_30, S_185_31, S_185_33, S_185_36, S_185_37, S_185_39, S_185_42, S_185_43, S_185_46, H_122]))
    refine m_tapes h3.1 (by omega) fun s4 f4 h4 => ?_
    repeat' (first | (with_reducible refine Br_i ?_ ?_ <;> (intro hbr; first | exact False.elim hbr | skip)) | (with_reducible refine Wl_i ?_) | (simp (disch := first | omega | exact okF _ | exact okI _ | exact okR _ | assumption | exact okN) only [u_at, iI_zero, iI_31, iI_add, iI_sub, iI_mul, iI_neg, ↓iI_max, ↓iI_min, iI_div, emod_f, iI_lt, iI_le, iI_inj, iI_toInt, ↓ii01, ↓ii11, ↓bI_b, bI_0, bI_1, Kt_s, Kt_n, cat0, cat1, cat2, cat3, cat4, rfV, Nat.reduceAdd, Nat.reduceMul, Nat.reduceEqDiff, Int.reduceAdd, Int.reduceSub, Int.reduceMul, Int.reduceNeg, Int.reduceLT, Int.reduceLE, Int.reduceEq, Int.reduceDiv, ↓reduceIte, ↓ite_ww, ↓ite_wi, Br_n, Br_TW, Br_FW, Br_FP, Br_FB, nn_p, and_true, true_and, and_self, true_or, or_true, not_true_eq_false, not_false_eq_true, le_T, le_F, lt_T, lt_F, eq_T, eq_F, Int.add_zero, Int.zero_add, Int.one_mul, Int.mul_one, up_eq, up_ne, Int.add_assoc, Int.add_sub_cancel, Int.sub_zero, Int.sub_self, S_185_0, S_185_1, S_185_4, S_185_6, S_185_7, S_185_10, S_185_13, S_185_14, S_185_15, S_185_16, S_185_17, S_185_20, S_185_21, S_185_22, S_185_25, S_185_26, S_185_27, S_185_30, S_185_31, S_185_33, S_185_36, S_185_37, S_185_39, S_185_42, S_185_43, S_185_46, H_122]))
    refine m_tapes h4.1 (by omega) fun s5 f5 h5 => ?_
    have tw := twenty_i h1 h2 h3 h4 h5
    have k2 := k2 s5 ((((f1.tr f2).tr f3).tr f4).tr f5) tw
    have e := tw.1
    repeat' (first | (with_reducible refine Br_i ?_ ?_ <;> (intro hbr; first | exact False.elim hbr | skip)) | (with_reducible refine Wl_i ?_) | (simp (disch := first | omega | exact okF _ | exact okI _ | exact okR _ | assumption | exact okN) only [u_at, iI_zero, iI_31, iI_add, iI_sub, iI_mul, iI_neg, ↓iI_max, ↓iI_min, iI_div, emod_f, iI_lt, iI_le, iI_inj, iI_toInt, ↓ii01, ↓ii11, ↓bI_b, bI_0, bI_1, Kt_s, Kt_n, cat0, cat1, cat2, cat3, cat4, rfV, Nat.reduceAdd, Nat.reduceMul, Nat.reduceEqDiff, Int.reduceAdd, Int.reduceSub, Int.reduceMul, Int.reduceNeg, Int.reduceLT, Int.reduceLE, Int.reduceEq, Int.reduceDiv, ↓reduceIte, ↓ite_ww, ↓ite_wi, Br_n, Br_TW, Br_FW, Br_FP, Br_FB, nn_p, and_true, true_and, and_self, true_or, or_true, not_true_eq_false, not_false_eq_true, le_T, le_F, lt_T, lt_F, eq_T, eq_F, Int.add_zero, Int.zero_add, Int.one_mul, Int.mul_one, up_eq, up_ne, Int.add_assoc, Int.add_sub_cancel, Int.sub_zero, Int.sub_self, S_185_0, S_185_1, S_185_4, S_185_6, S_185_7, S_185_10, S_185_13, S_185_14, S_185_15, S_185_16, S_185_17, S_185_20, S_185_21, S_185_22, S_185_25, S_185_26, S_185_27, S_185_30, S_185_31, S_185_33, S_185_36, S_185_37, S_185_39, S_185_42, S_185_43, S_185_46, H_122, e]))
    exact k2
  · have k1 := k1 q
    repeat' (first | (with_reducible refine Br_i ?_ ?_ <;> (intro hbr; first | exact False.elim hbr | skip)) | (with_reducible refine Wl_i ?_) | (simp (disch := first | omega | exact okF _ | exact okI _ | exact okR _ | assumption | exact okN) only [u_at, iI_zero, iI_31, iI_add, iI_sub, iI_mul, iI_neg, ↓iI_max, ↓iI_min, iI_div, emod_f, iI_lt, iI_le, iI_inj, iI_toInt, ↓ii01, ↓ii11, ↓bI_b, bI_0, bI_1, Kt_s, Kt_n, cat0, cat1, cat2, cat3, cat4, rfV, Nat.reduceAdd, Nat.reduceMul, Nat.reduceEqDiff, Int.reduceAdd, Int.reduceSub, Int.reduceMul, Int.reduceNeg, Int.reduceLT, Int.reduceLE, Int.reduceEq, Int.reduceDiv, ↓reduceIte, ↓ite_ww, ↓ite_wi, Br_n, Br_TW, Br_FW, Br_FP, Br_FB, nn_p, and_true, true_and, and_self, true_or, or_true, not_true_eq_false, not_false_eq_true, le_T, le_F, lt_T, lt_F, eq_T, eq_F, Int.add_zero, Int.zero_add, Int.one_mul, Int.mul_one, up_eq, up_ne, Int.add_assoc, Int.add_sub_cancel, Int.sub_zero, Int.sub_self, S_185_0, S_185_1, S_185_4, S_185_6, S_185_7, S_185_10, S_185_13, S_185_14, S_185_15, S_185_16, S_185_17, S_185_20, S_185_21, S_185_22, S_185_25, S_185_26, S_185_27, S_185_30, S_185_31, S_185_33, S_185_36, S_185_37, S_185_39, S_185_42, S_185_43, S_185_46, H_122]))
    all_goals first | exact k1 | (exfalso; omega)
/-- the tape after both were fed -/
theorem Tp_feed {s2 : sg} (h : Tp s) (q : s 6004 0 ≤ 280) (f1 : Fr [7, 6004] s s1) (t1 : twenty 7 6004 (fun z => z) (s 6004 0) a b c e f s s1) (f2 : Fr [125, 122003] s1 s2) (t2 : twenty 125 122003 sb (s 6004 0) a b c e f s1 s2) : Tp s2 := by
  obtain ⟨h1, h2, h3⟩ := h
  have e1 : s2 6004 0 = s 6004 0 + 20 := by rw [f2.g 6004 rfl]; exact t1.1
  have e7 : s2 7 = s1 7 := f2.g 7 rfl
  have e125 : s1 125 = s 125 := f1.g 125 rfl
  generalize s 6004 0 = n at *
  refine ⟨by rw [e1, t2.1], by omega, fun i i0 i1 => ?_⟩
  rw [e1] at i1
  rw [e7]
  by_cases c0 : i < n
  · rw [t1.2.1 i c0, t2.2.1 i c0, e125]
    exact h3 i i0 c0
  · obtain ⟨j, k, hj, hk, e⟩ : ∃ j k : Int, (j = 0 ∨ j = 4 ∨ j = 8 ∨ j = 12 ∨ j = 16) ∧ (0 ≤ k ∧ k < 4) ∧ i = n + j + k := ⟨(i - n) / 4 * 4, (i - n) % 4, by omega, by omega, by omega⟩
    obtain ⟨a1, a2, a3, a4, a5⟩ := t1.2.2 k hk.1 hk.2
    obtain ⟨b1, b2, b3, b4, b5⟩ := t2.2.2 k hk.1 hk.2
    subst e
    rcases hj with q | q | q | q | q <;> subst q
    · rw [Int.add_zero, a1, b1]
      exact ⟨bt_r _, rfl⟩
    · rw [a2, b2]
      exact ⟨bt_r _, rfl⟩
    · rw [a3, b3]
      exact ⟨bt_r _, rfl⟩
    · rw [a4, b4]
      exact ⟨bt_r _, rfl⟩
    · rw [a5, b5]
      exact ⟨bt_r _, rfl⟩
end FD
