/-! THE CLASS: what a clause says -/
def fidx : lawT → Int → Int → Int
  | [], _, _ => -1
  | c :: r, w, i => if c.1 = w then i else fidx r w (i + 1)
/-- a clause's facts in the class's cells -/
def cF (s : sg) (k : Nat) (j : Int) (c : Int × opl) : Prop := s (k + 2) j = c.1 ∧ 0 ≤ s (k + 3) j ∧ s (k + 4) j = s (k + 3) j + c.2.length ∧ s (k + 4) j ≤ 300 ∧ seg (s (k + 1)) (s (k + 3) j) (c.2.map enc)
theorem fidx_r {l : lawT} {w : Int} : ∀ {i : Int}, 0 ≤ i → (look l w = none ∧ fidx l w i = -1) ∨ (∃ c, look l w = some c ∧ i ≤ fidx l w i ∧ fidx l w i < i + l.length) := by
  induction l with
  | nil => intro i h; exact Or.inl ⟨rfl, rfl⟩
  | cons c r ih =>
    intro i h
    rw [look_cons]
    unfold fidx
    simp only [List.length_cons]
    by_cases e : c.1 = w
    · rw [if_pos e, if_pos e]
      exact Or.inr ⟨_, rfl, by omega, by omega⟩
    · rw [if_neg e, if_neg e]
      rcases ih (i := i + 1) (by omega) with h | ⟨c2, a, b, c3⟩
      · exact Or.inl h
      · exact Or.inr ⟨c2, a, by omega, by omega⟩
theorem lC_look {s : sg} {k : Nat} {w : Int} {l : lawT} : ∀ {i : Int} {c : opl}, lC s k i l → look l w = some c → cF s k (fidx l w i) (w, c) := by
  induction l with
  | nil => intro i c _ h; cases h
  | cons q r ih =>
    intro i c h e
    rw [look_cons] at e
    unfold fidx
    by_cases x : q.1 = w
    · rw [if_pos x] at e
      rw [if_pos x]
      cases e
      have := h.1
      rw [x] at this
      exact this
    · rw [if_neg x] at e
      rw [if_neg x]
      exact ih h.2 e
theorem enc_bin {o v : Int} (h : isAr o ∨ isCmp o ∨ o = 406 ∨ o = 407) : -32 ≤ enc (o, v) ∧ enc (o, v) ≤ -11 ∧ ¬ enc (o, v) = -13 := by
  unfold isAr isCmp at h
  rcases h with (e | e | e | e) | (e | e | e | e | e | e) | e | e <;> subst e <;> (unfold enc; simp only [Int.reduceEq, if_false, if_true, ↓reduceIte]; decide)
section CL
variable {d : Nat} {X : hX} {s : sg} {Q : Option Value → aH → Prop} {a b t w n o v z : Int} {k : Nat} {l : lawT}
theorem c_find_l (hk : isLw k) : ∀ (l : lawT) (i : Int), lC s k i l → (0 ≤ i ∧ i + l.length ≤ 10) → (∀ c ∈ l, clOK c) → (0 ≤ w ∧ w ≤ 4) → Wp d 24 2 [.ref k, .int (iI w), .int (iI i)] [] (hp X s) Q = Q (some (.int (iI (fidx l w i)))) (hp X s) := by
  intro l
  induction l with
  | nil =>
    intro i h hi hc hw
    have e : s (1000 * k + 5) 0 = i := h
    simp only [List.length_nil] at hi
    unfold fidx
    simp (disch := first | omega | exact okF _ | exact okI _ | exact okR _ | assumption | exact okN) only [S_24_0, S_24_1, S_24_2, S_24_3, S_24_4, S_24_7, S_24_10, S_24_11, S_24_12, S_24_15, S_24_16, S_24_19, S_24_20, S_24_23, S_24_24, S_24_25, S_24_26, S_24_29, S_24_30, S_24_31, S_24_34, S_24_37, S_24_38, u_at, iI_zero, iI_31, iI_add, iI_sub, iI_mul, iI_neg, ↓iI_max, ↓iI_min, iI_div, emod_f, iI_lt, iI_le, iI_inj, iI_toInt, ↓ii01, ↓ii11, ↓bI_b, bI_0, bI_1, Kt_s, Kt_n, cat0, cat1, cat2, cat3, cat4, rfV, Nat.reduceAdd, Nat.reduceMul, Nat.reduceEqDiff, Int.reduceAdd, Int.reduceSub, Int.reduceMul, Int.reduceNeg, Int.reduceLT, Int.reduceLE, Int.reduceEq, Int.reduceDiv, ↓reduceIte, ↓ite_ww, ↓ite_wi, Br_n, Br_TW, Br_FW, Br_FP, Br_FB, nn_p, and_true, true_and, and_self, true_or, or_true, not_true_eq_false, not_false_eq_true, le_T, le_F, lt_T, lt_F, eq_T, eq_F, Int.add_zero, Int.zero_add, Int.one_mul, Int.mul_one, up_eq, up_ne, Int.add_assoc, Int.add_sub_cancel, Int.sub_zero, Int.sub_self, H_Lw hk, e]
  | cons c r ih =>
    intro i h hi hc hw
    have e := lC_len h
    have b1 := (hc c List.mem_cons_self).1
    simp only [List.length_cons] at e hi
    have e2 := h.1.1
    have ih := ih (i + 1) h.2 (by omega) (fun c hc' => hc c (List.mem_cons_of_mem _ hc')) hw
    have L := H_L hk (X := X) (s := s)
    have La := H_La hk (X := X) (s := s) (j := 2) (by decide)
    unfold fidx
    rw [S_24_2]
    by_cases x : c.1 = w
    · rw [if_pos x]
      simp (disch := first | omega | exact okF _ | exact okI _ | exact okR _ | assumption | exact okN) only [S_24_0, S_24_1, S_24_3, S_24_4, S_24_7, S_24_10, S_24_11, S_24_12, S_24_15, S_24_16, S_24_19, S_24_20, S_24_23, S_24_24, S_24_25, S_24_26, S_24_29, S_24_30, S_24_31, S_24_34, S_24_37, S_24_38, u_at, iI_zero, iI_31, iI_add, iI_sub, iI_mul, iI_neg, ↓iI_max, ↓iI_min, iI_div, emod_f, iI_lt, iI_le, iI_inj, iI_toInt, ↓ii01, ↓ii11, ↓bI_b, bI_0, bI_1, Kt_s, Kt_n, cat0, cat1, cat2, cat3, cat4, rfV, Nat.reduceAdd, Nat.reduceMul, Nat.reduceEqDiff, Int.reduceAdd, Int.reduceSub, Int.reduceMul, Int.reduceNeg, Int.reduceLT, Int.reduceLE, Int.reduceEq, Int.reduceDiv, ↓reduceIte, ↓ite_ww, ↓ite_wi, Br_n, Br_TW, Br_FW, Br_FP, Br_FB, nn_p, and_true, true_and, and_self, true_or, or_true, not_true_eq_false, not_false_eq_true, le_T, le_F, lt_T, lt_F, eq_T, eq_F, Int.add_zero, Int.zero_add, Int.one_mul, Int.mul_one, up_eq, up_ne, Int.add_assoc, Int.add_sub_cancel, Int.sub_zero, Int.sub_self, H_Lw hk, L, La, e, e2, x]
    · rw [if_neg x]
      simp (disch := first | omega | exact okF _ | exact okI _ | exact okR _ | assumption | exact okN) only [S_24_0, S_24_1, S_24_3, S_24_4, S_24_7, S_24_10, S_24_11, S_24_12, S_24_15, S_24_16, S_24_19, S_24_20, S_24_23, S_24_24, S_24_25, S_24_26, S_24_29, S_24_30, S_24_31, S_24_34, S_24_37, S_24_38, u_at, iI_zero, iI_31, iI_add, iI_sub, iI_mul, iI_neg, ↓iI_max, ↓iI_min, iI_div, emod_f, iI_lt, iI_le, iI_inj, iI_toInt, ↓ii01, ↓ii11, ↓bI_b, bI_0, bI_1, Kt_s, Kt_n, cat0, cat1, cat2, cat3, cat4, rfV, Nat.reduceAdd, Nat.reduceMul, Nat.reduceEqDiff, Int.reduceAdd, Int.reduceSub, Int.reduceMul, Int.reduceNeg, Int.reduceLT, Int.reduceLE, Int.reduceEq, Int.reduceDiv, ↓reduceIte, ↓ite_ww, ↓ite_wi, Br_n, Br_TW, Br_FW, Br_FP, Br_FB, nn_p, and_true, true_and, and_self, true_or, or_true, not_true_eq_false, not_false_eq_true, le_T, le_F, lt_T, lt_F, eq_T, eq_F, Int.add_zero, Int.zero_add, Int.one_mul, Int.mul_one, up_eq, up_ne, Int.add_assoc, Int.add_sub_cancel, Int.sub_zero, Int.sub_self, H_Lw hk, L, La, e, e2, ih]
theorem c_find (hk : isLw k) (h : lC s k 0 l) (hl : lawOK l) (hw : 0 ≤ w ∧ w ≤ 4) : Wp d 24 0 [.ref k, .int (iI w), .float 0] [] (hp X s) Q = Q (some (.int (iI (fidx l w 0)))) (hp X s) := by
  have hlen := hl.1
  rw [← c_find_l (d := d) (X := X) (Q := Q) hk l 0 h (by omega) hl.2.1 hw]
  simp (disch := first | omega | exact okF _ | exact okI _ | exact okR _ | assumption | exact okN) only [S_24_0, S_24_1, S_24_3, S_24_4, S_24_7, S_24_10, S_24_11, S_24_12, S_24_15, S_24_16, S_24_19, S_24_20, S_24_23, S_24_24, S_24_25, S_24_26, S_24_29, S_24_30, S_24_31, S_24_34, S_24_37, S_24_38, u_at, iI_zero, iI_31, iI_add, iI_sub, iI_mul, iI_neg, ↓iI_max, ↓iI_min, iI_div, emod_f, iI_lt, iI_le, iI_inj, iI_toInt, ↓ii01, ↓ii11, ↓bI_b, bI_0, bI_1, Kt_s, Kt_n, cat0, cat1, cat2, cat3, cat4, rfV, Nat.reduceAdd, Nat.reduceMul, Nat.reduceEqDiff, Int.reduceAdd, Int.reduceSub, Int.reduceMul, Int.reduceNeg, Int.reduceLT, Int.reduceLE, Int.reduceEq, Int.reduceDiv, ↓reduceIte, ↓ite_ww, ↓ite_wi, Br_n, Br_TW, Br_FW, Br_FP, Br_FB, nn_p, and_true, true_and, and_self, true_or, or_true, not_true_eq_false, not_false_eq_true, le_T, le_F, lt_T, lt_F, eq_T, eq_F, Int.add_zero, Int.zero_add, Int.one_mul, Int.mul_one, up_eq, up_ne, Int.add_assoc, Int.add_sub_cancel, Int.sub_zero, Int.sub_self]
theorem c_cut (h : -4000000000000 ≤ z ∧ z ≤ 4000000000000) : Wp d 64 0 [.long (lI z), .double 0] [] (hp X s) Q = Q (some (.int (iI (cl z)))) (hp X s) := by
  refine wp_eq (fun rr hh er eh => ?_)
  repeat' (first | (with_reducible refine Br_i ?_ ?_ <;> (intro hbr; first | exact False.elim hbr | skip)) | (with_reducible refine Wl_i ?_) | (simp (disch := first | omega | exact okF _ | exact okI _ | exact okR _ | assumption | exact okN) only [u_at, iI_zero, iI_31, iI_add, iI_sub, iI_mul, iI_neg, ↓iI_max, ↓iI_min, iI_div, emod_f, iI_lt, iI_le, iI_inj, iI_toInt, ↓ii01, ↓ii11, ↓bI_b, bI_0, bI_1, Kt_s, Kt_n, cat0, cat1, cat2, cat3, cat4, rfV, Nat.reduceAdd, Nat.reduceMul, Nat.reduceEqDiff, Int.reduceAdd, Int.reduceSub, Int.reduceMul, Int.reduceNeg, Int.reduceLT, Int.reduceLE, Int.reduceEq, Int.reduceDiv, ↓reduceIte, ↓ite_ww, ↓ite_wi, Br_n, Br_TW, Br_FW, Br_FP, Br_FB, nn_p, and_true, true_and, and_self, true_or, or_true, not_true_eq_false, not_false_eq_true, le_T, le_F, lt_T, lt_F, eq_T, eq_F, Int.add_zero, Int.zero_add, Int.one_mul, Int.mul_one, up_eq, up_ne, Int.add_assoc, Int.add_sub_cancel, Int.sub_zero, Int.sub_self, S_64_0, S_64_1, S_64_4, S_64_5, S_64_8, S_64_10, S_64_13, S_64_14, S_64_17, S_64_18, S_64_21, S_64_23, S_64_26, S_64_27, S_64_28, lI_add, lI_sub, lI_mul, lI_neg, lI_zero, lI_lt, lI_inj, ↓lI_max, ↓lI_min, i2l, l2i, lc_lt, lc_le, lc_gt, lc_ge, lc_eq]))
  all_goals (subst er; subst eh)
  all_goals exact Re_I (by unfold cl; omega) rfl
theorem and01 {a b : Int} (ha : a = 0 ∨ a = 1) (hb : b = 0 ∨ b = 1) : iI a &&& iI b = iI (a * b) := by
  rcases ha with e | e <;> rcases hb with f | f <;> subst e <;> subst f <;> decide
theorem or01 {a b : Int} (ha : a = 0 ∨ a = 1) (hb : b = 0 ∨ b = 1) : iI a ||| iI b = iI (bZ (0 < a + b)) := by
  rcases ha with e | e <;> rcases hb with f | f <;> subst e <;> subst f
  · rw [bZ_F (by decide)]; decide
  · rw [bZ_T (by decide)]; decide
  · rw [bZ_T (by decide)]; decide
  · rw [bZ_T (by decide)]; decide
/-- what two operands come to, ahead of the cut -/
noncomputable def jw (o a b : Int) : Int := if o = 43 then a + b else if o = 45 then a - b else if o = 42 then a * b else wk o a b
theorem jw_n {o : Int} (h : ¬ o = 43 ∧ ¬ o = 45 ∧ ¬ o = 42) (a b : Int) : jw o a b = wk o a b := by
  unfold jw
  rw [if_neg h.1, if_neg h.2.1, if_neg h.2.2]
theorem cl_n {v : Int} (h : -1000000 ≤ v ∧ v ≤ 1000000) : cl v = v := by unfold cl; omega
theorem jw_cl {o a b : Int} (ho : isAr o ∨ isCmp o ∨ o = 406 ∨ o = 407) (ha : -1000000 ≤ a ∧ a ≤ 1000000) (hb : -1000000 ≤ b ∧ b ≤ 1000000) (hao : o = 406 ∨ o = 407 → (a = 0 ∨ a = 1) ∧ (b = 0 ∨ b = 1)) : cl (jw o a b) = wk o a b ∧ -4000000000000 ≤ jw o a b ∧ jw o a b ≤ 4000000000000 := by
  have mr := mul_r ha hb
  have e := wk_1 a b
  by_cases c1 : o = 43
  · subst c1
    have q : jw 43 a b = a + b := rfl
    rw [q, e.1]
    exact ⟨rfl, by omega, by omega⟩
  by_cases c2 : o = 45
  · subst c2
    have q : jw 45 a b = a - b := rfl
    rw [q, e.2.1]
    exact ⟨rfl, by omega, by omega⟩
  by_cases c3 : o = 42
  · subst c3
    have q : jw 42 a b = a * b := rfl
    rw [q, e.2.2.1]
    exact ⟨rfl, by omega, by omega⟩
  rw [jw_n ⟨c1, c2, c3⟩]
  have r : -1000000 ≤ wk o a b ∧ wk o a b ≤ 1000000 := by
    rcases ho with h | h | h
    · exact wk_ar h ha
    · have q : wk o a b = 0 ∨ wk o a b = 1 := wk_cmp h
      omega
    · have q : wk o a b = 0 ∨ wk o a b = 1 := wk_ao h (hao h).1 (hao h).2
      omega
  exact ⟨cl_n r, by omega, by omega⟩
theorem c_join (ho : isAr o ∨ isCmp o ∨ o = 406 ∨ o = 407) (hz : z = enc (o, v)) (ha : -1000000 ≤ a ∧ a ≤ 1000000) (hb : -1000000 ≤ b ∧ b ≤ 1000000) (hao : o = 406 ∨ o = 407 → (a = 0 ∨ a = 1) ∧ (b = 0 ∨ b = 1)) : Wp (d + 1) 63 0 [.int (iI (-z)), .int (iI a), .int (iI b)] [] (hp X s) Q = Q (some (.long (lI (jw o a b)))) (hp X s) := by
  have mr := mul_r ha hb
  have e := wk_1 a b
  have td := tdiv_r (b := b) ha
  have td2 : -2147483648 ≤ Int.tdiv a b ∧ Int.tdiv a b < 2147483648 := by omega
  have jn := fun (n : ¬ o = 43 ∧ ¬ o = 45 ∧ ¬ o = 42) => jw_n n a b
  refine wp_eq (fun rr hh er eh => ?_)
  unfold isAr isCmp at ho
  rcases ho with (q | q | q | q) | (q | q | q | q | q | q) | q | q <;> subst q
  · have hz : z = -24 := hz
    subst hz
    repeat' (first | (with_reducible refine Br_i ?_ ?_ <;> (intro hbr; first | exact False.elim hbr | skip)) | (with_reducible refine Wl_i ?_) | (simp (disch := first | omega | exact okF _ | exact okI _ | exact okR _ | assumption | exact okN) only [u_at, iI_zero, iI_31, iI_add, iI_sub, iI_mul, iI_neg, ↓iI_max, ↓iI_min, iI_div, emod_f, iI_lt, iI_le, iI_inj, iI_toInt, ↓ii01, ↓ii11, ↓bI_b, bI_0, bI_1, Kt_s, Kt_n, cat0, cat1, cat2, cat3, cat4, rfV, Nat.reduceAdd, Nat.reduceMul, Nat.reduceEqDiff, Int.reduceAdd, Int.reduceSub, Int.reduceMul, Int.reduceNeg, Int.reduceLT, Int.reduceLE, Int.reduceEq, Int.reduceDiv, ↓reduceIte, ↓ite_ww, ↓ite_wi, Br_n, Br_TW, Br_FW, Br_FP, Br_FB, nn_p, and_true, true_and, and_self, true_or, or_true, not_true_eq_false, not_false_eq_true, le_T, le_F, lt_T, lt_F, eq_T, eq_F, Int.add_zero, Int.zero_add, Int.one_mul, Int.mul_one, up_eq, up_ne, Int.add_assoc, Int.add_sub_cancel, Int.sub_zero, Int.sub_self, S_63_0, S_63_1, S_63_104, S_63_105, S_63_106, S_63_107, S_63_108, S_63_109, S_63_110, S_63_111, S_63_112, S_63_113, S_63_114, S_63_115, S_63_116, S_63_117, S_63_118, S_63_119, S_63_120, S_63_121, S_63_122, S_63_123, S_63_126, S_63_127, S_63_130, S_63_131, S_63_132, S_63_133, S_63_134, S_63_135, S_63_136, S_63_137, S_63_140, S_63_141, S_63_144, S_63_145, S_63_146, S_63_147, S_63_148, S_63_151, S_63_152, S_63_155, S_63_156, S_63_157, S_63_158, S_63_159, S_63_162, S_63_163, S_63_166, S_63_167, S_63_168, S_63_169, S_63_170, S_63_173, S_63_174, S_63_177, S_63_178, S_63_179, S_63_180, S_63_181, S_63_184, S_63_185, S_63_188, S_63_189, S_63_190, S_63_191, S_63_192, S_63_195, S_63_196, S_63_199, S_63_200, S_63_201, S_63_202, S_63_203, S_63_204, S_63_205, S_63_206, S_63_207, S_63_208, S_63_209, S_63_210, S_63_211, S_63_212, lI_add, lI_sub, lI_mul, lI_neg, lI_zero, lI_lt, lI_inj, ↓lI_max, ↓lI_min, i2l, l2i, lc_lt, lc_le, lc_gt, lc_ge, lc_eq]))
    all_goals (subst er; subst eh)
    exact Re_J (show a + b = jw 43 a b from rfl) rfl
  · have hz : z = -25 := hz
    subst hz
    repeat' (first | (with_reducible refine Br_i ?_ ?_ <;> (intro hbr; first | exact False.elim hbr | skip)) | (with_reducible refine Wl_i ?_) | (simp (disch := first | omega | exact okF _ | exact okI _ | exact okR _ | assumption | exact okN) only [u_at, iI_zero, iI_31, iI_add, iI_sub, iI_mul, iI_neg, ↓iI_max, ↓iI_min, iI_div, emod_f, iI_lt, iI_le, iI_inj, iI_toInt, ↓ii01, ↓ii11, ↓bI_b, bI_0, bI_1, Kt_s, Kt_n, cat0, cat1, cat2, cat3, cat4, rfV, Nat.reduceAdd, Nat.reduceMul, Nat.reduceEqDiff, Int.reduceAdd, Int.reduceSub, Int.reduceMul, Int.reduceNeg, Int.reduceLT, Int.reduceLE, Int.reduceEq, Int.reduceDiv, ↓reduceIte, ↓ite_ww, ↓ite_wi, Br_n, Br_TW, Br_FW, Br_FP, Br_FB, nn_p, and_true, true_and, and_self, true_or, or_true, not_true_eq_false, not_false_eq_true, le_T, le_F, lt_T, lt_F, eq_T, eq_F, Int.add_zero, Int.zero_add, Int.one_mul, Int.mul_one, up_eq, up_ne, Int.add_assoc, Int.add_sub_cancel, Int.sub_zero, Int.sub_self, S_63_0, S_63_1, S_63_104, S_63_105, S_63_106, S_63_107, S_63_108, S_63_109, S_63_110, S_63_111, S_63_112, S_63_113, S_63_114, S_63_115, S_63_116, S_63_117, S_63_118, S_63_119, S_63_120, S_63_121, S_63_122, S_63_123, S_63_126, S_63_127, S_63_130, S_63_131, S_63_132, S_63_133, S_63_134, S_63_135, S_63_136, S_63_137, S_63_140, S_63_141, S_63_144, S_63_145, S_63_146, S_63_147, S_63_148, S_63_151, S_63_152, S_63_155, S_63_156, S_63_157, S_63_158, S_63_159, S_63_162, S_63_163, S_63_166, S_63_167, S_63_168, S_63_169, S_63_170, S_63_173, S_63_174, S_63_177, S_63_178, S_63_179, S_63_180, S_63_181, S_63_184, S_63_185, S_63_188, S_63_189, S_63_190, S_63_191, S_63_192, S_63_195, S_63_196, S_63_199, S_63_200, S_63_201, S_63_202, S_63_203, S_63_204, S_63_205, S_63_206, S_63_207, S_63_208, S_63_209, S_63_210, S_63_211, S_63_212, lI_add, lI_sub, lI_mul, lI_neg, lI_zero, lI_lt, lI_inj, ↓lI_max, ↓lI_min, i2l, l2i, lc_lt, lc_le, lc_gt, lc_ge, lc_eq]))
    all_goals (subst er; subst eh)
    exact Re_J (show a - b = jw 45 a b from rfl) rfl
  · have hz : z = -26 := hz
    subst hz
    repeat' (first | (with_reducible refine Br_i ?_ ?_ <;> (intro hbr; first | exact False.elim hbr | skip)) | (with_reducible refine Wl_i ?_) | (simp (disch := first | omega | exact okF _ | exact okI _ | exact okR _ | assumption | exact okN) only [u_at, iI_zero, iI_31, iI_add, iI_sub, iI_mul, iI_neg, ↓iI_max, ↓iI_min, iI_div, emod_f, iI_lt, iI_le, iI_inj, iI_toInt, ↓ii01, ↓ii11, ↓bI_b, bI_0, bI_1, Kt_s, Kt_n, cat0, cat1, cat2, cat3, cat4, rfV, Nat.reduceAdd, Nat.reduceMul, Nat.reduceEqDiff, Int.reduceAdd, Int.reduceSub, Int.reduceMul, Int.reduceNeg, Int.reduceLT, Int.reduceLE, Int.reduceEq, Int.reduceDiv, ↓reduceIte, ↓ite_ww, ↓ite_wi, Br_n, Br_TW, Br_FW, Br_FP, Br_FB, nn_p, and_true, true_and, and_self, true_or, or_true, not_true_eq_false, not_false_eq_true, le_T, le_F, lt_T, lt_F, eq_T, eq_F, Int.add_zero, Int.zero_add, Int.one_mul, Int.mul_one, up_eq, up_ne, Int.add_assoc, Int.add_sub_cancel, Int.sub_zero, Int.sub_self, S_63_0, S_63_1, S_63_104, S_63_105, S_63_106, S_63_107, S_63_108, S_63_109, S_63_110, S_63_111, S_63_112, S_63_113, S_63_114, S_63_115, S_63_116, S_63_117, S_63_118, S_63_119, S_63_120, S_63_121, S_63_122, S_63_123, S_63_126, S_63_127, S_63_130, S_63_131, S_63_132, S_63_133, S_63_134, S_63_135, S_63_136, S_63_137, S_63_140, S_63_141, S_63_144, S_63_145, S_63_146, S_63_147, S_63_148, S_63_151, S_63_152, S_63_155, S_63_156, S_63_157, S_63_158, S_63_159, S_63_162, S_63_163, S_63_166, S_63_167, S_63_168, S_63_169, S_63_170, S_63_173, S_63_174, S_63_177, S_63_178, S_63_179, S_63_180, S_63_181, S_63_184, S_63_185, S_63_188, S_63_189, S_63_190, S_63_191, S_63_192, S_63_195, S_63_196, S_63_199, S_63_200, S_63_201, S_63_202, S_63_203, S_63_204, S_63_205, S_63_206, S_63_207, S_63_208, S_63_209, S_63_210, S_63_211, S_63_212, lI_add, lI_sub, lI_mul, lI_neg, lI_zero, lI_lt, lI_inj, ↓lI_max, ↓lI_min, i2l, l2i, lc_lt, lc_le, lc_gt, lc_ge, lc_eq]))
    all_goals (subst er; subst eh)
    exact Re_J (show a * b = jw 42 a b from rfl) rfl
  · have hz : z = -27 := hz
    subst hz
    repeat' (first | (with_reducible refine Br_i ?_ ?_ <;> (intro hbr; first | exact False.elim hbr | skip)) | (with_reducible refine Wl_i ?_) | (simp (disch := first | omega | exact okF _ | exact okI _ | exact okR _ | assumption | exact okN) only [u_at, iI_zero, iI_31, iI_add, iI_sub, iI_mul, iI_neg, ↓iI_max, ↓iI_min, iI_div, emod_f, iI_lt, iI_le, iI_inj, iI_toInt, ↓ii01, ↓ii11, ↓bI_b, bI_0, bI_1, Kt_s, Kt_n, cat0, cat1, cat2, cat3, cat4, rfV, Nat.reduceAdd, Nat.reduceMul, Nat.reduceEqDiff, Int.reduceAdd, Int.reduceSub, Int.reduceMul, Int.reduceNeg, Int.reduceLT, Int.reduceLE, Int.reduceEq, Int.reduceDiv, ↓reduceIte, ↓ite_ww, ↓ite_wi, Br_n, Br_TW, Br_FW, Br_FP, Br_FB, nn_p, and_true, true_and, and_self, true_or, or_true, not_true_eq_false, not_false_eq_true, le_T, le_F, lt_T, lt_F, eq_T, eq_F, Int.add_zero, Int.zero_add, Int.one_mul, Int.mul_one, up_eq, up_ne, Int.add_assoc, Int.add_sub_cancel, Int.sub_zero, Int.sub_self, S_63_0, S_63_1, S_63_104, S_63_105, S_63_106, S_63_107, S_63_108, S_63_109, S_63_110, S_63_111, S_63_112, S_63_113, S_63_114, S_63_115, S_63_116, S_63_117, S_63_118, S_63_119, S_63_120, S_63_121, S_63_122, S_63_123, S_63_126, S_63_127, S_63_130, S_63_131, S_63_132, S_63_133, S_63_134, S_63_135, S_63_136, S_63_137, S_63_140, S_63_141, S_63_144, S_63_145, S_63_146, S_63_147, S_63_148, S_63_151, S_63_152, S_63_155, S_63_156, S_63_157, S_63_158, S_63_159, S_63_162, S_63_163, S_63_166, S_63_167, S_63_168, S_63_169, S_63_170, S_63_173, S_63_174, S_63_177, S_63_178, S_63_179, S_63_180, S_63_181, S_63_184, S_63_185, S_63_188, S_63_189, S_63_190, S_63_191, S_63_192, S_63_195, S_63_196, S_63_199, S_63_200, S_63_201, S_63_202, S_63_203, S_63_204, S_63_205, S_63_206, S_63_207, S_63_208, S_63_209, S_63_210, S_63_211, S_63_212, lI_add, lI_sub, lI_mul, lI_neg, lI_zero, lI_lt, lI_inj, ↓lI_max, ↓lI_min, i2l, l2i, lc_lt, lc_le, lc_gt, lc_ge, lc_eq, iI_tdiv]))
    all_goals (subst er; subst eh)
    all_goals rw [jn (by decide), e.2.2.2.1]
    all_goals first | exact Re_J (by rw [if_pos (by assumption)]) rfl | exact Re_J (by rw [if_neg (by assumption)]) rfl
  · have hz : z = -22 := hz
    subst hz
    repeat' (first | (with_reducible refine Br_i ?_ ?_ <;> (intro hbr; first | exact False.elim hbr | skip)) | (with_reducible refine Wl_i ?_) | (simp (disch := first | omega | exact okF _ | exact okI _ | exact okR _ | assumption | exact okN) only [u_at, iI_zero, iI_31, iI_add, iI_sub, iI_mul, iI_neg, ↓iI_max, ↓iI_min, iI_div, emod_f, iI_lt, iI_le, iI_inj, iI_toInt, ↓ii01, ↓ii11, ↓bI_b, bI_0, bI_1, Kt_s, Kt_n, cat0, cat1, cat2, cat3, cat4, rfV, Nat.reduceAdd, Nat.reduceMul, Nat.reduceEqDiff, Int.reduceAdd, Int.reduceSub, Int.reduceMul, Int.reduceNeg, Int.reduceLT, Int.reduceLE, Int.reduceEq, Int.reduceDiv, ↓reduceIte, ↓ite_ww, ↓ite_wi, Br_n, Br_TW, Br_FW, Br_FP, Br_FB, nn_p, and_true, true_and, and_self, true_or, or_true, not_true_eq_false, not_false_eq_true, le_T, le_F, lt_T, lt_F, eq_T, eq_F, Int.add_zero, Int.zero_add, Int.one_mul, Int.mul_one, up_eq, up_ne, Int.add_assoc, Int.add_sub_cancel, Int.sub_zero, Int.sub_self, S_63_0, S_63_1, S_63_104, S_63_105, S_63_106, S_63_107, S_63_108, S_63_109, S_63_110, S_63_111, S_63_112, S_63_113, S_63_114, S_63_115, S_63_116, S_63_117, S_63_118, S_63_119, S_63_120, S_63_121, S_63_122, S_63_123, S_63_126, S_63_127, S_63_130, S_63_131, S_63_132, S_63_133, S_63_134, S_63_135, S_63_136, S_63_137, S_63_140, S_63_141, S_63_144, S_63_145, S_63_146, S_63_147, S_63_148, S_63_151, S_63_152, S_63_155, S_63_156, S_63_157, S_63_158, S_63_159, S_63_162, S_63_163, S_63_166, S_63_167, S_63_168, S_63_169, S_63_170, S_63_173, S_63_174, S_63_177, S_63_178, S_63_179, S_63_180, S_63_181, S_63_184, S_63_185, S_63_188, S_63_189, S_63_190, S_63_191, S_63_192, S_63_195, S_63_196, S_63_199, S_63_200, S_63_201, S_63_202, S_63_203, S_63_204, S_63_205, S_63_206, S_63_207, S_63_208, S_63_209, S_63_210, S_63_211, S_63_212, lI_add, lI_sub, lI_mul, lI_neg, lI_zero, lI_lt, lI_inj, ↓lI_max, ↓lI_min, i2l, l2i, lc_lt, lc_le, lc_gt, lc_ge, lc_eq]))
    all_goals (subst er; subst eh)
    all_goals rw [jn (by decide), e.2.2.2.2.1]
    all_goals first | exact Re_JT (by omega) rfl | exact Re_JF (by omega) rfl
  · have hz : z = -23 := hz
    subst hz
    repeat' (first | (with_reducible refine Br_i ?_ ?_ <;> (intro hbr; first | exact False.elim hbr | skip)) | (with_reducible refine Wl_i ?_) | (simp (disch := first | omega | exact okF _ | exact okI _ | exact okR _ | assumption | exact okN) only [u_at, iI_zero, iI_31, iI_add, iI_sub, iI_mul, iI_neg, ↓iI_max, ↓iI_min, iI_div, emod_f, iI_lt, iI_le, iI_inj, iI_toInt, ↓ii01, ↓ii11, ↓bI_b, bI_0, bI_1, Kt_s, Kt_n, cat0, cat1, cat2, cat3, cat4, rfV, Nat.reduceAdd, Nat.reduceMul, Nat.reduceEqDiff, Int.reduceAdd, Int.reduceSub, Int.reduceMul, Int.reduceNeg, Int.reduceLT, Int.reduceLE, Int.reduceEq, Int.reduceDiv, ↓reduceIte, ↓ite_ww, ↓ite_wi, Br_n, Br_TW, Br_FW, Br_FP, Br_FB, nn_p, and_true, true_and, and_self, true_or, or_true, not_true_eq_false, not_false_eq_true, le_T, le_F, lt_T, lt_F, eq_T, eq_F, Int.add_zero, Int.zero_add, Int.one_mul, Int.mul_one, up_eq, up_ne, Int.add_assoc, Int.add_sub_cancel, Int.sub_zero, Int.sub_self, S_63_0, S_63_1, S_63_104, S_63_105, S_63_106, S_63_107, S_63_108, S_63_109, S_63_110, S_63_111, S_63_112, S_63_113, S_63_114, S_63_115, S_63_116, S_63_117, S_63_118, S_63_119, S_63_120, S_63_121, S_63_122, S_63_123, S_63_126, S_63_127, S_63_130, S_63_131, S_63_132, S_63_133, S_63_134, S_63_135, S_63_136, S_63_137, S_63_140, S_63_141, S_63_144, S_63_145, S_63_146, S_63_147, S_63_148, S_63_151, S_63_152, S_63_155, S_63_156, S_63_157, S_63_158, S_63_159, S_63_162, S_63_163, S_63_166, S_63_167, S_63_168, S_63_169, S_63_170, S_63_173, S_63_174, S_63_177, S_63_178, S_63_179, S_63_180, S_63_181, S_63_184, S_63_185, S_63_188, S_63_189, S_63_190, S_63_191, S_63_192, S_63_195, S_63_196, S_63_199, S_63_200, S_63_201, S_63_202, S_63_203, S_63_204, S_63_205, S_63_206, S_63_207, S_63_208, S_63_209, S_63_210, S_63_211, S_63_212, lI_add, lI_sub, lI_mul, lI_neg, lI_zero, lI_lt, lI_inj, ↓lI_max, ↓lI_min, i2l, l2i, lc_lt, lc_le, lc_gt, lc_ge, lc_eq]))
    all_goals (subst er; subst eh)
    all_goals rw [jn (by decide), e.2.2.2.2.2.1]
    all_goals first | exact Re_JT (by omega) rfl | exact Re_JF (by omega) rfl
  · have hz : z = -21 := hz
    subst hz
    repeat' (first | (with_reducible refine Br_i ?_ ?_ <;> (intro hbr; first | exact False.elim hbr | skip)) | (with_reducible refine Wl_i ?_) | (simp (disch := first | omega | exact okF _ | exact okI _ | exact okR _ | assumption | exact okN) only [u_at, iI_zero, iI_31, iI_add, iI_sub, iI_mul, iI_neg, ↓iI_max, ↓iI_min, iI_div, emod_f, iI_lt, iI_le, iI_inj, iI_toInt, ↓ii01, ↓ii11, ↓bI_b, bI_0, bI_1, Kt_s, Kt_n, cat0, cat1, cat2, cat3, cat4, rfV, Nat.reduceAdd, Nat.reduceMul, Nat.reduceEqDiff, Int.reduceAdd, Int.reduceSub, Int.reduceMul, Int.reduceNeg, Int.reduceLT, Int.reduceLE, Int.reduceEq, Int.reduceDiv, ↓reduceIte, ↓ite_ww, ↓ite_wi, Br_n, Br_TW, Br_FW, Br_FP, Br_FB, nn_p, and_true, true_and, and_self, true_or, or_true, not_true_eq_false, not_false_eq_true, le_T, le_F, lt_T, lt_F, eq_T, eq_F, Int.add_zero, Int.zero_add, Int.one_mul, Int.mul_one, up_eq, up_ne, Int.add_assoc, Int.add_sub_cancel, Int.sub_zero, Int.sub_self, S_63_0, S_63_1, S_63_104, S_63_105, S_63_106, S_63_107, S_63_108, S_63_109, S_63_110, S_63_111, S_63_112, S_63_113, S_63_114, S_63_115, S_63_116, S_63_117, S_63_118, S_63_119, S_63_120, S_63_121, S_63_122, S_63_123, S_63_126, S_63_127, S_63_130, S_63_131, S_63_132, S_63_133, S_63_134, S_63_135, S_63_136, S_63_137, S_63_140, S_63_141, S_63_144, S_63_145, S_63_146, S_63_147, S_63_148, S_63_151, S_63_152, S_63_155, S_63_156, S_63_157, S_63_158, S_63_159, S_63_162, S_63_163, S_63_166, S_63_167, S_63_168, S_63_169, S_63_170, S_63_173, S_63_174, S_63_177, S_63_178, S_63_179, S_63_180, S_63_181, S_63_184, S_63_185, S_63_188, S_63_189, S_63_190, S_63_191, S_63_192, S_63_195, S_63_196, S_63_199, S_63_200, S_63_201, S_63_202, S_63_203, S_63_204, S_63_205, S_63_206, S_63_207, S_63_208, S_63_209, S_63_210, S_63_211, S_63_212, lI_add, lI_sub, lI_mul, lI_neg, lI_zero, lI_lt, lI_inj, ↓lI_max, ↓lI_min, i2l, l2i, lc_lt, lc_le, lc_gt, lc_ge, lc_eq]))
    all_goals (subst er; subst eh)
    all_goals rw [jn (by decide), e.2.2.2.2.2.2.1]
    all_goals first | exact Re_JT (by omega) rfl | exact Re_JF (by omega) rfl
  · have hz : z = -20 := hz
    subst hz
    repeat' (first | (with_reducible refine Br_i ?_ ?_ <;> (intro hbr; first | exact False.elim hbr | skip)) | (with_reducible refine Wl_i ?_) | (simp (disch := first | omega | exact okF _ | exact okI _ | exact okR _ | assumption | exact okN) only [u_at, iI_zero, iI_31, iI_add, iI_sub, iI_mul, iI_neg, ↓iI_max, ↓iI_min, iI_div, emod_f, iI_lt, iI_le, iI_inj, iI_toInt, ↓ii01, ↓ii11, ↓bI_b, bI_0, bI_1, Kt_s, Kt_n, cat0, cat1, cat2, cat3, cat4, rfV, Nat.reduceAdd, Nat.reduceMul, Nat.reduceEqDiff, Int.reduceAdd, Int.reduceSub, Int.reduceMul, Int.reduceNeg, Int.reduceLT, Int.reduceLE, Int.reduceEq, Int.reduceDiv, ↓reduceIte, ↓ite_ww, ↓ite_wi, Br_n, Br_TW, Br_FW, Br_FP, Br_FB, nn_p, and_true, true_and, and_self, true_or, or_true, not_true_eq_false, not_false_eq_true, le_T, le_F, lt_T, lt_F, eq_T, eq_F, Int.add_zero, Int.zero_add, Int.one_mul, Int.mul_one, up_eq, up_ne, Int.add_assoc, Int.add_sub_cancel, Int.sub_zero, Int.sub_self, S_63_0, S_63_1, S_63_104, S_63_105, S_63_106, S_63_107, S_63_108, S_63_109, S_63_110, S_63_111, S_63_112, S_63_113, S_63_114, S_63_115, S_63_116, S_63_117, S_63_118, S_63_119, S_63_120, S_63_121, S_63_122, S_63_123, S_63_126, S_63_127, S_63_130, S_63_131, S_63_132, S_63_133, S_63_134, S_63_135, S_63_136, S_63_137, S_63_140, S_63_141, S_63_144, S_63_145, S_63_146, S_63_147, S_63_148, S_63_151, S_63_152, S_63_155, S_63_156, S_63_157, S_63_158, S_63_159, S_63_162, S_63_163, S_63_166, S_63_167, S_63_168, S_63_169, S_63_170, S_63_173, S_63_174, S_63_177, S_63_178, S_63_179, S_63_180, S_63_181, S_63_184, S_63_185, S_63_188, S_63_189, S_63_190, S_63_191, S_63_192, S_63_195, S_63_196, S_63_199, S_63_200, S_63_201, S_63_202, S_63_203, S_63_204, S_63_205, S_63_206, S_63_207, S_63_208, S_63_209, S_63_210, S_63_211, S_63_212, lI_add, lI_sub, lI_mul, lI_neg, lI_zero, lI_lt, lI_inj, ↓lI_max, ↓lI_min, i2l, l2i, lc_lt, lc_le, lc_gt, lc_ge, lc_eq]))
    all_goals (subst er; subst eh)
    all_goals rw [jn (by decide), e.2.2.2.2.2.2.2.1]
    all_goals first | exact Re_JT (by omega) rfl | exact Re_JF (by omega) rfl
  · have hz : z = -31 := hz
    subst hz
    repeat' (first | (with_reducible refine Br_i ?_ ?_ <;> (intro hbr; first | exact False.elim hbr | skip)) | (with_reducible refine Wl_i ?_) | (simp (disch := first | omega | exact okF _ | exact okI _ | exact okR _ | assumption | exact okN) only [u_at, iI_zero, iI_31, iI_add, iI_sub, iI_mul, iI_neg, ↓iI_max, ↓iI_min, iI_div, emod_f, iI_lt, iI_le, iI_inj, iI_toInt, ↓ii01, ↓ii11, ↓bI_b, bI_0, bI_1, Kt_s, Kt_n, cat0, cat1, cat2, cat3, cat4, rfV, Nat.reduceAdd, Nat.reduceMul, Nat.reduceEqDiff, Int.reduceAdd, Int.reduceSub, Int.reduceMul, Int.reduceNeg, Int.reduceLT, Int.reduceLE, Int.reduceEq, Int.reduceDiv, ↓reduceIte, ↓ite_ww, ↓ite_wi, Br_n, Br_TW, Br_FW, Br_FP, Br_FB, nn_p, and_true, true_and, and_self, true_or, or_true, not_true_eq_false, not_false_eq_true, le_T, le_F, lt_T, lt_F, eq_T, eq_F, Int.add_zero, Int.zero_add, Int.one_mul, Int.mul_one, up_eq, up_ne, Int.add_assoc, Int.add_sub_cancel, Int.sub_zero, Int.sub_self, S_63_0, S_63_1, S_63_104, S_63_105, S_63_106, S_63_107, S_63_108, S_63_109, S_63_110, S_63_111, S_63_112, S_63_113, S_63_114, S_63_115, S_63_116, S_63_117, S_63_118, S_63_119, S_63_120, S_63_121, S_63_122, S_63_123, S_63_126, S_63_127, S_63_130, S_63_131, S_63_132, S_63_133, S_63_134, S_63_135, S_63_136, S_63_137, S_63_140, S_63_141, S_63_144, S_63_145, S_63_146, S_63_147, S_63_148, S_63_151, S_63_152, S_63_155, S_63_156, S_63_157, S_63_158, S_63_159, S_63_162, S_63_163, S_63_166, S_63_167, S_63_168, S_63_169, S_63_170, S_63_173, S_63_174, S_63_177, S_63_178, S_63_179, S_63_180, S_63_181, S_63_184, S_63_185, S_63_188, S_63_189, S_63_190, S_63_191, S_63_192, S_63_195, S_63_196, S_63_199, S_63_200, S_63_201, S_63_202, S_63_203, S_63_204, S_63_205, S_63_206, S_63_207, S_63_208, S_63_209, S_63_210, S_63_211, S_63_212, lI_add, lI_sub, lI_mul, lI_neg, lI_zero, lI_lt, lI_inj, ↓lI_max, ↓lI_min, i2l, l2i, lc_lt, lc_le, lc_gt, lc_ge, lc_eq]))
    all_goals (subst er; subst eh)
    all_goals rw [jn (by decide), e.2.2.2.2.2.2.2.2.1]
    all_goals first | exact Re_JT (by omega) rfl | exact Re_JF (by omega) rfl
  · have hz : z = -32 := hz
    subst hz
    repeat' (first | (with_reducible refine Br_i ?_ ?_ <;> (intro hbr; first | exact False.elim hbr | skip)) | (with_reducible refine Wl_i ?_) | (simp (disch := first | omega | exact okF _ | exact okI _ | exact okR _ | assumption | exact okN) only [u_at, iI_zero, iI_31, iI_add, iI_sub, iI_mul, iI_neg, ↓iI_max, ↓iI_min, iI_div, emod_f, iI_lt, iI_le, iI_inj, iI_toInt, ↓ii01, ↓ii11, ↓bI_b, bI_0, bI_1, Kt_s, Kt_n, cat0, cat1, cat2, cat3, cat4, rfV, Nat.reduceAdd, Nat.reduceMul, Nat.reduceEqDiff, Int.reduceAdd, Int.reduceSub, Int.reduceMul, Int.reduceNeg, Int.reduceLT, Int.reduceLE, Int.reduceEq, Int.reduceDiv, ↓reduceIte, ↓ite_ww, ↓ite_wi, Br_n, Br_TW, Br_FW, Br_FP, Br_FB, nn_p, and_true, true_and, and_self, true_or, or_true, not_true_eq_false, not_false_eq_true, le_T, le_F, lt_T, lt_F, eq_T, eq_F, Int.add_zero, Int.zero_add, Int.one_mul, Int.mul_one, up_eq, up_ne, Int.add_assoc, Int.add_sub_cancel, Int.sub_zero, Int.sub_self, S_63_0, S_63_1, S_63_104, S_63_105, S_63_106, S_63_107, S_63_108, S_63_109, S_63_110, S_63_111, S_63_112, S_63_113, S_63_114, S_63_115, S_63_116, S_63_117, S_63_118, S_63_119, S_63_120, S_63_121, S_63_122, S_63_123, S_63_126, S_63_127, S_63_130, S_63_131, S_63_132, S_63_133, S_63_134, S_63_135, S_63_136, S_63_137, S_63_140, S_63_141, S_63_144, S_63_145, S_63_146, S_63_147, S_63_148, S_63_151, S_63_152, S_63_155, S_63_156, S_63_157, S_63_158, S_63_159, S_63_162, S_63_163, S_63_166, S_63_167, S_63_168, S_63_169, S_63_170, S_63_173, S_63_174, S_63_177, S_63_178, S_63_179, S_63_180, S_63_181, S_63_184, S_63_185, S_63_188, S_63_189, S_63_190, S_63_191, S_63_192, S_63_195, S_63_196, S_63_199, S_63_200, S_63_201, S_63_202, S_63_203, S_63_204, S_63_205, S_63_206, S_63_207, S_63_208, S_63_209, S_63_210, S_63_211, S_63_212, lI_add, lI_sub, lI_mul, lI_neg, lI_zero, lI_lt, lI_inj, ↓lI_max, ↓lI_min, i2l, l2i, lc_lt, lc_le, lc_gt, lc_ge, lc_eq]))
    all_goals (subst er; subst eh)
    all_goals rw [jn (by decide), e.2.2.2.2.2.2.2.2.2.1]
    all_goals first | exact Re_JT (by omega) rfl | exact Re_JF (by omega) rfl
  · have hz : z = -12 := hz
    subst hz
    have ao := hao (Or.inl rfl)
    have r : -2147483648 ≤ a * b ∧ a * b < 2147483648 := by rcases ao with ⟨f | f, g | g⟩ <;> subst f <;> subst g <;> decide
    repeat' (first | (with_reducible refine Br_i ?_ ?_ <;> (intro hbr; first | exact False.elim hbr | skip)) | (with_reducible refine Wl_i ?_) | (simp (disch := first | omega | exact okF _ | exact okI _ | exact okR _ | assumption | exact okN) only [u_at, iI_zero, iI_31, iI_add, iI_sub, iI_mul, iI_neg, ↓iI_max, ↓iI_min, iI_div, emod_f, iI_lt, iI_le, iI_inj, iI_toInt, ↓ii01, ↓ii11, ↓bI_b, bI_0, bI_1, Kt_s, Kt_n, cat0, cat1, cat2, cat3, cat4, rfV, Nat.reduceAdd, Nat.reduceMul, Nat.reduceEqDiff, Int.reduceAdd, Int.reduceSub, Int.reduceMul, Int.reduceNeg, Int.reduceLT, Int.reduceLE, Int.reduceEq, Int.reduceDiv, ↓reduceIte, ↓ite_ww, ↓ite_wi, Br_n, Br_TW, Br_FW, Br_FP, Br_FB, nn_p, and_true, true_and, and_self, true_or, or_true, not_true_eq_false, not_false_eq_true, le_T, le_F, lt_T, lt_F, eq_T, eq_F, Int.add_zero, Int.zero_add, Int.one_mul, Int.mul_one, up_eq, up_ne, Int.add_assoc, Int.add_sub_cancel, Int.sub_zero, Int.sub_self, S_63_0, S_63_1, S_63_104, S_63_105, S_63_106, S_63_107, S_63_108, S_63_109, S_63_110, S_63_111, S_63_112, S_63_113, S_63_114, S_63_115, S_63_116, S_63_117, S_63_118, S_63_119, S_63_120, S_63_121, S_63_122, S_63_123, S_63_126, S_63_127, S_63_130, S_63_131, S_63_132, S_63_133, S_63_134, S_63_135, S_63_136, S_63_137, S_63_140, S_63_141, S_63_144, S_63_145, S_63_146, S_63_147, S_63_148, S_63_151, S_63_152, S_63_155, S_63_156, S_63_157, S_63_158, S_63_159, S_63_162, S_63_163, S_63_166, S_63_167, S_63_168, S_63_169, S_63_170, S_63_173, S_63_174, S_63_177, S_63_178, S_63_179, S_63_180, S_63_181, S_63_184, S_63_185, S_63_188, S_63_189, S_63_190, S_63_191, S_63_192, S_63_195, S_63_196, S_63_199, S_63_200, S_63_201, S_63_202, S_63_203, S_63_204, S_63_205, S_63_206, S_63_207, S_63_208, S_63_209, S_63_210, S_63_211, S_63_212, lI_add, lI_sub, lI_mul, lI_neg, lI_zero, lI_lt, lI_inj, ↓lI_max, ↓lI_min, i2l, l2i, lc_lt, lc_le, lc_gt, lc_ge, lc_eq, and01 ao.1 ao.2]))
    all_goals (subst er; subst eh)
    exact Re_J ((e.2.2.2.2.2.2.2.2.2.2.1).symm.trans (jn (by decide)).symm) rfl
  · have hz : z = -11 := hz
    subst hz
    have ao := hao (Or.inr rfl)
    have br := bZ_r (0 < a + b)
    have r : -2147483648 ≤ bZ (0 < a + b) ∧ bZ (0 < a + b) < 2147483648 := by omega
    repeat' (first | (with_reducible refine Br_i ?_ ?_ <;> (intro hbr; first | exact False.elim hbr | skip)) | (with_reducible refine Wl_i ?_) | (simp (disch := first | omega | exact okF _ | exact okI _ | exact okR _ | assumption | exact okN) only [u_at, iI_zero, iI_31, iI_add, iI_sub, iI_mul, iI_neg, ↓iI_max, ↓iI_min, iI_div, emod_f, iI_lt, iI_le, iI_inj, iI_toInt, ↓ii01, ↓ii11, ↓bI_b, bI_0, bI_1, Kt_s, Kt_n, cat0, cat1, cat2, cat3, cat4, rfV, Nat.reduceAdd, Nat.reduceMul, Nat.reduceEqDiff, Int.reduceAdd, Int.reduceSub, Int.reduceMul, Int.reduceNeg, Int.reduceLT, Int.reduceLE, Int.reduceEq, Int.reduceDiv, ↓reduceIte, ↓ite_ww, ↓ite_wi, Br_n, Br_TW, Br_FW, Br_FP, Br_FB, nn_p, and_true, true_and, and_self, true_or, or_true, not_true_eq_false, not_false_eq_true, le_T, le_F, lt_T, lt_F, eq_T, eq_F, Int.add_zero, Int.zero_add, Int.one_mul, Int.mul_one, up_eq, up_ne, Int.add_assoc, Int.add_sub_cancel, Int.sub_zero, Int.sub_self, S_63_0, S_63_1, S_63_104, S_63_105, S_63_106, S_63_107, S_63_108, S_63_109, S_63_110, S_63_111, S_63_112, S_63_113, S_63_114, S_63_115, S_63_116, S_63_117, S_63_118, S_63_119, S_63_120, S_63_121, S_63_122, S_63_123, S_63_126, S_63_127, S_63_130, S_63_131, S_63_132, S_63_133, S_63_134, S_63_135, S_63_136, S_63_137, S_63_140, S_63_141, S_63_144, S_63_145, S_63_146, S_63_147, S_63_148, S_63_151, S_63_152, S_63_155, S_63_156, S_63_157, S_63_158, S_63_159, S_63_162, S_63_163, S_63_166, S_63_167, S_63_168, S_63_169, S_63_170, S_63_173, S_63_174, S_63_177, S_63_178, S_63_179, S_63_180, S_63_181, S_63_184, S_63_185, S_63_188, S_63_189, S_63_190, S_63_191, S_63_192, S_63_195, S_63_196, S_63_199, S_63_200, S_63_201, S_63_202, S_63_203, S_63_204, S_63_205, S_63_206, S_63_207, S_63_208, S_63_209, S_63_210, S_63_211, S_63_212, lI_add, lI_sub, lI_mul, lI_neg, lI_zero, lI_lt, lI_inj, ↓lI_max, ↓lI_min, i2l, l2i, lc_lt, lc_le, lc_gt, lc_ge, lc_eq, or01 ao.1 ao.2]))
    all_goals (subst er; subst eh)
    exact Re_J ((e.2.2.2.2.2.2.2.2.2.2.2).symm.trans (jn (by decide)).symm) rfl
theorem c_operand_n (h : 0 ≤ v ∧ v ≤ 9999) : Wp d 62 0 [.ref 84, .int (iI v), .float 0] [] (hp X s) Q = Q (some (.int (iI v))) (hp X s) := by
  simp (disch := first | omega | exact okF _ | exact okI _ | exact okR _ | assumption | exact okN) only [S_62_0, S_62_1, S_62_2, S_62_3, S_62_4, S_62_5, S_62_6, S_62_9, S_62_10, S_62_11, S_62_14, S_62_15, S_62_18, S_62_19, S_62_22, S_62_23, S_62_24, S_62_27, S_62_28, u_at, iI_zero, iI_31, iI_add, iI_sub, iI_mul, iI_neg, ↓iI_max, ↓iI_min, iI_div, emod_f, iI_lt, iI_le, iI_inj, iI_toInt, ↓ii01, ↓ii11, ↓bI_b, bI_0, bI_1, Kt_s, Kt_n, cat0, cat1, cat2, cat3, cat4, rfV, Nat.reduceAdd, Nat.reduceMul, Nat.reduceEqDiff, Int.reduceAdd, Int.reduceSub, Int.reduceMul, Int.reduceNeg, Int.reduceLT, Int.reduceLE, Int.reduceEq, Int.reduceDiv, ↓reduceIte, ↓ite_ww, ↓ite_wi, Br_n, Br_TW, Br_FW, Br_FP, Br_FB, nn_p, and_true, true_and, and_self, true_or, or_true, not_true_eq_false, not_false_eq_true, le_T, le_F, lt_T, lt_F, eq_T, eq_F, Int.add_zero, Int.zero_add, Int.one_mul, Int.mul_one, up_eq, up_ne, Int.add_assoc, Int.add_sub_cancel, Int.sub_zero, Int.sub_self, H_84, H_85]
theorem c_operand_a (h : 0 ≤ v ∧ v ≤ 5) : Wp d 62 0 [.ref 84, .int (iI (-(5 + v))), .float 0] [] (hp X s) Q = Q (some (.int (iI (s 85 v)))) (hp X s) := by
  have e : - -(5 + v) - 5 = v := by omega
  simp (disch := first | omega | exact okF _ | exact okI _ | exact okR _ | assumption | exact okN) only [S_62_0, S_62_1, S_62_2, S_62_3, S_62_4, S_62_5, S_62_6, S_62_9, S_62_10, S_62_11, S_62_14, S_62_15, S_62_18, S_62_19, S_62_22, S_62_23, S_62_24, S_62_27, S_62_28, u_at, iI_zero, iI_31, iI_add, iI_sub, iI_mul, iI_neg, ↓iI_max, ↓iI_min, iI_div, emod_f, iI_lt, iI_le, iI_inj, iI_toInt, ↓ii01, ↓ii11, ↓bI_b, bI_0, bI_1, Kt_s, Kt_n, cat0, cat1, cat2, cat3, cat4, rfV, Nat.reduceAdd, Nat.reduceMul, Nat.reduceEqDiff, Int.reduceAdd, Int.reduceSub, Int.reduceMul, Int.reduceNeg, Int.reduceLT, Int.reduceLE, Int.reduceEq, Int.reduceDiv, ↓reduceIte, ↓ite_ww, ↓ite_wi, Br_n, Br_TW, Br_FW, Br_FP, Br_FB, nn_p, and_true, true_and, and_self, true_or, or_true, not_true_eq_false, not_false_eq_true, le_T, le_F, lt_T, lt_F, eq_T, eq_F, Int.add_zero, Int.zero_add, Int.one_mul, Int.mul_one, up_eq, up_ne, Int.add_assoc, Int.add_sub_cancel, Int.sub_zero, Int.sub_self, H_84, H_85, e]
theorem c_says_l {s0 : sg} {wb tf : Bool} {L j : Int} {v2 v3 v4 : Value} {r : Int} {ce : Int} (hk : isLw k) (hk8 : s0 84900 0 = k) (hj : 0 ≤ j ∧ j < 10) (hn : nmOK (s0 85) wb) (hL : L ≤ 300) (kk : ∀ s', Fr [86] s0 s' → Q (some (.int (iI r))) (hp X s')) : ∀ (c : opl) (s : sg) (p h : Int) (ty : List Bool) (st : List Int) (v7 : Value), okO v7 = true → Fr [86] s0 s → seg (s0 (k + 1)) p (c.map enc) → tys wb c ty [tf] → vals ty st → pl (s 86) h st → (0 ≤ p ∧ p + c.length = ce ∧ ce ≤ 300) → h + c.length ≤ L → hd (evs (s0 85) c st) = r → Wp (d + 2) 61 69 [.ref 84, .int (iI j), v2, v3, v4, .int (iI h), .int (iI ce), .int (iI p), v7] [] (hp X s) Q := by
  intro c
  have k86 : nin (k + 4) [86] = true ∧ nin (k + 1) [86] = true := by
    unfold isLw at hk
    rcases hk with e | e | e | e | e | e | e <;> subst e <;> exact ⟨rfl, rfl⟩
  induction c with
  | nil =>
    intro s p h ty st v7 o4 hf sg1 ht hv hpl hb hl hr
    have ht : [tf] = ty := ht
    subst ht
    match st, hv with
    | [a], hv =>
      have l := pl_len hpl
      have ea : s 86 (h - 1) = a := hpl.1
      have e8 : s 84900 0 = k := by rw [hf.g 84900 rfl]; exact hk8
      simp only [List.length_cons, List.length_nil] at l hb
      have h1 : h = 1 := by omega
      subst h1
      have ea : s 86 0 = a := ea
      have er : a = r := hr
      repeat' (first | (with_reducible refine Br_i ?_ ?_ <;> (intro hbr; first | exact False.elim hbr | skip)) | (with_reducible refine Wl_i ?_) | (simp (disch := first | omega | exact okF _ | exact okI _ | exact okR _ | assumption | exact okN) only [u_at, iI_zero, iI_31, iI_add, iI_sub, iI_mul, iI_neg, ↓iI_max, ↓iI_min, iI_div, emod_f, iI_lt, iI_le, iI_inj, iI_toInt, ↓ii01, ↓ii11, ↓bI_b, bI_0, bI_1, Kt_s, Kt_n, cat0, cat1, cat2, cat3, cat4, rfV, Nat.reduceAdd, Nat.reduceMul, Nat.reduceEqDiff, Int.reduceAdd, Int.reduceSub, Int.reduceMul, Int.reduceNeg, Int.reduceLT, Int.reduceLE, Int.reduceEq, Int.reduceDiv, ↓reduceIte, ↓ite_ww, ↓ite_wi, Br_n, Br_TW, Br_FW, Br_FP, Br_FB, nn_p, and_true, true_and, and_self, true_or, or_true, not_true_eq_false, not_false_eq_true, le_T, le_F, lt_T, lt_F, eq_T, eq_F, Int.add_zero, Int.zero_add, Int.one_mul, Int.mul_one, up_eq, up_ne, Int.add_assoc, Int.add_sub_cancel, Int.sub_zero, Int.sub_self, S_61_0, S_61_1, S_61_4, S_61_5, S_61_6, S_61_7, S_61_8, S_61_11, S_61_12, S_61_13, S_61_14, S_61_15, S_61_18, S_61_19, S_61_20, S_61_23, S_61_26, S_61_27, S_61_28, S_61_31, S_61_32, S_61_33, S_61_36, S_61_37, S_61_39, S_61_40, S_61_41, S_61_43, S_61_44, S_61_47, S_61_50, S_61_51, S_61_54, S_61_56, S_61_57, S_61_60, S_61_63, S_61_64, S_61_67, S_61_69, S_61_71, S_61_73, S_61_76, S_61_77, S_61_80, S_61_83, S_61_85, S_61_88, S_61_90, S_61_92, S_61_94, S_61_97, S_61_99, S_61_100, S_61_103, S_61_104, S_61_107, S_61_108, S_61_111, S_61_113, S_61_114, S_61_116, S_61_119, S_61_120, S_61_123, S_61_126, S_61_128, S_61_130, S_61_133, S_61_135, S_61_137, S_61_140, S_61_142, S_61_145, S_61_146, S_61_149, S_61_151, S_61_152, S_61_153, S_61_155, S_61_157, S_61_160, S_61_161, S_61_162, S_61_165, S_61_167, S_61_168, S_61_169, S_61_170, S_61_171, S_61_174, S_61_175, S_61_178, S_61_180, S_61_181, S_61_182, S_61_183, S_61_184, S_61_185, S_61_188, S_61_190, S_61_191, S_61_194, S_61_197, S_61_198, S_61_201, S_61_203, S_61_204, S_61_205, S_61_207, S_61_208, S_61_209, S_61_212, S_61_214, S_61_215, S_61_216, S_61_217, S_61_218, S_61_221, S_61_223, S_61_224, S_61_227, S_61_230, S_61_231, S_61_234, S_61_237, S_61_239, S_61_242, S_61_243, S_61_246, S_61_247, S_61_248, S_61_251, S_61_252, H_84, H_86, e8, rq_n, ea]))
      subst er
      exact kk s hf
  | cons q c ih =>
    intro s p h ty st v7 o4 hf sg1 ht hv hpl hb hl hr
    obtain ⟨o, v⟩ := q
    obtain ⟨ty2, ht1, ht2⟩ := ht
    have hv2 := ev1_ok hn ht1 hv
    have e85 := hf.g 85 rfl
    have e1 : s (k + 1) p = enc (o, v) := by rw [hf _ k86.2]; exact sg1.1
    have e8 : s 84900 0 = k := by rw [hf.g 84900 rfl]; exact hk8
    have l := pl_len hpl
    have l2 := vals_len hv
    have l3 := tys_len ht2
    have l5 : ty.length ≤ ((o, v) :: c).length + [tf].length := tys_len (w := wb) (c := (o, v) :: c) (s := ty) (s2 := [tf]) ⟨ty2, ht1, ht2⟩
    simp only [List.length_cons, List.length_nil] at hb hl l3 l5
    have hB : h ≤ 150 := by omega
    clear l5
    have cL := c_cell_L hk
    have nx : ∀ (h2 : Int) (f : Int → Int), pl f h2 (ev1 (s0 85) (o, v) st) → h2 + c.length ≤ L → ∀ v7, okO v7 = true → Wp (d + 2) 61 69 [.ref 84, .int (iI j), v2, v3, v4, .int (iI h2), .int (iI ce), .int (iI (p + 1)), v7] [] (hp X (u s 86 f)) Q := by
      intro h2 f hp2 hl2 v7 o7
      exact ih (u s 86 f) (p + 1) h2 ty2 _ v7 o7 (hf.u rfl) sg1.2 ht2 hv2 hp2 (by omega) hl2 hr
    rw [S_61_69]
    rcases ht1 with ⟨e, q, e2⟩ | ⟨e, q, q2, q3, e2⟩ | ⟨e, r2, e2, e3⟩ | ⟨e, r2, e2, e3⟩ | ⟨e, r2, e2, e3⟩ | ⟨e, r2, e2, e3⟩ | ⟨e, r2, e2, e3⟩
    · have e : o = 400 := e
      have q : 0 ≤ v ∧ v ≤ 9999 := q
      subst e
      have ec : enc (400, v) = v := rfl
      have nx := nx (h + 1) _ (pl_push (v := v) rfl hpl) (by omega) (.int (iI v)) rfl
      repeat' (first | (with_reducible refine Br_i ?_ ?_ <;> (intro hbr; first | exact False.elim hbr | skip)) | (with_reducible refine Wl_i ?_) | (simp (disch := first | omega | exact okF _ | exact okI _ | exact okR _ | assumption | exact okN) only [u_at, iI_zero, iI_31, iI_add, iI_sub, iI_mul, iI_neg, ↓iI_max, ↓iI_min, iI_div, emod_f, iI_lt, iI_le, iI_inj, iI_toInt, ↓ii01, ↓ii11, ↓bI_b, bI_0, bI_1, Kt_s, Kt_n, cat0, cat1, cat2, cat3, cat4, rfV, Nat.reduceAdd, Nat.reduceMul, Nat.reduceEqDiff, Int.reduceAdd, Int.reduceSub, Int.reduceMul, Int.reduceNeg, Int.reduceLT, Int.reduceLE, Int.reduceEq, Int.reduceDiv, ↓reduceIte, ↓ite_ww, ↓ite_wi, Br_n, Br_TW, Br_FW, Br_FP, Br_FB, nn_p, and_true, true_and, and_self, true_or, or_true, not_true_eq_false, not_false_eq_true, le_T, le_F, lt_T, lt_F, eq_T, eq_F, Int.add_zero, Int.zero_add, Int.one_mul, Int.mul_one, up_eq, up_ne, Int.add_assoc, Int.add_sub_cancel, Int.sub_zero, Int.sub_self, S_61_0, S_61_1, S_61_4, S_61_5, S_61_6, S_61_7, S_61_8, S_61_11, S_61_12, S_61_13, S_61_14, S_61_15, S_61_18, S_61_19, S_61_20, S_61_23, S_61_26, S_61_27, S_61_28, S_61_31, S_61_32, S_61_33, S_61_36, S_61_37, S_61_39, S_61_40, S_61_41, S_61_43, S_61_44, S_61_47, S_61_50, S_61_51, S_61_54, S_61_56, S_61_57, S_61_60, S_61_63, S_61_64, S_61_67, S_61_71, S_61_73, S_61_76, S_61_77, S_61_80, S_61_83, S_61_85, S_61_88, S_61_90, S_61_92, S_61_94, S_61_97, S_61_99, S_61_100, S_61_103, S_61_104, S_61_107, S_61_108, S_61_111, S_61_113, S_61_114, S_61_116, S_61_119, S_61_120, S_61_123, S_61_126, S_61_128, S_61_130, S_61_133, S_61_135, S_61_137, S_61_140, S_61_142, S_61_145, S_61_146, S_61_149, S_61_151, S_61_152, S_61_153, S_61_155, S_61_157, S_61_160, S_61_161, S_61_162, S_61_165, S_61_167, S_61_168, S_61_169, S_61_170, S_61_171, S_61_174, S_61_175, S_61_178, S_61_180, S_61_181, S_61_182, S_61_183, S_61_184, S_61_185, S_61_188, S_61_190, S_61_191, S_61_194, S_61_197, S_61_198, S_61_201, S_61_203, S_61_204, S_61_205, S_61_207, S_61_208, S_61_209, S_61_212, S_61_214, S_61_215, S_61_216, S_61_217, S_61_218, S_61_221, S_61_223, S_61_224, S_61_227, S_61_230, S_61_231, S_61_234, S_61_237, S_61_239, S_61_242, S_61_243, S_61_246, S_61_247, S_61_248, S_61_251, S_61_252, H_84, H_86, H_Lw hk, cL, e8, e1, ec, rq_n, c_operand_n]))
      exact nx
    · have e : o = 401 := e
      have q : 0 ≤ v := q
      have q2 : v ≤ 5 := q2
      subst e
      have ec : enc (401, v) = -(5 + v) := rfl
      have nb := hn v q q2 q3
      rw [← e85] at nb
      have nx := nx (h + 1) _ (pl_push (v := s0 85 v) rfl hpl) (by omega) (.int (iI (-(5 + v)))) rfl
      rw [← e85] at nx
      repeat' (first | (with_reducible refine Br_i ?_ ?_ <;> (intro hbr; first | exact False.elim hbr | skip)) | (with_reducible refine Wl_i ?_) | (simp (disch := first | omega | exact okF _ | exact okI _ | exact okR _ | assumption | exact okN) only [u_at, iI_zero, iI_31, iI_add, iI_sub, iI_mul, iI_neg, ↓iI_max, ↓iI_min, iI_div, emod_f, iI_lt, iI_le, iI_inj, iI_toInt, ↓ii01, ↓ii11, ↓bI_b, bI_0, bI_1, Kt_s, Kt_n, cat0, cat1, cat2, cat3, cat4, rfV, Nat.reduceAdd, Nat.reduceMul, Nat.reduceEqDiff, Int.reduceAdd, Int.reduceSub, Int.reduceMul, Int.reduceNeg, Int.reduceLT, Int.reduceLE, Int.reduceEq, Int.reduceDiv, ↓reduceIte, ↓ite_ww, ↓ite_wi, Br_n, Br_TW, Br_FW, Br_FP, Br_FB, nn_p, and_true, true_and, and_self, true_or, or_true, not_true_eq_false, not_false_eq_true, le_T, le_F, lt_T, lt_F, eq_T, eq_F, Int.add_zero, Int.zero_add, Int.one_mul, Int.mul_one, up_eq, up_ne, Int.add_assoc, Int.add_sub_cancel, Int.sub_zero, Int.sub_self, S_61_0, S_61_1, S_61_4, S_61_5, S_61_6, S_61_7, S_61_8, S_61_11, S_61_12, S_61_13, S_61_14, S_61_15, S_61_18, S_61_19, S_61_20, S_61_23, S_61_26, S_61_27, S_61_28, S_61_31, S_61_32, S_61_33, S_61_36, S_61_37, S_61_39, S_61_40, S_61_41, S_61_43, S_61_44, S_61_47, S_61_50, S_61_51, S_61_54, S_61_56, S_61_57, S_61_60, S_61_63, S_61_64, S_61_67, S_61_71, S_61_73, S_61_76, S_61_77, S_61_80, S_61_83, S_61_85, S_61_88, S_61_90, S_61_92, S_61_94, S_61_97, S_61_99, S_61_100, S_61_103, S_61_104, S_61_107, S_61_108, S_61_111, S_61_113, S_61_114, S_61_116, S_61_119, S_61_120, S_61_123, S_61_126, S_61_128, S_61_130, S_61_133, S_61_135, S_61_137, S_61_140, S_61_142, S_61_145, S_61_146, S_61_149, S_61_151, S_61_152, S_61_153, S_61_155, S_61_157, S_61_160, S_61_161, S_61_162, S_61_165, S_61_167, S_61_168, S_61_169, S_61_170, S_61_171, S_61_174, S_61_175, S_61_178, S_61_180, S_61_181, S_61_182, S_61_183, S_61_184, S_61_185, S_61_188, S_61_190, S_61_191, S_61_194, S_61_197, S_61_198, S_61_201, S_61_203, S_61_204, S_61_205, S_61_207, S_61_208, S_61_209, S_61_212, S_61_214, S_61_215, S_61_216, S_61_217, S_61_218, S_61_221, S_61_223, S_61_224, S_61_227, S_61_230, S_61_231, S_61_234, S_61_237, S_61_239, S_61_242, S_61_243, S_61_246, S_61_247, S_61_248, S_61_251, S_61_252, H_84, H_86, H_Lw hk, cL, e8, e1, ec, rq_n, c_operand_a]))
      exact nx
    · have e : o = 402 := e
      subst e
      subst e2
      match st, hv, hpl with
      | a :: st, hv, hpl =>
        have ea : s 86 (h - 1) = a := hpl.1
        have ec : enc (402, v) = -33 := rfl
        simp only [List.length_cons] at l
        have nx := nx h _ (pl_one (v := -a) rfl hpl) (by omega) (.int (iI (-33))) rfl
        repeat' (first | (with_reducible refine Br_i ?_ ?_ <;> (intro hbr; first | exact False.elim hbr | skip)) | (with_reducible refine Wl_i ?_) | (simp (disch := first | omega | exact okF _ | exact okI _ | exact okR _ | assumption | exact okN) only [u_at, iI_zero, iI_31, iI_add, iI_sub, iI_mul, iI_neg, ↓iI_max, ↓iI_min, iI_div, emod_f, iI_lt, iI_le, iI_inj, iI_toInt, ↓ii01, ↓ii11, ↓bI_b, bI_0, bI_1, Kt_s, Kt_n, cat0, cat1, cat2, cat3, cat4, rfV, Nat.reduceAdd, Nat.reduceMul, Nat.reduceEqDiff, Int.reduceAdd, Int.reduceSub, Int.reduceMul, Int.reduceNeg, Int.reduceLT, Int.reduceLE, Int.reduceEq, Int.reduceDiv, ↓reduceIte, ↓ite_ww, ↓ite_wi, Br_n, Br_TW, Br_FW, Br_FP, Br_FB, nn_p, and_true, true_and, and_self, true_or, or_true, not_true_eq_false, not_false_eq_true, le_T, le_F, lt_T, lt_F, eq_T, eq_F, Int.add_zero, Int.zero_add, Int.one_mul, Int.mul_one, up_eq, up_ne, Int.add_assoc, Int.add_sub_cancel, Int.sub_zero, Int.sub_self, S_61_0, S_61_1, S_61_4, S_61_5, S_61_6, S_61_7, S_61_8, S_61_11, S_61_12, S_61_13, S_61_14, S_61_15, S_61_18, S_61_19, S_61_20, S_61_23, S_61_26, S_61_27, S_61_28, S_61_31, S_61_32, S_61_33, S_61_36, S_61_37, S_61_39, S_61_40, S_61_41, S_61_43, S_61_44, S_61_47, S_61_50, S_61_51, S_61_54, S_61_56, S_61_57, S_61_60, S_61_63, S_61_64, S_61_67, S_61_71, S_61_73, S_61_76, S_61_77, S_61_80, S_61_83, S_61_85, S_61_88, S_61_90, S_61_92, S_61_94, S_61_97, S_61_99, S_61_100, S_61_103, S_61_104, S_61_107, S_61_108, S_61_111, S_61_113, S_61_114, S_61_116, S_61_119, S_61_120, S_61_123, S_61_126, S_61_128, S_61_130, S_61_133, S_61_135, S_61_137, S_61_140, S_61_142, S_61_145, S_61_146, S_61_149, S_61_151, S_61_152, S_61_153, S_61_155, S_61_157, S_61_160, S_61_161, S_61_162, S_61_165, S_61_167, S_61_168, S_61_169, S_61_170, S_61_171, S_61_174, S_61_175, S_61_178, S_61_180, S_61_181, S_61_182, S_61_183, S_61_184, S_61_185, S_61_188, S_61_190, S_61_191, S_61_194, S_61_197, S_61_198, S_61_201, S_61_203, S_61_204, S_61_205, S_61_207, S_61_208, S_61_209, S_61_212, S_61_214, S_61_215, S_61_216, S_61_217, S_61_218, S_61_221, S_61_223, S_61_224, S_61_227, S_61_230, S_61_231, S_61_234, S_61_237, S_61_239, S_61_242, S_61_243, S_61_246, S_61_247, S_61_248, S_61_251, S_61_252, H_84, H_86, H_Lw hk, cL, e8, e1, ec, ea, rq_n]))
        exact nx
    · have e : o = 405 := e
      subst e
      subst e2
      match st, hv, hpl with
      | a :: st, hv, hpl =>
        have ea : s 86 (h - 1) = a := hpl.1
        have ec : enc (405, v) = -13 := rfl
        simp only [List.length_cons] at l
        have nx := nx h _ (pl_one (v := 1 - a) rfl hpl) (by omega) (.int (iI (-13))) rfl
        repeat' (first | (with_reducible refine Br_i ?_ ?_ <;> (intro hbr; first | exact False.elim hbr | skip)) | (with_reducible refine Wl_i ?_) | (simp (disch := first | omega | exact okF _ | exact okI _ | exact okR _ | assumption | exact okN) only [u_at, iI_zero, iI_31, iI_add, iI_sub, iI_mul, iI_neg, ↓iI_max, ↓iI_min, iI_div, emod_f, iI_lt, iI_le, iI_inj, iI_toInt, ↓ii01, ↓ii11, ↓bI_b, bI_0, bI_1, Kt_s, Kt_n, cat0, cat1, cat2, cat3, cat4, rfV, Nat.reduceAdd, Nat.reduceMul, Nat.reduceEqDiff, Int.reduceAdd, Int.reduceSub, Int.reduceMul, Int.reduceNeg, Int.reduceLT, Int.reduceLE, Int.reduceEq, Int.reduceDiv, ↓reduceIte, ↓ite_ww, ↓ite_wi, Br_n, Br_TW, Br_FW, Br_FP, Br_FB, nn_p, and_true, true_and, and_self, true_or, or_true, not_true_eq_false, not_false_eq_true, le_T, le_F, lt_T, lt_F, eq_T, eq_F, Int.add_zero, Int.zero_add, Int.one_mul, Int.mul_one, up_eq, up_ne, Int.add_assoc, Int.add_sub_cancel, Int.sub_zero, Int.sub_self, S_61_0, S_61_1, S_61_4, S_61_5, S_61_6, S_61_7, S_61_8, S_61_11, S_61_12, S_61_13, S_61_14, S_61_15, S_61_18, S_61_19, S_61_20, S_61_23, S_61_26, S_61_27, S_61_28, S_61_31, S_61_32, S_61_33, S_61_36, S_61_37, S_61_39, S_61_40, S_61_41, S_61_43, S_61_44, S_61_47, S_61_50, S_61_51, S_61_54, S_61_56, S_61_57, S_61_60, S_61_63, S_61_64, S_61_67, S_61_71, S_61_73, S_61_76, S_61_77, S_61_80, S_61_83, S_61_85, S_61_88, S_61_90, S_61_92, S_61_94, S_61_97, S_61_99, S_61_100, S_61_103, S_61_104, S_61_107, S_61_108, S_61_111, S_61_113, S_61_114, S_61_116, S_61_119, S_61_120, S_61_123, S_61_126, S_61_128, S_61_130, S_61_133, S_61_135, S_61_137, S_61_140, S_61_142, S_61_145, S_61_146, S_61_149, S_61_151, S_61_152, S_61_153, S_61_155, S_61_157, S_61_160, S_61_161, S_61_162, S_61_165, S_61_167, S_61_168, S_61_169, S_61_170, S_61_171, S_61_174, S_61_175, S_61_178, S_61_180, S_61_181, S_61_182, S_61_183, S_61_184, S_61_185, S_61_188, S_61_190, S_61_191, S_61_194, S_61_197, S_61_198, S_61_201, S_61_203, S_61_204, S_61_205, S_61_207, S_61_208, S_61_209, S_61_212, S_61_214, S_61_215, S_61_216, S_61_217, S_61_218, S_61_221, S_61_223, S_61_224, S_61_227, S_61_230, S_61_231, S_61_234, S_61_237, S_61_239, S_61_242, S_61_243, S_61_246, S_61_247, S_61_248, S_61_251, S_61_252, H_84, H_86, H_Lw hk, cL, e8, e1, ec, ea, rq_n]))
        exact nx
    all_goals
      subst e2
      match st, hv, hpl with
      | b :: a :: st, hv, hpl =>
        have eb : s 86 (h - 1) = b := hpl.1
        have ea : s 86 (h - 1 - 1) = a := hpl.2.1
        simp only [List.length_cons] at l
        have n : (¬ o = 400 ∧ ¬ o = 401 ∧ ¬ o = 402 ∧ ¬ o = 405 ∧ ¬ o = 408) ∧ 0 ≤ o ∧ o < 500 := by
          have e := e
          (try unfold isAr at e)
          (try unfold isCmp at e)
          (try simp only at e)
          omega
        have ow : isAr o ∨ isCmp o ∨ o = 406 ∨ o = 407 := by
          first | exact Or.inl e | exact Or.inr (Or.inl e) | exact Or.inr (Or.inr e)
        have ao : o = 406 ∨ o = 407 → (a = 0 ∨ a = 1) ∧ (b = 0 ∨ b = 1) := by
          intro q
          obtain ⟨v1, v2, _⟩ := hv
          first | exact ⟨v2, v1⟩ | (exfalso; unfold isAr at e; simp only at e; omega) | (exfalso; unfold isCmp at e; simp only at e; omega)
        have ba : -1000000 ≤ a ∧ a ≤ 1000000 := by
          obtain ⟨v1, v2, _⟩ := hv
          first | exact v2 | (have v2 : a = 0 ∨ a = 1 := v2; omega)
        have bb : -1000000 ≤ b ∧ b ≤ 1000000 := by
          obtain ⟨v1, v2, _⟩ := hv
          first | exact v1 | (have v1 : b = 0 ∨ b = 1 := v1; omega)
        have ee : ev1 (s0 85) (o, v) (b :: a :: st) = wk o a b :: st := by
          unfold ev1
          simp only [n, if_false]
        have eb2 := enc_bin (v := v) ow
        have jn := fun (d : Nat) (Q : Option Value → aH → Prop) => c_join (d := d) (X := X) (s := s) (Q := Q) (z := enc (o, v)) ow rfl ba bb ao
        have jc := jw_cl ow ba bb ao
        have cn := fun (d : Nat) (Q : Option Value → aH → Prop) => c_cut (d := d) (X := X) (s := s) (Q := Q) jc.2
        rw [jc.1] at cn
        generalize enc (o, v) = z at e1 eb2 jn
        have nx := nx (h - 1) _ (by rw [ee]; exact pl_two (x := h - 1 - 1) (by omega) rfl hpl) (by omega) (.int (iI z)) rfl
        have i1 : h + -1 = h - 1 := by omega
        repeat' (first | (with_reducible refine Br_i ?_ ?_ <;> (intro hbr; first | exact False.elim hbr | skip)) | (with_reducible refine Wl_i ?_) | (simp (disch := first | omega | exact okF _ | exact okI _ | exact okR _ | assumption | exact okN) only [u_at, iI_zero, iI_31, iI_add, iI_sub, iI_mul, iI_neg, ↓iI_max, ↓iI_min, iI_div, emod_f, iI_lt, iI_le, iI_inj, iI_toInt, ↓ii01, ↓ii11, ↓bI_b, bI_0, bI_1, Kt_s, Kt_n, cat0, cat1, cat2, cat3, cat4, rfV, Nat.reduceAdd, Nat.reduceMul, Nat.reduceEqDiff, Int.reduceAdd, Int.reduceSub, Int.reduceMul, Int.reduceNeg, Int.reduceLT, Int.reduceLE, Int.reduceEq, Int.reduceDiv, ↓reduceIte, ↓ite_ww, ↓ite_wi, Br_n, Br_TW, Br_FW, Br_FP, Br_FB, nn_p, and_true, true_and, and_self, true_or, or_true, not_true_eq_false, not_false_eq_true, le_T, le_F, lt_T, lt_F, eq_T, eq_F, Int.add_zero, Int.zero_add, Int.one_mul, Int.mul_one, up_eq, up_ne, Int.add_assoc, Int.add_sub_cancel, Int.sub_zero, Int.sub_self, S_61_0, S_61_1, S_61_4, S_61_5, S_61_6, S_61_7, S_61_8, S_61_11, S_61_12, S_61_13, S_61_14, S_61_15, S_61_18, S_61_19, S_61_20, S_61_23, S_61_26, S_61_27, S_61_28, S_61_31, S_61_32, S_61_33, S_61_36, S_61_37, S_61_39, S_61_40, S_61_41, S_61_43, S_61_44, S_61_47, S_61_50, S_61_51, S_61_54, S_61_56, S_61_57, S_61_60, S_61_63, S_61_64, S_61_67, S_61_71, S_61_73, S_61_76, S_61_77, S_61_80, S_61_83, S_61_85, S_61_88, S_61_90, S_61_92, S_61_94, S_61_97, S_61_99, S_61_100, S_61_103, S_61_104, S_61_107, S_61_108, S_61_111, S_61_113, S_61_114, S_61_116, S_61_119, S_61_120, S_61_123, S_61_126, S_61_128, S_61_130, S_61_133, S_61_135, S_61_137, S_61_140, S_61_142, S_61_145, S_61_146, S_61_149, S_61_151, S_61_152, S_61_153, S_61_155, S_61_157, S_61_160, S_61_161, S_61_162, S_61_165, S_61_167, S_61_168, S_61_169, S_61_170, S_61_171, S_61_174, S_61_175, S_61_178, S_61_180, S_61_181, S_61_182, S_61_183, S_61_184, S_61_185, S_61_188, S_61_190, S_61_191, S_61_194, S_61_197, S_61_198, S_61_201, S_61_203, S_61_204, S_61_205, S_61_207, S_61_208, S_61_209, S_61_212, S_61_214, S_61_215, S_61_216, S_61_217, S_61_218, S_61_221, S_61_223, S_61_224, S_61_227, S_61_230, S_61_231, S_61_234, S_61_237, S_61_239, S_61_242, S_61_243, S_61_246, S_61_247, S_61_248, S_61_251, S_61_252, H_84, H_86, H_Lw hk, cL, e8, e1, ea, eb, i1, rq_n, jn, cn]))
        exact nx
end CL
