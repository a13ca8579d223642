/-! PARSING, the reference: what it holds, its small methods -/
def stkF (s : sg) : List (Int × Int) → Prop
  | [] => True
  | x :: r => s 131 r.length = x.1 ∧ (x.1 = 5 → s 132 (r.length + 1) = x.2) ∧ stkF s r
def stkW (s : sg) : List (Int × Int) → Prop
  | [] => True
  | x :: r => s 133 r.length = x.1 ∧ s 134 r.length = x.2 ∧ stkW s r
/-- frames, waiting operators, how many are open, what was emitted -/
def MR (s : sg) (F W : List (Int × Int)) (op : Int) (c : opl) : Prop := s 122016 0 = 0 ∧ s 122018 0 = op ∧ (s 122019 0 = F.length ∧ stkF s F) ∧ (s 122022 0 = W.length ∧ stkW s W) ∧ s 122030 0 = c.length ∧ seg (s 137) 0 (c.map (fun q => q.1)) ∧ seg (s 138) 0 (c.map (fun q => q.2)) ∧ s 122017 0 = -1
/-- the reference stands at the token j -/
def MTK (s : sg) (B : Int → Int) (n j : Int) : Prop := MT s B n ∧ s 122012 0 = tP B n (j + 1) ∧ s 122013 0 = pla B n j ∧ TK s (kd B n j) (nu B n j) ∧ 0 ≤ j
def rkk (o : Int) : Int := if o = 407 then 1 else if o = 406 then 2 else if o = 43 ∨ o = 45 then 3 else 4
def Low (r f : Int) : List (Int × Int) → Prop
  | [] => True
  | x :: _ => ((-2147483648 ≤ x.1 ∧ x.1 < 2147483648) ∧ (-2147483648 ≤ x.2 ∧ x.2 < 2147483648)) ∧ (x.2 = f → rkk x.1 < r)
def emt (s : sg) (c o v : Int) : sg := u (u (u s 137 (up (s 137) c o)) 138 (up (s 138) c v)) 122030 (fun _ => c + 1)
def opf (s : sg) (f x : Int) : sg := u (u s 131 (up (s 131) f x)) 122019 (fun _ => f + 1)
section MP
variable {d : Nat} {X : hX} {s s1 s2 : sg} {Q : Option Value → aH → Prop} {a b e i k m n p t z v x y o r w op j f kz kap : Int} {B : Int → Int} {F W Wb : List (Int × Int)} {c : opl}
theorem stkF_cg (h1 : s2 131 = s 131) (h2 : s2 132 = s 132) : ∀ {F : List (Int × Int)}, stkF s F → stkF s2 F
  | [], _ => trivial
  | x :: r, h => ⟨by rw [h1]; exact h.1, by rw [h2]; exact h.2.1, stkF_cg h1 h2 h.2.2⟩
theorem stkW_cg (h1 : s2 133 = s 133) (h2 : s2 134 = s 134) : ∀ {F : List (Int × Int)}, stkW s F → stkW s2 F
  | [], _ => trivial
  | x :: r, h => ⟨by rw [h1]; exact h.1, by rw [h2]; exact h.2.1, stkW_cg h1 h2 h.2.2⟩
theorem stkF_lo : ∀ {F : List (Int × Int)}, stkF s F → (∀ z : Int, 0 ≤ z → z < F.length → s2 131 z = s 131 z) → (∀ z : Int, 0 ≤ z → z ≤ F.length → s2 132 z = s 132 z) → stkF s2 F
  | [], _, _, _ => trivial
  | x :: r, h, h1, h2 => by
    have el : ((x :: r).length : Int) = r.length + 1 := by simp
    exact ⟨by rw [h1 _ (by omega) (by omega)]; exact h.1, fun q => by rw [h2 _ (by omega) (by omega)]; exact h.2.1 q, stkF_lo h.2.2 (fun z z0 z1 => h1 z z0 (by omega)) (fun z z0 z1 => h2 z z0 (by omega))⟩
theorem stkW_lo : ∀ {F : List (Int × Int)}, stkW s F → (∀ z : Int, 0 ≤ z → z < F.length → s2 133 z = s 133 z ∧ s2 134 z = s 134 z) → stkW s2 F
  | [], _, _ => trivial
  | x :: r, h, h1 => by
    have el : ((x :: r).length : Int) = r.length + 1 := by simp
    obtain ⟨a, b⟩ := h1 r.length (by omega) (by omega)
    exact ⟨by rw [a]; exact h.1, by rw [b]; exact h.2.1, stkW_lo h.2.2 (fun z z0 z1 => h1 z z0 (by omega))⟩
theorem MR_fr {K : List Nat} (g : Fr K s s2) (w : ninA [122016, 122018, 122019, 131, 132, 122022, 133, 134, 122030, 137, 138, 122017] K = true) (h : MR s F W op c) : MR s2 F W op c := by
  have q : ∀ a, nin a [122016, 122018, 122019, 131, 132, 122022, 133, 134, 122030, 137, 138, 122017] = false → s2 a = s a := fun a ha => g a (ninA_1 w ha)
  obtain ⟨h1, h2, ⟨h3, h4⟩, ⟨h5, h6⟩, h7, h8, h9⟩ := h
  refine ⟨by rw [q 122016 rfl]; exact h1, by rw [q 122018 rfl]; exact h2, ⟨by rw [q 122019 rfl]; exact h3, stkF_cg (q 131 rfl) (q 132 rfl) h4⟩, ⟨by rw [q 122022 rfl]; exact h5, stkW_cg (q 133 rfl) (q 134 rfl) h6⟩, by rw [q 122030 rfl]; exact h7, by rw [q 137 rfl]; exact h8, by rw [q 138 rfl, q 122017 rfl]; exact h9⟩
theorem MTK_fr {K : List Nat} (g : Fr K s s2) (w : ninA [125, 122011, 122012, 122013, 122014, 122015] K = true) (h : MTK s B n j) : MTK s2 B n j := by
  have q : ∀ a, nin a [125, 122011, 122012, 122013, 122014, 122015] = false → s2 a = s a := fun a ha => g a (ninA_1 w ha)
  obtain ⟨⟨a1, a2, a3⟩, b, cc, e, f⟩ := h
  refine ⟨⟨fun i i0 i1 => ⟨(a1 i i0 i1).1, by rw [q 125 rfl]; exact (a1 i i0 i1).2⟩, by rw [q 122011 rfl]; exact a2, a3⟩, by rw [q 122012 rfl]; exact b, by rw [q 122013 rfl]; exact cc, ?_, f⟩
  unfold TK at e ⊢
  rw [q 122014 rfl, q 122015 rfl]
  exact e
theorem emt_fr : Fr [122030, 137, 138] s (emt s a o v) := (((Fr.rf s).u rfl).u rfl).u rfl
theorem MR_emt (h : MR s F W op c) : MR (emt s c.length o v) F W op (c ++ [(o, v)]) := by
  obtain ⟨h1, h2, ⟨h3, h4⟩, ⟨h5, h6⟩, h7, h8, h9⟩ := h
  refine ⟨h1, h2, ⟨h3, (by refine stkF_cg (s := s) ?_ ?_ h4 <;> rfl)⟩, ⟨h5, (by refine stkW_cg (s := s) ?_ ?_ h6 <;> rfl)⟩, ?_, ?_, ?_⟩
  · show (c.length : Int) + 1 = _
    simp
  · rw [List.map_append]
    exact seg_snoc (f := s 137) h8 (fun z hz => up_ne (by simp at hz; omega)) (up_eq (by simp))
  · rw [List.map_append]
    refine ⟨?_, h9.2⟩
    exact seg_snoc (f := s 138) h9.1 (fun z hz => up_ne (by simp at hz; omega)) (up_eq (by simp))
theorem MR_opf (h : MR s F W op c) (hx : ¬ x = 5) : MR (opf s F.length x) ((x, 0) :: F) W op c := by
  obtain ⟨h1, h2, ⟨h3, h4⟩, ⟨h5, h6⟩, h7, h8, h9⟩ := h
  refine ⟨h1, h2, ⟨?_, ?_, fun q => absurd q hx, ?_⟩, ⟨h5, (by refine stkW_cg (s := s) ?_ ?_ h6 <;> rfl)⟩, h7, h8, h9⟩
  · show (F.length : Int) + 1 = _
    simp
  · show up (s 131) F.length x F.length = x
    exact up_eq rfl
  · exact stkF_lo h4 (fun z z0 z1 => up_ne (by omega)) (fun z z0 z1 => rfl)
theorem sgT_iff (h : 20 ≤ k ∧ k ≤ 32) : (35 ≤ sgT k ∧ sgT k ≤ 301) ∧ ¬ sgT k = 44 ∧ (sgT k = 43 ↔ k = 24) ∧ (sgT k = 45 ↔ k = 25) ∧ (sgT k = 42 ↔ k = 26) ∧ (sgT k = 47 ↔ k = 27) ∧ (sgT k = 40 ↔ k = 28) ∧ (sgT k = 41 ↔ k = 29) ∧ (sgT k = 59 ↔ k = 30) ∧ ((sgT k = 60 ∨ sgT k = 62 ∨ sgT k = 61 ∨ sgT k = 35 ∨ sgT k = 300 ∨ sgT k = 301) ↔ isCK k) := by
  have e : k = 20 ∨ k = 21 ∨ k = 22 ∨ k = 23 ∨ k = 24 ∨ k = 25 ∨ k = 26 ∨ k = 27 ∨ k = 28 ∨ k = 29 ∨ k = 30 ∨ k = 31 ∨ k = 32 := by omega
  unfold isCK
  rcases e with q | q | q | q | q | q | q | q | q | q | q | q | q <;> subst q <;> decide
theorem mwd_iff (h : 0 ≤ k ∧ k ≤ 13) : (0 ≤ mwd k ∧ mwd k ≤ 13) ∧ (mwd k = 5 ↔ k = 11) ∧ (mwd k = 6 ↔ k = 12) ∧ (mwd k = 7 ↔ k = 13) ∧ (mwd k ≤ 4 ↔ k ≤ 4) ∧ (7 < mwd k ↔ (5 ≤ k ∧ k ≤ 10)) ∧ (k ≤ 4 → mwd k = k) ∧ ((5 ≤ k ∧ k ≤ 10) → mwd k = k + 3) := by
  unfold mwd
  split
  · omega
  · split <;> omega
theorem m_isSign (t : TK s k v) (hz : (z = 40 ∧ kz = 28) ∨ (z = 41 ∧ kz = 29) ∨ (z = 45 ∧ kz = 25) ∨ (z = 59 ∧ kz = 30)) : Wp d 190 0 [.ref 122, .int (iI z)] [] (hp X s) Q = Q (some (.int (iI (bZ (k = kz))))) (hp X s) := by
  rcases t with ⟨q1, q2⟩ | ⟨q1, q2, _, _⟩ | ⟨q1, q2, _⟩ | ⟨q1, q2⟩ | ⟨q1, q2, q3⟩
  · rw [bZ_F (show ¬ k = kz by omega)]
    simp (disch := first | omega | exact okF _ | exact okI _ | exact okR _ | assumption | exact okN) only [S_190_0, S_190_1, S_190_4, S_190_5, S_190_8, S_190_9, S_190_12, S_190_13, S_190_16, S_190_17, S_190_20, S_190_21, u_at, iI_zero, iI_31, iI_add, iI_sub, iI_mul, iI_neg, ↓iI_max, ↓iI_min, iI_div, emod_f, iI_lt, iI_le, iI_inj, iI_toInt, ↓ii01, ↓ii11, ↓bI_b, bI_0, bI_1, Kt_s, Kt_n, cat0, cat1, cat2, cat3, cat4, rfV, Nat.reduceAdd, Nat.reduceMul, Nat.reduceEqDiff, Int.reduceAdd, Int.reduceSub, Int.reduceMul, Int.reduceNeg, Int.reduceLT, Int.reduceLE, Int.reduceEq, Int.reduceDiv, ↓reduceIte, ↓ite_ww, ↓ite_wi, Br_n, Br_TW, Br_FW, Br_FP, Br_FB, nn_p, and_true, true_and, and_self, true_or, or_true, not_true_eq_false, not_false_eq_true, le_T, le_F, lt_T, lt_F, eq_T, eq_F, Int.add_zero, Int.zero_add, Int.one_mul, Int.mul_one, up_eq, up_ne, Int.add_assoc, Int.add_sub_cancel, Int.sub_zero, Int.sub_self, H_122, q2]
  · rw [bZ_F (show ¬ k = kz by omega)]
    simp (disch := first | omega | exact okF _ | exact okI _ | exact okR _ | assumption | exact okN) only [S_190_0, S_190_1, S_190_4, S_190_5, S_190_8, S_190_9, S_190_12, S_190_13, S_190_16, S_190_17, S_190_20, S_190_21, u_at, iI_zero, iI_31, iI_add, iI_sub, iI_mul, iI_neg, ↓iI_max, ↓iI_min, iI_div, emod_f, iI_lt, iI_le, iI_inj, iI_toInt, ↓ii01, ↓ii11, ↓bI_b, bI_0, bI_1, Kt_s, Kt_n, cat0, cat1, cat2, cat3, cat4, rfV, Nat.reduceAdd, Nat.reduceMul, Nat.reduceEqDiff, Int.reduceAdd, Int.reduceSub, Int.reduceMul, Int.reduceNeg, Int.reduceLT, Int.reduceLE, Int.reduceEq, Int.reduceDiv, ↓reduceIte, ↓ite_ww, ↓ite_wi, Br_n, Br_TW, Br_FW, Br_FP, Br_FB, nn_p, and_true, true_and, and_self, true_or, or_true, not_true_eq_false, not_false_eq_true, le_T, le_F, lt_T, lt_F, eq_T, eq_F, Int.add_zero, Int.zero_add, Int.one_mul, Int.mul_one, up_eq, up_ne, Int.add_assoc, Int.add_sub_cancel, Int.sub_zero, Int.sub_self, H_122, q2]
  · rw [bZ_F (show ¬ k = kz by omega)]
    simp (disch := first | omega | exact okF _ | exact okI _ | exact okR _ | assumption | exact okN) only [S_190_0, S_190_1, S_190_4, S_190_5, S_190_8, S_190_9, S_190_12, S_190_13, S_190_16, S_190_17, S_190_20, S_190_21, u_at, iI_zero, iI_31, iI_add, iI_sub, iI_mul, iI_neg, ↓iI_max, ↓iI_min, iI_div, emod_f, iI_lt, iI_le, iI_inj, iI_toInt, ↓ii01, ↓ii11, ↓bI_b, bI_0, bI_1, Kt_s, Kt_n, cat0, cat1, cat2, cat3, cat4, rfV, Nat.reduceAdd, Nat.reduceMul, Nat.reduceEqDiff, Int.reduceAdd, Int.reduceSub, Int.reduceMul, Int.reduceNeg, Int.reduceLT, Int.reduceLE, Int.reduceEq, Int.reduceDiv, ↓reduceIte, ↓ite_ww, ↓ite_wi, Br_n, Br_TW, Br_FW, Br_FP, Br_FB, nn_p, and_true, true_and, and_self, true_or, or_true, not_true_eq_false, not_false_eq_true, le_T, le_F, lt_T, lt_F, eq_T, eq_F, Int.add_zero, Int.zero_add, Int.one_mul, Int.mul_one, up_eq, up_ne, Int.add_assoc, Int.add_sub_cancel, Int.sub_zero, Int.sub_self, H_122, q2]
  · rw [bZ_F (show ¬ k = kz by omega)]
    rcases q2 with q2 | ⟨q2, q3⟩
    · simp (disch := first | omega | exact okF _ | exact okI _ | exact okR _ | assumption | exact okN) only [S_190_0, S_190_1, S_190_4, S_190_5, S_190_8, S_190_9, S_190_12, S_190_13, S_190_16, S_190_17, S_190_20, S_190_21, u_at, iI_zero, iI_31, iI_add, iI_sub, iI_mul, iI_neg, ↓iI_max, ↓iI_min, iI_div, emod_f, iI_lt, iI_le, iI_inj, iI_toInt, ↓ii01, ↓ii11, ↓bI_b, bI_0, bI_1, Kt_s, Kt_n, cat0, cat1, cat2, cat3, cat4, rfV, Nat.reduceAdd, Nat.reduceMul, Nat.reduceEqDiff, Int.reduceAdd, Int.reduceSub, Int.reduceMul, Int.reduceNeg, Int.reduceLT, Int.reduceLE, Int.reduceEq, Int.reduceDiv, ↓reduceIte, ↓ite_ww, ↓ite_wi, Br_n, Br_TW, Br_FW, Br_FP, Br_FB, nn_p, and_true, true_and, and_self, true_or, or_true, not_true_eq_false, not_false_eq_true, le_T, le_F, lt_T, lt_F, eq_T, eq_F, Int.add_zero, Int.zero_add, Int.one_mul, Int.mul_one, up_eq, up_ne, Int.add_assoc, Int.add_sub_cancel, Int.sub_zero, Int.sub_self, H_122, q2]
    · simp (disch := first | omega | exact okF _ | exact okI _ | exact okR _ | assumption | exact okN) only [S_190_0, S_190_1, S_190_4, S_190_5, S_190_8, S_190_9, S_190_12, S_190_13, S_190_16, S_190_17, S_190_20, S_190_21, u_at, iI_zero, iI_31, iI_add, iI_sub, iI_mul, iI_neg, ↓iI_max, ↓iI_min, iI_div, emod_f, iI_lt, iI_le, iI_inj, iI_toInt, ↓ii01, ↓ii11, ↓bI_b, bI_0, bI_1, Kt_s, Kt_n, cat0, cat1, cat2, cat3, cat4, rfV, Nat.reduceAdd, Nat.reduceMul, Nat.reduceEqDiff, Int.reduceAdd, Int.reduceSub, Int.reduceMul, Int.reduceNeg, Int.reduceLT, Int.reduceLE, Int.reduceEq, Int.reduceDiv, ↓reduceIte, ↓ite_ww, ↓ite_wi, Br_n, Br_TW, Br_FW, Br_FP, Br_FB, nn_p, and_true, true_and, and_self, true_or, or_true, not_true_eq_false, not_false_eq_true, le_T, le_F, lt_T, lt_F, eq_T, eq_F, Int.add_zero, Int.zero_add, Int.one_mul, Int.mul_one, up_eq, up_ne, Int.add_assoc, Int.add_sub_cancel, Int.sub_zero, Int.sub_self, H_122, q2, q3]
  · have g := sgT_iff q1
    by_cases c : k = kz
    · rw [bZ_T c]
      have e : sgT k = z := by omega
      simp (disch := first | omega | exact okF _ | exact okI _ | exact okR _ | assumption | exact okN) only [S_190_0, S_190_1, S_190_4, S_190_5, S_190_8, S_190_9, S_190_12, S_190_13, S_190_16, S_190_17, S_190_20, S_190_21, u_at, iI_zero, iI_31, iI_add, iI_sub, iI_mul, iI_neg, ↓iI_max, ↓iI_min, iI_div, emod_f, iI_lt, iI_le, iI_inj, iI_toInt, ↓ii01, ↓ii11, ↓bI_b, bI_0, bI_1, Kt_s, Kt_n, cat0, cat1, cat2, cat3, cat4, rfV, Nat.reduceAdd, Nat.reduceMul, Nat.reduceEqDiff, Int.reduceAdd, Int.reduceSub, Int.reduceMul, Int.reduceNeg, Int.reduceLT, Int.reduceLE, Int.reduceEq, Int.reduceDiv, ↓reduceIte, ↓ite_ww, ↓ite_wi, Br_n, Br_TW, Br_FW, Br_FP, Br_FB, nn_p, and_true, true_and, and_self, true_or, or_true, not_true_eq_false, not_false_eq_true, le_T, le_F, lt_T, lt_F, eq_T, eq_F, Int.add_zero, Int.zero_add, Int.one_mul, Int.mul_one, up_eq, up_ne, Int.add_assoc, Int.add_sub_cancel, Int.sub_zero, Int.sub_self, H_122, q2, q3, e]
    · rw [bZ_F c]
      have e : ¬ sgT k = z := by omega
      simp (disch := first | omega | exact okF _ | exact okI _ | exact okR _ | assumption | exact okN) only [S_190_0, S_190_1, S_190_4, S_190_5, S_190_8, S_190_9, S_190_12, S_190_13, S_190_16, S_190_17, S_190_20, S_190_21, u_at, iI_zero, iI_31, iI_add, iI_sub, iI_mul, iI_neg, ↓iI_max, ↓iI_min, iI_div, emod_f, iI_lt, iI_le, iI_inj, iI_toInt, ↓ii01, ↓ii11, ↓bI_b, bI_0, bI_1, Kt_s, Kt_n, cat0, cat1, cat2, cat3, cat4, rfV, Nat.reduceAdd, Nat.reduceMul, Nat.reduceEqDiff, Int.reduceAdd, Int.reduceSub, Int.reduceMul, Int.reduceNeg, Int.reduceLT, Int.reduceLE, Int.reduceEq, Int.reduceDiv, ↓reduceIte, ↓ite_ww, ↓ite_wi, Br_n, Br_TW, Br_FW, Br_FP, Br_FB, nn_p, and_true, true_and, and_self, true_or, or_true, not_true_eq_false, not_false_eq_true, le_T, le_F, lt_T, lt_F, eq_T, eq_F, Int.add_zero, Int.zero_add, Int.one_mul, Int.mul_one, up_eq, up_ne, Int.add_assoc, Int.add_sub_cancel, Int.sub_zero, Int.sub_self, H_122, q2, q3, e]
theorem m_isWord (t : TK s k v) (hz : (z = 5 ∧ kz = 11) ∨ (z = 6 ∧ kz = 12) ∨ (z = 7 ∧ kz = 13)) : Wp d 191 0 [.ref 122, .int (iI z)] [] (hp X s) Q = Q (some (.int (iI (bZ (k = kz))))) (hp X s) := by
  rcases t with ⟨q1, q2⟩ | ⟨q1, q2, _, _⟩ | ⟨q1, q2, q3⟩ | ⟨q1, q2⟩ | ⟨q1, q2, q3⟩
  · rw [bZ_F (show ¬ k = kz by omega)]
    simp (disch := first | omega | exact okF _ | exact okI _ | exact okR _ | assumption | exact okN) only [S_191_0, S_191_1, S_191_4, S_191_5, S_191_8, S_191_9, S_191_12, S_191_13, S_191_16, S_191_17, S_191_20, S_191_21, u_at, iI_zero, iI_31, iI_add, iI_sub, iI_mul, iI_neg, ↓iI_max, ↓iI_min, iI_div, emod_f, iI_lt, iI_le, iI_inj, iI_toInt, ↓ii01, ↓ii11, ↓bI_b, bI_0, bI_1, Kt_s, Kt_n, cat0, cat1, cat2, cat3, cat4, rfV, Nat.reduceAdd, Nat.reduceMul, Nat.reduceEqDiff, Int.reduceAdd, Int.reduceSub, Int.reduceMul, Int.reduceNeg, Int.reduceLT, Int.reduceLE, Int.reduceEq, Int.reduceDiv, ↓reduceIte, ↓ite_ww, ↓ite_wi, Br_n, Br_TW, Br_FW, Br_FP, Br_FB, nn_p, and_true, true_and, and_self, true_or, or_true, not_true_eq_false, not_false_eq_true, le_T, le_F, lt_T, lt_F, eq_T, eq_F, Int.add_zero, Int.zero_add, Int.one_mul, Int.mul_one, up_eq, up_ne, Int.add_assoc, Int.add_sub_cancel, Int.sub_zero, Int.sub_self, H_122, q2]
  · rw [bZ_F (show ¬ k = kz by omega)]
    simp (disch := first | omega | exact okF _ | exact okI _ | exact okR _ | assumption | exact okN) only [S_191_0, S_191_1, S_191_4, S_191_5, S_191_8, S_191_9, S_191_12, S_191_13, S_191_16, S_191_17, S_191_20, S_191_21, u_at, iI_zero, iI_31, iI_add, iI_sub, iI_mul, iI_neg, ↓iI_max, ↓iI_min, iI_div, emod_f, iI_lt, iI_le, iI_inj, iI_toInt, ↓ii01, ↓ii11, ↓bI_b, bI_0, bI_1, Kt_s, Kt_n, cat0, cat1, cat2, cat3, cat4, rfV, Nat.reduceAdd, Nat.reduceMul, Nat.reduceEqDiff, Int.reduceAdd, Int.reduceSub, Int.reduceMul, Int.reduceNeg, Int.reduceLT, Int.reduceLE, Int.reduceEq, Int.reduceDiv, ↓reduceIte, ↓ite_ww, ↓ite_wi, Br_n, Br_TW, Br_FW, Br_FP, Br_FB, nn_p, and_true, true_and, and_self, true_or, or_true, not_true_eq_false, not_false_eq_true, le_T, le_F, lt_T, lt_F, eq_T, eq_F, Int.add_zero, Int.zero_add, Int.one_mul, Int.mul_one, up_eq, up_ne, Int.add_assoc, Int.add_sub_cancel, Int.sub_zero, Int.sub_self, H_122, q2]
  · have g := mwd_iff q1
    by_cases c : k = kz
    · rw [bZ_T c]
      have e : mwd k = z := by omega
      simp (disch := first | omega | exact okF _ | exact okI _ | exact okR _ | assumption | exact okN) only [S_191_0, S_191_1, S_191_4, S_191_5, S_191_8, S_191_9, S_191_12, S_191_13, S_191_16, S_191_17, S_191_20, S_191_21, u_at, iI_zero, iI_31, iI_add, iI_sub, iI_mul, iI_neg, ↓iI_max, ↓iI_min, iI_div, emod_f, iI_lt, iI_le, iI_inj, iI_toInt, ↓ii01, ↓ii11, ↓bI_b, bI_0, bI_1, Kt_s, Kt_n, cat0, cat1, cat2, cat3, cat4, rfV, Nat.reduceAdd, Nat.reduceMul, Nat.reduceEqDiff, Int.reduceAdd, Int.reduceSub, Int.reduceMul, Int.reduceNeg, Int.reduceLT, Int.reduceLE, Int.reduceEq, Int.reduceDiv, ↓reduceIte, ↓ite_ww, ↓ite_wi, Br_n, Br_TW, Br_FW, Br_FP, Br_FB, nn_p, and_true, true_and, and_self, true_or, or_true, not_true_eq_false, not_false_eq_true, le_T, le_F, lt_T, lt_F, eq_T, eq_F, Int.add_zero, Int.zero_add, Int.one_mul, Int.mul_one, up_eq, up_ne, Int.add_assoc, Int.add_sub_cancel, Int.sub_zero, Int.sub_self, H_122, q2, q3, e]
    · rw [bZ_F c]
      have e : ¬ mwd k = z := by omega
      simp (disch := first | omega | exact okF _ | exact okI _ | exact okR _ | assumption | exact okN) only [S_191_0, S_191_1, S_191_4, S_191_5, S_191_8, S_191_9, S_191_12, S_191_13, S_191_16, S_191_17, S_191_20, S_191_21, u_at, iI_zero, iI_31, iI_add, iI_sub, iI_mul, iI_neg, ↓iI_max, ↓iI_min, iI_div, emod_f, iI_lt, iI_le, iI_inj, iI_toInt, ↓ii01, ↓ii11, ↓bI_b, bI_0, bI_1, Kt_s, Kt_n, cat0, cat1, cat2, cat3, cat4, rfV, Nat.reduceAdd, Nat.reduceMul, Nat.reduceEqDiff, Int.reduceAdd, Int.reduceSub, Int.reduceMul, Int.reduceNeg, Int.reduceLT, Int.reduceLE, Int.reduceEq, Int.reduceDiv, ↓reduceIte, ↓ite_ww, ↓ite_wi, Br_n, Br_TW, Br_FW, Br_FP, Br_FB, nn_p, and_true, true_and, and_self, true_or, or_true, not_true_eq_false, not_false_eq_true, le_T, le_F, lt_T, lt_F, eq_T, eq_F, Int.add_zero, Int.zero_add, Int.one_mul, Int.mul_one, up_eq, up_ne, Int.add_assoc, Int.add_sub_cancel, Int.sub_zero, Int.sub_self, H_122, q2, q3, e]
  · rw [bZ_F (show ¬ k = kz by omega)]
    rcases q2 with q2 | ⟨q2, q3⟩
    · simp (disch := first | omega | exact okF _ | exact okI _ | exact okR _ | assumption | exact okN) only [S_191_0, S_191_1, S_191_4, S_191_5, S_191_8, S_191_9, S_191_12, S_191_13, S_191_16, S_191_17, S_191_20, S_191_21, u_at, iI_zero, iI_31, iI_add, iI_sub, iI_mul, iI_neg, ↓iI_max, ↓iI_min, iI_div, emod_f, iI_lt, iI_le, iI_inj, iI_toInt, ↓ii01, ↓ii11, ↓bI_b, bI_0, bI_1, Kt_s, Kt_n, cat0, cat1, cat2, cat3, cat4, rfV, Nat.reduceAdd, Nat.reduceMul, Nat.reduceEqDiff, Int.reduceAdd, Int.reduceSub, Int.reduceMul, Int.reduceNeg, Int.reduceLT, Int.reduceLE, Int.reduceEq, Int.reduceDiv, ↓reduceIte, ↓ite_ww, ↓ite_wi, Br_n, Br_TW, Br_FW, Br_FP, Br_FB, nn_p, and_true, true_and, and_self, true_or, or_true, not_true_eq_false, not_false_eq_true, le_T, le_F, lt_T, lt_F, eq_T, eq_F, Int.add_zero, Int.zero_add, Int.one_mul, Int.mul_one, up_eq, up_ne, Int.add_assoc, Int.add_sub_cancel, Int.sub_zero, Int.sub_self, H_122, q2]
    · simp (disch := first | omega | exact okF _ | exact okI _ | exact okR _ | assumption | exact okN) only [S_191_0, S_191_1, S_191_4, S_191_5, S_191_8, S_191_9, S_191_12, S_191_13, S_191_16, S_191_17, S_191_20, S_191_21, u_at, iI_zero, iI_31, iI_add, iI_sub, iI_mul, iI_neg, ↓iI_max, ↓iI_min, iI_div, emod_f, iI_lt, iI_le, iI_inj, iI_toInt, ↓ii01, ↓ii11, ↓bI_b, bI_0, bI_1, Kt_s, Kt_n, cat0, cat1, cat2, cat3, cat4, rfV, Nat.reduceAdd, Nat.reduceMul, Nat.reduceEqDiff, Int.reduceAdd, Int.reduceSub, Int.reduceMul, Int.reduceNeg, Int.reduceLT, Int.reduceLE, Int.reduceEq, Int.reduceDiv, ↓reduceIte, ↓ite_ww, ↓ite_wi, Br_n, Br_TW, Br_FW, Br_FP, Br_FB, nn_p, and_true, true_and, and_self, true_or, or_true, not_true_eq_false, not_false_eq_true, le_T, le_F, lt_T, lt_F, eq_T, eq_F, Int.add_zero, Int.zero_add, Int.one_mul, Int.mul_one, up_eq, up_ne, Int.add_assoc, Int.add_sub_cancel, Int.sub_zero, Int.sub_self, H_122, q2]
  · rw [bZ_F (show ¬ k = kz by omega)]
    simp (disch := first | omega | exact okF _ | exact okI _ | exact okR _ | assumption | exact okN) only [S_191_0, S_191_1, S_191_4, S_191_5, S_191_8, S_191_9, S_191_12, S_191_13, S_191_16, S_191_17, S_191_20, S_191_21, u_at, iI_zero, iI_31, iI_add, iI_sub, iI_mul, iI_neg, ↓iI_max, ↓iI_min, iI_div, emod_f, iI_lt, iI_le, iI_inj, iI_toInt, ↓ii01, ↓ii11, ↓bI_b, bI_0, bI_1, Kt_s, Kt_n, cat0, cat1, cat2, cat3, cat4, rfV, Nat.reduceAdd, Nat.reduceMul, Nat.reduceEqDiff, Int.reduceAdd, Int.reduceSub, Int.reduceMul, Int.reduceNeg, Int.reduceLT, Int.reduceLE, Int.reduceEq, Int.reduceDiv, ↓reduceIte, ↓ite_ww, ↓ite_wi, Br_n, Br_TW, Br_FW, Br_FP, Br_FB, nn_p, and_true, true_and, and_self, true_or, or_true, not_true_eq_false, not_false_eq_true, le_T, le_F, lt_T, lt_F, eq_T, eq_F, Int.add_zero, Int.zero_add, Int.one_mul, Int.mul_one, up_eq, up_ne, Int.add_assoc, Int.add_sub_cancel, Int.sub_zero, Int.sub_self, H_122, q2]
theorem m_errs (h : s 122016 0 = 0) : Wp d 192 0 [.ref 122, .int (iI x)] [] (hp X s) Q = Q none (hp X (u (u s 122016 (fun _ => x)) 122017 (fun _ => s 122013 0))) := by
  simp (disch := first | omega | exact okF _ | exact okI _ | exact okR _ | assumption | exact okN) only [S_192_0, S_192_1, S_192_4, S_192_7, S_192_8, S_192_9, S_192_12, S_192_13, S_192_14, S_192_17, S_192_20, u_at, iI_zero, iI_31, iI_add, iI_sub, iI_mul, iI_neg, ↓iI_max, ↓iI_min, iI_div, emod_f, iI_lt, iI_le, iI_inj, iI_toInt, ↓ii01, ↓ii11, ↓bI_b, bI_0, bI_1, Kt_s, Kt_n, cat0, cat1, cat2, cat3, cat4, rfV, Nat.reduceAdd, Nat.reduceMul, Nat.reduceEqDiff, Int.reduceAdd, Int.reduceSub, Int.reduceMul, Int.reduceNeg, Int.reduceLT, Int.reduceLE, Int.reduceEq, Int.reduceDiv, ↓reduceIte, ↓ite_ww, ↓ite_wi, Br_n, Br_TW, Br_FW, Br_FP, Br_FB, nn_p, and_true, true_and, and_self, true_or, or_true, not_true_eq_false, not_false_eq_true, le_T, le_F, lt_T, lt_F, eq_T, eq_F, Int.add_zero, Int.zero_add, Int.one_mul, Int.mul_one, up_eq, up_ne, Int.add_assoc, Int.add_sub_cancel, Int.sub_zero, Int.sub_self, H_122, h]
theorem m_emits (h : s 122030 0 = a) (ha : 0 ≤ a ∧ a < 400) : Wp d 193 0 [.ref 122, .int (iI o), .int (iI v)] [] (hp X s) Q = Q none (hp X (emt s a o v)) := by
  unfold emt
  simp (disch := first | omega | exact okF _ | exact okI _ | exact okR _ | assumption | exact okN) only [S_193_0, S_193_1, S_193_4, S_193_5, S_193_8, S_193_9, S_193_10, S_193_11, S_193_14, S_193_15, S_193_18, S_193_19, S_193_20, S_193_21, S_193_21_r, S_193_22, S_193_25, S_193_26, S_193_27, S_193_30, u_at, iI_zero, iI_31, iI_add, iI_sub, iI_mul, iI_neg, ↓iI_max, ↓iI_min, iI_div, emod_f, iI_lt, iI_le, iI_inj, iI_toInt, ↓ii01, ↓ii11, ↓bI_b, bI_0, bI_1, Kt_s, Kt_n, cat0, cat1, cat2, cat3, cat4, rfV, Nat.reduceAdd, Nat.reduceMul, Nat.reduceEqDiff, Int.reduceAdd, Int.reduceSub, Int.reduceMul, Int.reduceNeg, Int.reduceLT, Int.reduceLE, Int.reduceEq, Int.reduceDiv, ↓reduceIte, ↓ite_ww, ↓ite_wi, Br_n, Br_TW, Br_FW, Br_FP, Br_FB, nn_p, and_true, true_and, and_self, true_or, or_true, not_true_eq_false, not_false_eq_true, le_T, le_F, lt_T, lt_F, eq_T, eq_F, Int.add_zero, Int.zero_add, Int.one_mul, Int.mul_one, up_eq, up_ne, Int.add_assoc, Int.add_sub_cancel, Int.sub_zero, Int.sub_self, H_122, H_137, H_138, h]
theorem m_opensFrame (h : s 122019 0 = f) (hf : 0 ≤ f ∧ f < 40) : Wp d 194 0 [.ref 122, .int (iI x)] [] (hp X s) Q = Q none (hp X (opf s f x)) := by
  unfold opf
  simp (disch := first | omega | exact okF _ | exact okI _ | exact okR _ | assumption | exact okN) only [S_194_0, S_194_1, S_194_4, S_194_5, S_194_8, S_194_9, S_194_10, S_194_11, S_194_11_r, S_194_12, S_194_15, S_194_16, S_194_17, S_194_20, u_at, iI_zero, iI_31, iI_add, iI_sub, iI_mul, iI_neg, ↓iI_max, ↓iI_min, iI_div, emod_f, iI_lt, iI_le, iI_inj, iI_toInt, ↓ii01, ↓ii11, ↓bI_b, bI_0, bI_1, Kt_s, Kt_n, cat0, cat1, cat2, cat3, cat4, rfV, Nat.reduceAdd, Nat.reduceMul, Nat.reduceEqDiff, Int.reduceAdd, Int.reduceSub, Int.reduceMul, Int.reduceNeg, Int.reduceLT, Int.reduceLE, Int.reduceEq, Int.reduceDiv, ↓reduceIte, ↓ite_ww, ↓ite_wi, Br_n, Br_TW, Br_FW, Br_FP, Br_FB, nn_p, and_true, true_and, and_self, true_or, or_true, not_true_eq_false, not_false_eq_true, le_T, le_F, lt_T, lt_F, eq_T, eq_F, Int.add_zero, Int.zero_add, Int.one_mul, Int.mul_one, up_eq, up_ne, Int.add_assoc, Int.add_sub_cancel, Int.sub_zero, Int.sub_self, H_122, H_131, h]
theorem m_top (h : s 122019 0 = f) (hf : 1 ≤ f ∧ f ≤ 40) (e : s 131 (f - 1) = x) : Wp d 195 0 [.ref 122] [] (hp X s) Q = Q (some (.int (iI x))) (hp X s) := by
  simp (disch := first | omega | exact okF _ | exact okI _ | exact okR _ | assumption | exact okN) only [S_195_0, S_195_1, S_195_4, S_195_5, S_195_8, S_195_9, S_195_10, S_195_11, u_at, iI_zero, iI_31, iI_add, iI_sub, iI_mul, iI_neg, ↓iI_max, ↓iI_min, iI_div, emod_f, iI_lt, iI_le, iI_inj, iI_toInt, ↓ii01, ↓ii11, ↓bI_b, bI_0, bI_1, Kt_s, Kt_n, cat0, cat1, cat2, cat3, cat4, rfV, Nat.reduceAdd, Nat.reduceMul, Nat.reduceEqDiff, Int.reduceAdd, Int.reduceSub, Int.reduceMul, Int.reduceNeg, Int.reduceLT, Int.reduceLE, Int.reduceEq, Int.reduceDiv, ↓reduceIte, ↓ite_ww, ↓ite_wi, Br_n, Br_TW, Br_FW, Br_FP, Br_FB, nn_p, and_true, true_and, and_self, true_or, or_true, not_true_eq_false, not_false_eq_true, le_T, le_F, lt_T, lt_F, eq_T, eq_F, Int.add_zero, Int.zero_add, Int.one_mul, Int.mul_one, up_eq, up_ne, Int.add_assoc, Int.add_sub_cancel, Int.sub_zero, Int.sub_self, H_122, H_131, h, e]
theorem m_topF {q : Int × Int} (h : MR s (q :: F) W op c) (hf : F.length < 40) : Wp d 195 0 [.ref 122] [] (hp X s) Q = Q (some (.int (iI q.1))) (hp X s) := by
  obtain ⟨_, _, ⟨h3, h4⟩, _⟩ := h
  have el : ((q :: F).length : Int) = F.length + 1 := by simp
  rw [el] at h3
  exact m_top h3 (by omega) (by rw [Int.add_sub_cancel]; exact h4.1)
theorem m_rank (h : (-2147483648 ≤ o ∧ o < 2147483648)) : Wp d 197 0 [.int (iI o)] [] (hp X s) Q = Q (some (.int (iI (rkk o)))) (hp X s) := by
  refine wp_eq (fun rr hh er eh => ?_)
  repeat' (first | (with_reducible refine Br_i ?_ ?_ <;> (intro hbr; first | exact False.elim hbr | skip)) | (with_reducible refine Wl_i ?_) | (simp (disch := first | omega | exact okF _ | exact okI _ | exact okR _ | assumption | exact okN) only [u_at, iI_zero, iI_31, iI_add, iI_sub, iI_mul, iI_neg, ↓iI_max, ↓iI_min, iI_div, emod_f, iI_lt, iI_le, iI_inj, iI_toInt, ↓ii01, ↓ii11, ↓bI_b, bI_0, bI_1, Kt_s, Kt_n, cat0, cat1, cat2, cat3, cat4, rfV, Nat.reduceAdd, Nat.reduceMul, Nat.reduceEqDiff, Int.reduceAdd, Int.reduceSub, Int.reduceMul, Int.reduceNeg, Int.reduceLT, Int.reduceLE, Int.reduceEq, Int.reduceDiv, ↓reduceIte, ↓ite_ww, ↓ite_wi, Br_n, Br_TW, Br_FW, Br_FP, Br_FB, nn_p, and_true, true_and, and_self, true_or, or_true, not_true_eq_false, not_false_eq_true, le_T, le_F, lt_T, lt_F, eq_T, eq_F, Int.add_zero, Int.zero_add, Int.one_mul, Int.mul_one, up_eq, up_ne, Int.add_assoc, Int.add_sub_cancel, Int.sub_zero, Int.sub_self, S_197_0, S_197_1, S_197_4, S_197_7, S_197_8, S_197_11, S_197_12, S_197_15, S_197_18, S_197_19, S_197_22, S_197_23, S_197_25, S_197_28, S_197_29, S_197_31, S_197_34, S_197_35, S_197_38, S_197_39]))
  all_goals (subst er; subst eh)
  all_goals refine Re_I ?_ rfl
  all_goals unfold rkk
  all_goals (repeat' split)
  all_goals omega
theorem rkk_r (o : Int) : 1 ≤ rkk o ∧ rkk o ≤ 4 := by unfold rkk; (repeat' split) <;> omega
/-- the operators that wait are emitted down to the rank r -/
theorem m_works (hr : 1 ≤ r ∧ r ≤ 4) : ∀ (p : List Int) (s : sg) (c : opl), MR s F (p.map (fun o => (o, (F.length : Int))) ++ Wb) op c → (∀ o ∈ p, r ≤ rkk o ∧ (-2147483648 ≤ o ∧ o < 2147483648)) → Low r F.length Wb → (F.length ≤ 40 ∧ c.length + p.length < 400 ∧ p.length + Wb.length ≤ 80) → (∀ s', Fr [122022, 122030, 137, 138] s s' → MR s' F Wb op (c ++ p.map (fun o => (o, 0))) → Q none (hp X s')) → Wp (d + 1) 198 0 [.ref 122, .int (iI r)] [] (hp X s) Q
  | [], s, c, M, hp1, hl, hb, kk => by
    have kk2 := kk s (Fr.rf s) (by simp only [List.map_nil, List.append_nil] at M ⊢; exact M)
    obtain ⟨h1, h2, ⟨h3, h4⟩, ⟨h5, h6⟩, h7, h8, h9⟩ := M
    simp only [List.map_nil, List.nil_append] at h5 h6
    match Wb, hl, h5, h6, hb with
    | [], hl, h5, h6, hb =>
      have h5 : s 122022 0 = 0 := h5
      repeat' (first | (with_reducible refine Br_i ?_ ?_ <;> (intro hbr; first | exact False.elim hbr | skip)) | (with_reducible refine Wl_i ?_) | (simp (disch := first | omega | exact okF _ | exact okI _ | exact okR _ | assumption | exact okN) only [u_at, iI_zero, iI_31, iI_add, iI_sub, iI_mul, iI_neg, ↓iI_max, ↓iI_min, iI_div, emod_f, iI_lt, iI_le, iI_inj, iI_toInt, ↓ii01, ↓ii11, ↓bI_b, bI_0, bI_1, Kt_s, Kt_n, cat0, cat1, cat2, cat3, cat4, rfV, Nat.reduceAdd, Nat.reduceMul, Nat.reduceEqDiff, Int.reduceAdd, Int.reduceSub, Int.reduceMul, Int.reduceNeg, Int.reduceLT, Int.reduceLE, Int.reduceEq, Int.reduceDiv, ↓reduceIte, ↓ite_ww, ↓ite_wi, Br_n, Br_TW, Br_FW, Br_FP, Br_FB, nn_p, and_true, true_and, and_self, true_or, or_true, not_true_eq_false, not_false_eq_true, le_T, le_F, lt_T, lt_F, eq_T, eq_F, Int.add_zero, Int.zero_add, Int.one_mul, Int.mul_one, up_eq, up_ne, Int.add_assoc, Int.add_sub_cancel, Int.sub_zero, Int.sub_self, S_198_0, S_198_1, S_198_4, S_198_7, S_198_8, S_198_11, S_198_12, S_198_15, S_198_16, S_198_17, S_198_18, S_198_19, S_198_22, S_198_25, S_198_26, S_198_29, S_198_30, S_198_33, S_198_34, S_198_35, S_198_36, S_198_39, S_198_40, S_198_43, S_198_44, S_198_44_r, S_198_45, S_198_48, S_198_49, S_198_50, S_198_53, S_198_54, S_198_55, S_198_58, S_198_59, S_198_62, S_198_63, S_198_64, S_198_67, S_198_70, H_122, h5]))
      exact kk2
    | q :: W2, hl, h5, h6, hb =>
      have el : ((q :: W2).length : Int) = W2.length + 1 := by simp
      rw [el] at h5
      have hb2 := hb.2.2
      simp at hb2
      have e1 := h6.1
      have e2 := h6.2.1
      have rr := rkk_r q.1
      obtain ⟨⟨l1, l2⟩, l3⟩ := hl
      by_cases x : q.2 = (F.length : Int)
      · have l3 := l3 x
        have e3 : s 134 (W2.length : Int) = (F.length : Int) := e2.trans x
        repeat' (first | (with_reducible refine Br_i ?_ ?_ <;> (intro hbr; first | exact False.elim hbr | skip)) | (with_reducible refine Wl_i ?_) | (simp (disch := first | omega | exact okF _ | exact okI _ | exact okR _ | assumption | exact okN) only [u_at, iI_zero, iI_31, iI_add, iI_sub, iI_mul, iI_neg, ↓iI_max, ↓iI_min, iI_div, emod_f, iI_lt, iI_le, iI_inj, iI_toInt, ↓ii01, ↓ii11, ↓bI_b, bI_0, bI_1, Kt_s, Kt_n, cat0, cat1, cat2, cat3, cat4, rfV, Nat.reduceAdd, Nat.reduceMul, Nat.reduceEqDiff, Int.reduceAdd, Int.reduceSub, Int.reduceMul, Int.reduceNeg, Int.reduceLT, Int.reduceLE, Int.reduceEq, Int.reduceDiv, ↓reduceIte, ↓ite_ww, ↓ite_wi, Br_n, Br_TW, Br_FW, Br_FP, Br_FB, nn_p, and_true, true_and, and_self, true_or, or_true, not_true_eq_false, not_false_eq_true, le_T, le_F, lt_T, lt_F, eq_T, eq_F, Int.add_zero, Int.zero_add, Int.one_mul, Int.mul_one, up_eq, up_ne, Int.add_assoc, Int.add_sub_cancel, Int.sub_zero, Int.sub_self, S_198_0, S_198_1, S_198_4, S_198_7, S_198_8, S_198_11, S_198_12, S_198_15, S_198_16, S_198_17, S_198_18, S_198_19, S_198_22, S_198_25, S_198_26, S_198_29, S_198_30, S_198_33, S_198_34, S_198_35, S_198_36, S_198_39, S_198_40, S_198_43, S_198_44, S_198_44_r, S_198_45, S_198_48, S_198_49, S_198_50, S_198_53, S_198_54, S_198_55, S_198_58, S_198_59, S_198_62, S_198_63, S_198_64, S_198_67, S_198_70, H_122, H_133, H_134, h5, h3, e1, e3, m_rank]))
        exact kk2
      · repeat' (first | (with_reducible refine Br_i ?_ ?_ <;> (intro hbr; first | exact False.elim hbr | skip)) | (with_reducible refine Wl_i ?_) | (simp (disch := first | omega | exact okF _ | exact okI _ | exact okR _ | assumption | exact okN) only [u_at, iI_zero, iI_31, iI_add, iI_sub, iI_mul, iI_neg, ↓iI_max, ↓iI_min, iI_div, emod_f, iI_lt, iI_le, iI_inj, iI_toInt, ↓ii01, ↓ii11, ↓bI_b, bI_0, bI_1, Kt_s, Kt_n, cat0, cat1, cat2, cat3, cat4, rfV, Nat.reduceAdd, Nat.reduceMul, Nat.reduceEqDiff, Int.reduceAdd, Int.reduceSub, Int.reduceMul, Int.reduceNeg, Int.reduceLT, Int.reduceLE, Int.reduceEq, Int.reduceDiv, ↓reduceIte, ↓ite_ww, ↓ite_wi, Br_n, Br_TW, Br_FW, Br_FP, Br_FB, nn_p, and_true, true_and, and_self, true_or, or_true, not_true_eq_false, not_false_eq_true, le_T, le_F, lt_T, lt_F, eq_T, eq_F, Int.add_zero, Int.zero_add, Int.one_mul, Int.mul_one, up_eq, up_ne, Int.add_assoc, Int.add_sub_cancel, Int.sub_zero, Int.sub_self, S_198_0, S_198_1, S_198_4, S_198_7, S_198_8, S_198_11, S_198_12, S_198_15, S_198_16, S_198_17, S_198_18, S_198_19, S_198_22, S_198_25, S_198_26, S_198_29, S_198_30, S_198_33, S_198_34, S_198_35, S_198_36, S_198_39, S_198_40, S_198_43, S_198_44, S_198_44_r, S_198_45, S_198_48, S_198_49, S_198_50, S_198_53, S_198_54, S_198_55, S_198_58, S_198_59, S_198_62, S_198_63, S_198_64, S_198_67, S_198_70, H_122, H_133, H_134, h5, h3, e2]))
        exact kk2
  | o :: p, s, c, M, hp1, hl, hb, kk => by
    have h0 := hp1 o List.mem_cons_self
    have hb1 := hb.2.1
    have hb2 := hb.2.2
    simp at hb1 hb2
    have M0 := M
    obtain ⟨h1, h2, ⟨h3, h4⟩, ⟨h5, h6⟩, h7, h8, h9⟩ := M
    have el : (((o :: p).map (fun o => (o, (F.length : Int))) ++ Wb).length : Int) = (p.map (fun o => (o, (F.length : Int))) ++ Wb).length + 1 := by simp
    have lw : ((p.map (fun o => (o, (F.length : Int))) ++ Wb).length : Int) = p.length + Wb.length := by simp
    rw [el] at h5
    have e1 : s 133 (p.map (fun o => (o, (F.length : Int))) ++ Wb).length = o := h6.1
    have e2 : s 134 (p.map (fun o => (o, (F.length : Int))) ++ Wb).length = (F.length : Int) := h6.2.1
    have h6 := h6.2.2
    have h6 : stkW s (p.map (fun o => (o, (F.length : Int))) ++ Wb) := h6
    rw [lw] at h5 e1 e2
    obtain ⟨N, eN⟩ : ∃ N : Int, N = p.length + Wb.length := ⟨_, rfl⟩
    rw [← eN] at h5 e1 e2 lw
    have rr := rkk_r o
    obtain ⟨s2, e3⟩ : ∃ s2, s2 = emt (u s 122022 (fun _ => N)) c.length o 0 := ⟨_, rfl⟩
    have M2 : MR s2 F (p.map (fun o => (o, (F.length : Int))) ++ Wb) op (c ++ [(o, 0)]) := by
      rw [e3]
      exact MR_emt ⟨h1, h2, ⟨h3, (by refine stkF_cg (s := s) ?_ ?_ h4 <;> rfl)⟩, ⟨by rw [u_eq]; omega, (by refine stkW_cg (s := s) ?_ ?_ h6 <;> rfl)⟩, h7, h8, h9⟩
    have f2 : Fr [122022, 122030, 137, 138] s s2 := by
      rw [e3]
      exact ((Fr.rf s).u rfl).tr (emt_fr.up rfl)
    have ih := m_works hr p s2 (c ++ [(o, 0)]) M2 (fun x hx => hp1 x (List.mem_cons_of_mem _ hx)) hl (by simp; omega) (fun s' f' M' => kk s' (f2.tr f') (by
      rw [List.map_cons]
      have q : c ++ [(o, 0)] ++ p.map (fun o => (o, (0 : Int))) = c ++ (o, 0) :: p.map (fun o => (o, (0 : Int))) := by simp
      rw [← q]
      exact M'))
    have em := fun (d : Nat) (Q : Option Value → aH → Prop) (v : Int) => m_emits (d := d) (X := X) (Q := Q) (s := u s 122022 (fun _ => N)) (a := c.length) (o := o) (v := v) h7 (by omega)
    rw [e3] at ih
    rw [S_198_0]
    repeat' (first | (with_reducible refine Br_i ?_ ?_ <;> (intro hbr; first | exact False.elim hbr | skip)) | (with_reducible refine Wl_i ?_) | (simp (disch := first | omega | exact okF _ | exact okI _ | exact okR _ | assumption | exact okN) only [u_at, iI_zero, iI_31, iI_add, iI_sub, iI_mul, iI_neg, ↓iI_max, ↓iI_min, iI_div, emod_f, iI_lt, iI_le, iI_inj, iI_toInt, ↓ii01, ↓ii11, ↓bI_b, bI_0, bI_1, Kt_s, Kt_n, cat0, cat1, cat2, cat3, cat4, rfV, Nat.reduceAdd, Nat.reduceMul, Nat.reduceEqDiff, Int.reduceAdd, Int.reduceSub, Int.reduceMul, Int.reduceNeg, Int.reduceLT, Int.reduceLE, Int.reduceEq, Int.reduceDiv, ↓reduceIte, ↓ite_ww, ↓ite_wi, Br_n, Br_TW, Br_FW, Br_FP, Br_FB, nn_p, and_true, true_and, and_self, true_or, or_true, not_true_eq_false, not_false_eq_true, le_T, le_F, lt_T, lt_F, eq_T, eq_F, Int.add_zero, Int.zero_add, Int.one_mul, Int.mul_one, up_eq, up_ne, Int.add_assoc, Int.add_sub_cancel, Int.sub_zero, Int.sub_self, S_198_1, S_198_4, S_198_7, S_198_8, S_198_11, S_198_12, S_198_15, S_198_16, S_198_17, S_198_18, S_198_19, S_198_22, S_198_25, S_198_26, S_198_29, S_198_30, S_198_33, S_198_34, S_198_35, S_198_36, S_198_39, S_198_40, S_198_43, S_198_44, S_198_44_r, S_198_45, S_198_48, S_198_49, S_198_50, S_198_53, S_198_54, S_198_55, S_198_58, S_198_59, S_198_62, S_198_63, S_198_64, S_198_67, S_198_70, H_122, H_133, H_134, h5, h3, e1, e2, m_rank, em]))
    exact ih
end MP
