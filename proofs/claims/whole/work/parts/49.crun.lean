/-! THE CLASS: a year run -/
/-- a year's rows of the class, at the cell Y -/
def RC (Y : Nat) (s : sg) (R : yr) : Prop := (∀ m, 0 ≤ m → m < 6 → s (Y + 3) m = R.1 m ∧ s (Y + 2) m = R.2.1 m) ∧ (∀ o, 0 ≤ o → o < 22 → s (Y + 1) o = R.2.2.1 o) ∧ ∀ b, 0 ≤ b → b < 10 → s (Y + 4) b = R.2.2.2.1 b ∧ s (Y + 5) b = R.2.2.2.2 b
/-- how many were sold to the first j buyers -/
noncomputable def ysum (A : Int → Int) (l : lawT) (n j : Int) : Int := sm (fun b => A (100 + 6 * b) - (ysv A l n b (yrun A l n b)).1) j
theorem CO_fr {L : List Nat} {s s2 : sg} {A : Int → Int} {l : lawT} {o : Int} (f : Fr L s s2) (h2 : A 2 ≤ 10) (w : (nin 88 L && nin 89 L && nin 90 L && nin 91 L && nin 92 L && nin 93 L && nin 95 L && nin 96 L && nin 97 L && nin 98 L && nin 99 L && nin 100 L && nin 101 L && nin 102 L && nin 103 L && nin 104 L) = true) (h : CO A l o s) : CO A l o s2 := by
  simp only [Bool.and_eq_true] at w
  obtain ⟨⟨⟨⟨⟨⟨⟨⟨⟨⟨⟨⟨⟨⟨⟨a, b⟩, c⟩, d⟩, e⟩, g⟩, x0⟩, x1⟩, x2⟩, x3⟩, x4⟩, x5⟩, x6⟩, x7⟩, x8⟩, x9⟩ := w
  refine CO_same h2 h ⟨congrFun (f _ a) o, congrFun (f _ b) o, congrFun (f _ c) o, congrFun (f _ d) o, congrFun (f _ e) o, congrFun (f _ g) o, fun z z0 z1 => ?_⟩
  have k : z = 0 ∨ z = 1 ∨ z = 2 ∨ z = 3 ∨ z = 4 ∨ z = 5 ∨ z = 6 ∨ z = 7 ∨ z = 8 ∨ z = 9 := by omega
  rcases k with q | q | q | q | q | q | q | q | q | q <;> subst q
  · exact congrFun (f 95 x0) o
  · exact congrFun (f 96 x1) o
  · exact congrFun (f 97 x2) o
  · exact congrFun (f 98 x3) o
  · exact congrFun (f 99 x4) o
  · exact congrFun (f 100 x5) o
  · exact congrFun (f 101 x6) o
  · exact congrFun (f 102 x7) o
  · exact congrFun (f 103 x8) o
  · exact congrFun (f 104 x9) o
section CR
variable {d : Nat} {X : hX} {s : sg} {Q : Option Value → aH → Prop} {b n o v : Int} {A : Int → Int} {l : lawT}
theorem c_serve_l_60 {v2 : Value} (W : WF0 A) (hw : ∀ o, 0 ≤ o → o < n → WO A o) (hm : ∀ o, 0 ≤ o → o < n → CO A l o s) (hn : 0 ≤ n ∧ n ≤ 22) (hb : 0 ≤ b ∧ b < A 2) {r : yst} (k : ∀ s', Fr [61, 62, 63, 65] s s' → (∀ m, 0 ≤ m → m < 6 → s' 63 m = r.2.1 m ∧ s' 62 m = r.2.2.1 m) → (∀ o, 0 ≤ o → o < 22 → s' 61 o = r.2.2.2.1 o) → s' 65 b = r.2.2.2.2 → (∀ z, 0 ≤ z → ¬ z = b → s' 65 z = s 65 z) → Q (some (.int (iI r.1))) (hp X s')) : ∀ (f : Nat) (s1 : sg) (y : yst), Fr [61, 62, 63, 65] s s1 → yOK A y → (∀ m, 0 ≤ m → m < 6 → s1 63 m = y.2.1 m ∧ s1 62 m = y.2.2.1 m) → (∀ o, 0 ≤ o → o < 22 → s1 61 o = y.2.2.2.1 o) → s1 65 b = y.2.2.2.2 → (∀ z, 0 ≤ z → ¬ z = b → s1 65 z = s 65 z) → srv A l n b f y = r → ∀ t : Int, (0 ≤ t ∧ t + f = n) → ∀ v7 v8 v9 v10 v11, okO v7 = true → okO v8 = true → okO v9 = true → okO v10 = true → okO v11 = true → Wp (d + 3) 38 6 [.ref 87, .int (iI b), v2, .int (iI n), .ref 60, .int (iI y.1), .int (iI t), v7, v8, v9, v10, v11] [] (hp X s1) Q := by
  intro f
  have w2 := W.1.2.2.1
  have w1 := W.1.2.1
  induction f with
  | zero =>
    intro s1 y hf hy h8 h1 h0 hz e t ht v7 v8 v9 v10 v11 o7 o8 o9 o10 o11
    have e : y = r := e
    subst e
    have hy1 := hy.1
    repeat' (first | (with_reducible refine Br_i ?_ ?_ <;> (intro hbr; first | exact False.elim hbr | skip)) | (with_reducible refine Wl_i ?_) | (simp (disch := first | omega | exact okF _ | exact okI _ | exact okR _ | assumption | exact okN) only [u_at, iI_zero, iI_31, iI_add, iI_sub, iI_mul, iI_neg, ↓iI_max, ↓iI_min, iI_div, emod_f, iI_lt, iI_le, iI_inj, iI_toInt, ↓ii01, ↓ii11, ↓bI_b, bI_0, bI_1, Kt_s, Kt_n, cat0, cat1, cat2, cat3, cat4, rfV, Nat.reduceAdd, Nat.reduceMul, Nat.reduceEqDiff, Int.reduceAdd, Int.reduceSub, Int.reduceMul, Int.reduceNeg, Int.reduceLT, Int.reduceLE, Int.reduceEq, Int.reduceDiv, ↓reduceIte, ↓ite_ww, ↓ite_wi, Br_n, Br_TW, Br_FW, Br_FP, Br_FB, nn_p, and_true, true_and, and_self, true_or, or_true, not_true_eq_false, not_false_eq_true, le_T, le_F, lt_T, lt_F, eq_T, eq_F, Int.add_zero, Int.zero_add, Int.one_mul, Int.mul_one, up_eq, up_ne, Int.add_assoc, Int.add_sub_cancel, Int.sub_zero, Int.sub_self, S_38_0, S_38_1, S_38_3, S_38_4, S_38_6, S_38_8, S_38_9, S_38_12, S_38_14, S_38_17, S_38_18, S_38_19, S_38_20, S_38_22, S_38_25, S_38_27, S_38_29, S_38_30, S_38_33, S_38_35, S_38_36, S_38_37, S_38_40, S_38_42, S_38_45, S_38_47, S_38_48, S_38_49, S_38_52, S_38_54, S_38_57, S_38_60, S_38_62, S_38_64, S_38_66, S_38_69, S_38_71, S_38_74, S_38_76, S_38_77, S_38_80, S_38_82, S_38_83, S_38_86, S_38_88, S_38_91, S_38_92, S_38_95, S_38_97, S_38_100, S_38_101, S_38_103, S_38_105, S_38_107, S_38_108, S_38_110, S_38_112, S_38_115, S_38_117, S_38_119, S_38_120, S_38_122, S_38_123, S_38_126, S_38_128, S_38_131, S_38_133, S_38_135, S_38_138, S_38_140, S_38_143, S_38_145, S_38_147, S_38_149, S_38_150, S_38_153, S_38_155, S_38_158, S_38_159, S_38_161, S_38_162, S_38_163, S_38_165, S_38_168, S_38_169, S_38_172, S_38_175, S_38_178, S_38_180]))
    exact k s1 hf h8 h1 h0 hz
  | succ f ih =>
    intro s1 y hf hy h8 h1 h0 hz e t ht v7 v8 v9 v10 v11 o7 o8 o9 o10 o11
    have hy1 := hy.1
    have fv := fun (d : Nat) (Q : Option Value → aH → Prop) => c_favourite_60 (d := d) (X := X) (Q := Q) (s := s1) (y := y) W hw (fun o o0 o1 => CO_fr hf w2.2 rfl (hm o o0 o1)) hn hb (fun m m0 m1 => (h8 m m0 (by omega)).1) hy
    unfold srv at e
    rw [S_38_6]
    by_cases c1 : y.1 ≤ 0
    · rw [if_pos (Or.inl c1)] at e
      subst e
      repeat' (first | (with_reducible refine Br_i ?_ ?_ <;> (intro hbr; first | exact False.elim hbr | skip)) | (with_reducible refine Wl_i ?_) | (simp (disch := first | omega | exact okF _ | exact okI _ | exact okR _ | assumption | exact okN) only [u_at, iI_zero, iI_31, iI_add, iI_sub, iI_mul, iI_neg, ↓iI_max, ↓iI_min, iI_div, emod_f, iI_lt, iI_le, iI_inj, iI_toInt, ↓ii01, ↓ii11, ↓bI_b, bI_0, bI_1, Kt_s, Kt_n, cat0, cat1, cat2, cat3, cat4, rfV, Nat.reduceAdd, Nat.reduceMul, Nat.reduceEqDiff, Int.reduceAdd, Int.reduceSub, Int.reduceMul, Int.reduceNeg, Int.reduceLT, Int.reduceLE, Int.reduceEq, Int.reduceDiv, ↓reduceIte, ↓ite_ww, ↓ite_wi, Br_n, Br_TW, Br_FW, Br_FP, Br_FB, nn_p, and_true, true_and, and_self, true_or, or_true, not_true_eq_false, not_false_eq_true, le_T, le_F, lt_T, lt_F, eq_T, eq_F, Int.add_zero, Int.zero_add, Int.one_mul, Int.mul_one, up_eq, up_ne, Int.add_assoc, Int.add_sub_cancel, Int.sub_zero, Int.sub_self, S_38_0, S_38_1, S_38_3, S_38_4, S_38_8, S_38_9, S_38_12, S_38_14, S_38_17, S_38_18, S_38_19, S_38_20, S_38_22, S_38_25, S_38_27, S_38_29, S_38_30, S_38_33, S_38_35, S_38_36, S_38_37, S_38_40, S_38_42, S_38_45, S_38_47, S_38_48, S_38_49, S_38_52, S_38_54, S_38_57, S_38_60, S_38_62, S_38_64, S_38_66, S_38_69, S_38_71, S_38_74, S_38_76, S_38_77, S_38_80, S_38_82, S_38_83, S_38_86, S_38_88, S_38_91, S_38_92, S_38_95, S_38_97, S_38_100, S_38_101, S_38_103, S_38_105, S_38_107, S_38_108, S_38_110, S_38_112, S_38_115, S_38_117, S_38_119, S_38_120, S_38_122, S_38_123, S_38_126, S_38_128, S_38_131, S_38_133, S_38_135, S_38_138, S_38_140, S_38_143, S_38_145, S_38_147, S_38_149, S_38_150, S_38_153, S_38_155, S_38_158, S_38_159, S_38_161, S_38_162, S_38_163, S_38_165, S_38_168, S_38_169, S_38_172, S_38_175, S_38_178, S_38_180]))
      exact k s1 hf h8 h1 h0 hz
    · by_cases c2 : yfav A l n b y = -1
      · rw [if_pos (Or.inr c2)] at e
        subst e
        repeat' (first | (with_reducible refine Br_i ?_ ?_ <;> (intro hbr; first | exact False.elim hbr | skip)) | (with_reducible refine Wl_i ?_) | (simp (disch := first | omega | exact okF _ | exact okI _ | exact okR _ | assumption | exact okN) only [u_at, iI_zero, iI_31, iI_add, iI_sub, iI_mul, iI_neg, ↓iI_max, ↓iI_min, iI_div, emod_f, iI_lt, iI_le, iI_inj, iI_toInt, ↓ii01, ↓ii11, ↓bI_b, bI_0, bI_1, Kt_s, Kt_n, cat0, cat1, cat2, cat3, cat4, rfV, Nat.reduceAdd, Nat.reduceMul, Nat.reduceEqDiff, Int.reduceAdd, Int.reduceSub, Int.reduceMul, Int.reduceNeg, Int.reduceLT, Int.reduceLE, Int.reduceEq, Int.reduceDiv, ↓reduceIte, ↓ite_ww, ↓ite_wi, Br_n, Br_TW, Br_FW, Br_FP, Br_FB, nn_p, and_true, true_and, and_self, true_or, or_true, not_true_eq_false, not_false_eq_true, le_T, le_F, lt_T, lt_F, eq_T, eq_F, Int.add_zero, Int.zero_add, Int.one_mul, Int.mul_one, up_eq, up_ne, Int.add_assoc, Int.add_sub_cancel, Int.sub_zero, Int.sub_self, S_38_0, S_38_1, S_38_3, S_38_4, S_38_8, S_38_9, S_38_12, S_38_14, S_38_17, S_38_18, S_38_19, S_38_20, S_38_22, S_38_25, S_38_27, S_38_29, S_38_30, S_38_33, S_38_35, S_38_36, S_38_37, S_38_40, S_38_42, S_38_45, S_38_47, S_38_48, S_38_49, S_38_52, S_38_54, S_38_57, S_38_60, S_38_62, S_38_64, S_38_66, S_38_69, S_38_71, S_38_74, S_38_76, S_38_77, S_38_80, S_38_82, S_38_83, S_38_86, S_38_88, S_38_91, S_38_92, S_38_95, S_38_97, S_38_100, S_38_101, S_38_103, S_38_105, S_38_107, S_38_108, S_38_110, S_38_112, S_38_115, S_38_117, S_38_119, S_38_120, S_38_122, S_38_123, S_38_126, S_38_128, S_38_131, S_38_133, S_38_135, S_38_138, S_38_140, S_38_143, S_38_145, S_38_147, S_38_149, S_38_150, S_38_153, S_38_155, S_38_158, S_38_159, S_38_161, S_38_162, S_38_163, S_38_165, S_38_168, S_38_169, S_38_172, S_38_175, S_38_178, S_38_180, H_87, fv, c2]))
        exact k s1 hf h8 h1 h0 hz
      · rw [if_neg (fun q => q.elim c1 c2)] at e
        rcases fav_r (P := avl A l y.2.1) (v := oOver A l b) hn.1 with ⟨q, _⟩ | ⟨f0, f1, f2, f3⟩
        · exact absurd q c2
        · have f0 : 0 ≤ yfav A l n b y := f0
          have f1 : yfav A l n b y < n := f1
          have f3 : 0 ≤ oOver A l b (yfav A l n b y) := f3
          have hO := hw _ f0 f1
          have hp0 := oH_p (l := l) hO f3
          have rh := oH_r (l := l) hO
          obtain ⟨m1, m2, m3, -, -, m6, m7⟩ := CO_fr hf w2.2 rfl (hm _ f0 f1)
          have m1 : s1 88 (yfav A l n b y) = oH A l (yfav A l n b y) := m1
          have m2 : s1 89 (yfav A l n b y) = oP A l (yfav A l n b y) := m2
          have m3 : s1 90 (yfav A l n b y) = oC A l (yfav A l n b y) := m3
          have m7 := m7 b hb.1 hb.2
          have so := ystep_ok (b := b) hy hO hp0
          obtain ⟨t1, t2, t3⟩ := ytk_r hy hO hp0
          have ho1 := hO.1
          obtain ⟨l1, l2⟩ := h8 (A (180 + 13 * (yfav A l n b y))) (by omega) (by omega)
          have l3 := h1 _ f0 (by omega)
          have ly := hy.2 _ hO.1.1 hO.1.2
          have ty : min y.1 (y.2.1 (A (180 + 13 * (yfav A l n b y))) / oH A l (yfav A l n b y)) = ytk A l (yfav A l n b y) y := rfl
          have em : max 1 (oH A l (yfav A l n b y)) = oH A l (yfav A l n b y) := by omega
          have d0 : 0 ≤ y.2.1 (A (180 + 13 * (yfav A l n b y))) / oH A l (yfav A l n b y) := Int.ediv_nonneg ly.1 (by omega)
          have d1 : y.2.1 (A (180 + 13 * (yfav A l n b y))) / oH A l (yfav A l n b y) ≤ y.2.1 (A (180 + 13 * (yfav A l n b y))) := Int.ediv_le_self _ ly.1
          have kn : ¬ 95 + b.toNat = 61 ∧ ¬ 95 + b.toNat = 62 ∧ ¬ 95 + b.toNat = 63 ∧ ¬ 95 + b.toNat = 65 := by omega
          have nq : y.2.1 (A (180 + 13 * (yfav A l n b y))) + -ytk A l (yfav A l n b y) y * oH A l (yfav A l n b y) = y.2.1 (A (180 + 13 * (yfav A l n b y))) - ytk A l (yfav A l n b y) y * oH A l (yfav A l n b y) := by rw [Int.neg_mul]; omega
          have bb : (0 ≤ b ∧ b < 10) ∧ 0 ≤ yfav A l n b y ∧ yfav A l n b y < 22 := by omega
          have ov := fun (d : Nat) (s : sg) (Q : Option Value → aH → Prop) => c_overTo (d := d) (X := X) (s := s) (Q := Q) bb
          have nx : ∀ v7 v8 v9 v10 v11, okO v7 = true → okO v8 = true → okO v9 = true → okO v10 = true → okO v11 = true → Wp (d + 3) 38 6 [.ref 87, .int (iI b), v2, .int (iI n), .ref 60, .int (iI (y.1 - ytk A l (yfav A l n b y) y)), .int (iI (t + 1)), v7, v8, v9, v10, v11] [] (hp X (u (u (u (u s1 63 (up (s1 63) (A (180 + 13 * (yfav A l n b y))) (y.2.1 (A (180 + 13 * (yfav A l n b y))) - ytk A l (yfav A l n b y) y * oH A l (yfav A l n b y)))) 61 (up (s1 61) (yfav A l n b y) (y.2.2.2.1 (yfav A l n b y) + ytk A l (yfav A l n b y) y))) 62 (up (s1 62) (A (180 + 13 * (yfav A l n b y))) (y.2.2.1 (A (180 + 13 * (yfav A l n b y))) + ytk A l (yfav A l n b y) y * (oP A l (yfav A l n b y) - oC A l (yfav A l n b y))))) 65 (up (s1 65) b (y.2.2.2.2 + ytk A l (yfav A l n b y) y * oOver A l b (yfav A l n b y))))) Q := by
            intro v7 v8 v9 v10 v11 o7 o8 o9 o10 o11
            refine ih _ (ystep A l b (yfav A l n b y) y) ?_ so ?_ ?_ ?_ ?_ e (t + 1) (by omega) v7 v8 v9 v10 v11 o7 o8 o9 o10 o11
            · exact (((hf.u rfl).u rfl).u rfl).u rfl
            · intro m z0 z1
              show up (s1 63) _ _ m = up y.2.1 _ _ m ∧ up (s1 62) _ _ m = up y.2.2.1 _ _ m
              simp only [up_at]
              by_cases q : m = A (180 + 13 * (yfav A l n b y))
              · rw [if_pos q, if_pos q, if_pos q, if_pos q]
                exact ⟨rfl, rfl⟩
              · rw [if_neg q, if_neg q, if_neg q, if_neg q]
                exact h8 m z0 z1
            · intro z z0 z1
              show up (s1 61) _ _ z = up y.2.2.2.1 _ _ z
              simp only [up_at]
              by_cases q : z = yfav A l n b y
              · rw [if_pos q, if_pos q]
              · rw [if_neg q, if_neg q]
                exact h1 z z0 z1
            · show up (s1 65) b _ b = _
              rw [up_eq rfl]
              rfl
            · intro z z0 z1
              show up (s1 65) b _ z = _
              rw [up_ne z1]
              exact hz z z0 z1
          repeat' (first | (with_reducible refine Br_i ?_ ?_ <;> (intro hbr; first | exact False.elim hbr | skip)) | (with_reducible refine Wl_i ?_) | (simp (disch := first | omega | exact okF _ | exact okI _ | exact okR _ | assumption | exact okN) only [u_at, iI_zero, iI_31, iI_add, iI_sub, iI_mul, iI_neg, ↓iI_max, ↓iI_min, iI_div, emod_f, iI_lt, iI_le, iI_inj, iI_toInt, ↓ii01, ↓ii11, ↓bI_b, bI_0, bI_1, Kt_s, Kt_n, cat0, cat1, cat2, cat3, cat4, rfV, Nat.reduceAdd, Nat.reduceMul, Nat.reduceEqDiff, Int.reduceAdd, Int.reduceSub, Int.reduceMul, Int.reduceNeg, Int.reduceLT, Int.reduceLE, Int.reduceEq, Int.reduceDiv, ↓reduceIte, ↓ite_ww, ↓ite_wi, Br_n, Br_TW, Br_FW, Br_FP, Br_FB, nn_p, and_true, true_and, and_self, true_or, or_true, not_true_eq_false, not_false_eq_true, le_T, le_F, lt_T, lt_F, eq_T, eq_F, Int.add_zero, Int.zero_add, Int.one_mul, Int.mul_one, up_eq, up_ne, Int.add_assoc, Int.add_sub_cancel, Int.sub_zero, Int.sub_self, S_38_0, S_38_1, S_38_3, S_38_4, S_38_8, S_38_9, S_38_12, S_38_14, S_38_17, S_38_18, S_38_19, S_38_20, S_38_22, S_38_25, S_38_27, S_38_29, S_38_30, S_38_33, S_38_35, S_38_36, S_38_37, S_38_40, S_38_42, S_38_45, S_38_47, S_38_48, S_38_49, S_38_52, S_38_54, S_38_57, S_38_60, S_38_62, S_38_64, S_38_66, S_38_69, S_38_71, S_38_74, S_38_76, S_38_77, S_38_80, S_38_82, S_38_83, S_38_86, S_38_88, S_38_91, S_38_92, S_38_95, S_38_97, S_38_100, S_38_101, S_38_103, S_38_105, S_38_107, S_38_108, S_38_110, S_38_112, S_38_115, S_38_117, S_38_119, S_38_120, S_38_122, S_38_123, S_38_126, S_38_128, S_38_131, S_38_133, S_38_135, S_38_138, S_38_140, S_38_143, S_38_145, S_38_147, S_38_149, S_38_150, S_38_153, S_38_155, S_38_158, S_38_159, S_38_161, S_38_162, S_38_163, S_38_165, S_38_168, S_38_169, S_38_172, S_38_175, S_38_178, S_38_180, H_87, H_60, c_cell_88, c_cell_89, c_cell_90, c_cell_93, c_cell_63, c_raise_61, c_raise_62, c_raise_63, c_raise_65, fv, ov, kn, m1, m2, m3, m6, m7, l1, l2, l3, h0, em, ty, nq]))
          exact nx _ _ _ _ _ (okI _) (okI _) (okI _) (okI _) (okI _)
theorem c_serve_l_106 {v2 : Value} (W : WF0 A) (hw : ∀ o, 0 ≤ o → o < n → WO A o) (hm : ∀ o, 0 ≤ o → o < n → CO A l o s) (hn : 0 ≤ n ∧ n ≤ 22) (hb : 0 ≤ b ∧ b < A 2) {r : yst} (k : ∀ s', Fr [107, 108, 109, 111] s s' → (∀ m, 0 ≤ m → m < 6 → s' 109 m = r.2.1 m ∧ s' 108 m = r.2.2.1 m) → (∀ o, 0 ≤ o → o < 22 → s' 107 o = r.2.2.2.1 o) → s' 111 b = r.2.2.2.2 → (∀ z, 0 ≤ z → ¬ z = b → s' 111 z = s 111 z) → Q (some (.int (iI r.1))) (hp X s')) : ∀ (f : Nat) (s1 : sg) (y : yst), Fr [107, 108, 109, 111] s s1 → yOK A y → (∀ m, 0 ≤ m → m < 6 → s1 109 m = y.2.1 m ∧ s1 108 m = y.2.2.1 m) → (∀ o, 0 ≤ o → o < 22 → s1 107 o = y.2.2.2.1 o) → s1 111 b = y.2.2.2.2 → (∀ z, 0 ≤ z → ¬ z = b → s1 111 z = s 111 z) → srv A l n b f y = r → ∀ t : Int, (0 ≤ t ∧ t + f = n) → ∀ v7 v8 v9 v10 v11, okO v7 = true → okO v8 = true → okO v9 = true → okO v10 = true → okO v11 = true → Wp (d + 3) 38 6 [.ref 87, .int (iI b), v2, .int (iI n), .ref 106, .int (iI y.1), .int (iI t), v7, v8, v9, v10, v11] [] (hp X s1) Q := by
  intro f
  have w2 := W.1.2.2.1
  have w1 := W.1.2.1
  induction f with
  | zero =>
    intro s1 y hf hy h8 h1 h0 hz e t ht v7 v8 v9 v10 v11 o7 o8 o9 o10 o11
    have e : y = r := e
    subst e
    have hy1 := hy.1
    repeat' (first | (with_reducible refine Br_i ?_ ?_ <;> (intro hbr; first | exact False.elim hbr | skip)) | (with_reducible refine Wl_i ?_) | (simp (disch := first | omega | exact okF _ | exact okI _ | exact okR _ | assumption | exact okN) only [u_at, iI_zero, iI_31, iI_add, iI_sub, iI_mul, iI_neg, ↓iI_max, ↓iI_min, iI_div, emod_f, iI_lt, iI_le, iI_inj, iI_toInt, ↓ii01, ↓ii11, ↓bI_b, bI_0, bI_1, Kt_s, Kt_n, cat0, cat1, cat2, cat3, cat4, rfV, Nat.reduceAdd, Nat.reduceMul, Nat.reduceEqDiff, Int.reduceAdd, Int.reduceSub, Int.reduceMul, Int.reduceNeg, Int.reduceLT, Int.reduceLE, Int.reduceEq, Int.reduceDiv, ↓reduceIte, ↓ite_ww, ↓ite_wi, Br_n, Br_TW, Br_FW, Br_FP, Br_FB, nn_p, and_true, true_and, and_self, true_or, or_true, not_true_eq_false, not_false_eq_true, le_T, le_F, lt_T, lt_F, eq_T, eq_F, Int.add_zero, Int.zero_add, Int.one_mul, Int.mul_one, up_eq, up_ne, Int.add_assoc, Int.add_sub_cancel, Int.sub_zero, Int.sub_self, S_38_0, S_38_1, S_38_3, S_38_4, S_38_6, S_38_8, S_38_9, S_38_12, S_38_14, S_38_17, S_38_18, S_38_19, S_38_20, S_38_22, S_38_25, S_38_27, S_38_29, S_38_30, S_38_33, S_38_35, S_38_36, S_38_37, S_38_40, S_38_42, S_38_45, S_38_47, S_38_48, S_38_49, S_38_52, S_38_54, S_38_57, S_38_60, S_38_62, S_38_64, S_38_66, S_38_69, S_38_71, S_38_74, S_38_76, S_38_77, S_38_80, S_38_82, S_38_83, S_38_86, S_38_88, S_38_91, S_38_92, S_38_95, S_38_97, S_38_100, S_38_101, S_38_103, S_38_105, S_38_107, S_38_108, S_38_110, S_38_112, S_38_115, S_38_117, S_38_119, S_38_120, S_38_122, S_38_123, S_38_126, S_38_128, S_38_131, S_38_133, S_38_135, S_38_138, S_38_140, S_38_143, S_38_145, S_38_147, S_38_149, S_38_150, S_38_153, S_38_155, S_38_158, S_38_159, S_38_161, S_38_162, S_38_163, S_38_165, S_38_168, S_38_169, S_38_172, S_38_175, S_38_178, S_38_180]))
    exact k s1 hf h8 h1 h0 hz
  | succ f ih =>
    intro s1 y hf hy h8 h1 h0 hz e t ht v7 v8 v9 v10 v11 o7 o8 o9 o10 o11
    have hy1 := hy.1
    have fv := fun (d : Nat) (Q : Option Value → aH → Prop) => c_favourite_106 (d := d) (X := X) (Q := Q) (s := s1) (y := y) W hw (fun o o0 o1 => CO_fr hf w2.2 rfl (hm o o0 o1)) hn hb (fun m m0 m1 => (h8 m m0 (by omega)).1) hy
    unfold srv at e
    rw [S_38_6]
    by_cases c1 : y.1 ≤ 0
    · rw [if_pos (Or.inl c1)] at e
      subst e
      repeat' (first | (with_reducible refine Br_i ?_ ?_ <;> (intro hbr; first | exact False.elim hbr | skip)) | (with_reducible refine Wl_i ?_) | (simp (disch := first | omega | exact okF _ | exact okI _ | exact okR _ | assumption | exact okN) only [u_at, iI_zero, iI_31, iI_add, iI_sub, iI_mul, iI_neg, ↓iI_max, ↓iI_min, iI_div, emod_f, iI_lt, iI_le, iI_inj, iI_toInt, ↓ii01, ↓ii11, ↓bI_b, bI_0, bI_1, Kt_s, Kt_n, cat0, cat1, cat2, cat3, cat4, rfV, Nat.reduceAdd, Nat.reduceMul, Nat.reduceEqDiff, Int.reduceAdd, Int.reduceSub, Int.reduceMul, Int.reduceNeg, Int.reduceLT, Int.reduceLE, Int.reduceEq, Int.reduceDiv, ↓reduceIte, ↓ite_ww, ↓ite_wi, Br_n, Br_TW, Br_FW, Br_FP, Br_FB, nn_p, and_true, true_and, and_self, true_or, or_true, not_true_eq_false, not_false_eq_true, le_T, le_F, lt_T, lt_F, eq_T, eq_F, Int.add_zero, Int.zero_add, Int.one_mul, Int.mul_one, up_eq, up_ne, Int.add_assoc, Int.add_sub_cancel, Int.sub_zero, Int.sub_self, S_38_0, S_38_1, S_38_3, S_38_4, S_38_8, S_38_9, S_38_12, S_38_14, S_38_17, S_38_18, S_38_19, S_38_20, S_38_22, S_38_25, S_38_27, S_38_29, S_38_30, S_38_33, S_38_35, S_38_36, S_38_37, S_38_40, S_38_42, S_38_45, S_38_47, S_38_48, S_38_49, S_38_52, S_38_54, S_38_57, S_38_60, S_38_62, S_38_64, S_38_66, S_38_69, S_38_71, S_38_74, S_38_76, S_38_77, S_38_80, S_38_82, S_38_83, S_38_86, S_38_88, S_38_91, S_38_92, S_38_95, S_38_97, S_38_100, S_38_101, S_38_103, S_38_105, S_38_107, S_38_108, S_38_110, S_38_112, S_38_115, S_38_117, S_38_119, S_38_120, S_38_122, S_38_123, S_38_126, S_38_128, S_38_131, S_38_133, S_38_135, S_38_138, S_38_140, S_38_143, S_38_145, S_38_147, S_38_149, S_38_150, S_38_153, S_38_155, S_38_158, S_38_159, S_38_161, S_38_162, S_38_163, S_38_165, S_38_168, S_38_169, S_38_172, S_38_175, S_38_178, S_38_180]))
      exact k s1 hf h8 h1 h0 hz
    · by_cases c2 : yfav A l n b y = -1
      · rw [if_pos (Or.inr c2)] at e
        subst e
        repeat' (first | (with_reducible refine Br_i ?_ ?_ <;> (intro hbr; first | exact False.elim hbr | skip)) | (with_reducible refine Wl_i ?_) | (simp (disch := first | omega | exact okF _ | exact okI _ | exact okR _ | assumption | exact okN) only [u_at, iI_zero, iI_31, iI_add, iI_sub, iI_mul, iI_neg, ↓iI_max, ↓iI_min, iI_div, emod_f, iI_lt, iI_le, iI_inj, iI_toInt, ↓ii01, ↓ii11, ↓bI_b, bI_0, bI_1, Kt_s, Kt_n, cat0, cat1, cat2, cat3, cat4, rfV, Nat.reduceAdd, Nat.reduceMul, Nat.reduceEqDiff, Int.reduceAdd, Int.reduceSub, Int.reduceMul, Int.reduceNeg, Int.reduceLT, Int.reduceLE, Int.reduceEq, Int.reduceDiv, ↓reduceIte, ↓ite_ww, ↓ite_wi, Br_n, Br_TW, Br_FW, Br_FP, Br_FB, nn_p, and_true, true_and, and_self, true_or, or_true, not_true_eq_false, not_false_eq_true, le_T, le_F, lt_T, lt_F, eq_T, eq_F, Int.add_zero, Int.zero_add, Int.one_mul, Int.mul_one, up_eq, up_ne, Int.add_assoc, Int.add_sub_cancel, Int.sub_zero, Int.sub_self, S_38_0, S_38_1, S_38_3, S_38_4, S_38_8, S_38_9, S_38_12, S_38_14, S_38_17, S_38_18, S_38_19, S_38_20, S_38_22, S_38_25, S_38_27, S_38_29, S_38_30, S_38_33, S_38_35, S_38_36, S_38_37, S_38_40, S_38_42, S_38_45, S_38_47, S_38_48, S_38_49, S_38_52, S_38_54, S_38_57, S_38_60, S_38_62, S_38_64, S_38_66, S_38_69, S_38_71, S_38_74, S_38_76, S_38_77, S_38_80, S_38_82, S_38_83, S_38_86, S_38_88, S_38_91, S_38_92, S_38_95, S_38_97, S_38_100, S_38_101, S_38_103, S_38_105, S_38_107, S_38_108, S_38_110, S_38_112, S_38_115, S_38_117, S_38_119, S_38_120, S_38_122, S_38_123, S_38_126, S_38_128, S_38_131, S_38_133, S_38_135, S_38_138, S_38_140, S_38_143, S_38_145, S_38_147, S_38_149, S_38_150, S_38_153, S_38_155, S_38_158, S_38_159, S_38_161, S_38_162, S_38_163, S_38_165, S_38_168, S_38_169, S_38_172, S_38_175, S_38_178, S_38_180, H_87, fv, c2]))
        exact k s1 hf h8 h1 h0 hz
      · rw [if_neg (fun q => q.elim c1 c2)] at e
        rcases fav_r (P := avl A l y.2.1) (v := oOver A l b) hn.1 with ⟨q, _⟩ | ⟨f0, f1, f2, f3⟩
        · exact absurd q c2
        · have f0 : 0 ≤ yfav A l n b y := f0
          have f1 : yfav A l n b y < n := f1
          have f3 : 0 ≤ oOver A l b (yfav A l n b y) := f3
          have hO := hw _ f0 f1
          have hp0 := oH_p (l := l) hO f3
          have rh := oH_r (l := l) hO
          obtain ⟨m1, m2, m3, -, -, m6, m7⟩ := CO_fr hf w2.2 rfl (hm _ f0 f1)
          have m1 : s1 88 (yfav A l n b y) = oH A l (yfav A l n b y) := m1
          have m2 : s1 89 (yfav A l n b y) = oP A l (yfav A l n b y) := m2
          have m3 : s1 90 (yfav A l n b y) = oC A l (yfav A l n b y) := m3
          have m7 := m7 b hb.1 hb.2
          have so := ystep_ok (b := b) hy hO hp0
          obtain ⟨t1, t2, t3⟩ := ytk_r hy hO hp0
          have ho1 := hO.1
          obtain ⟨l1, l2⟩ := h8 (A (180 + 13 * (yfav A l n b y))) (by omega) (by omega)
          have l3 := h1 _ f0 (by omega)
          have ly := hy.2 _ hO.1.1 hO.1.2
          have ty : min y.1 (y.2.1 (A (180 + 13 * (yfav A l n b y))) / oH A l (yfav A l n b y)) = ytk A l (yfav A l n b y) y := rfl
          have em : max 1 (oH A l (yfav A l n b y)) = oH A l (yfav A l n b y) := by omega
          have d0 : 0 ≤ y.2.1 (A (180 + 13 * (yfav A l n b y))) / oH A l (yfav A l n b y) := Int.ediv_nonneg ly.1 (by omega)
          have d1 : y.2.1 (A (180 + 13 * (yfav A l n b y))) / oH A l (yfav A l n b y) ≤ y.2.1 (A (180 + 13 * (yfav A l n b y))) := Int.ediv_le_self _ ly.1
          have kn : ¬ 95 + b.toNat = 107 ∧ ¬ 95 + b.toNat = 108 ∧ ¬ 95 + b.toNat = 109 ∧ ¬ 95 + b.toNat = 111 := by omega
          have nq : y.2.1 (A (180 + 13 * (yfav A l n b y))) + -ytk A l (yfav A l n b y) y * oH A l (yfav A l n b y) = y.2.1 (A (180 + 13 * (yfav A l n b y))) - ytk A l (yfav A l n b y) y * oH A l (yfav A l n b y) := by rw [Int.neg_mul]; omega
          have bb : (0 ≤ b ∧ b < 10) ∧ 0 ≤ yfav A l n b y ∧ yfav A l n b y < 22 := by omega
          have ov := fun (d : Nat) (s : sg) (Q : Option Value → aH → Prop) => c_overTo (d := d) (X := X) (s := s) (Q := Q) bb
          have nx : ∀ v7 v8 v9 v10 v11, okO v7 = true → okO v8 = true → okO v9 = true → okO v10 = true → okO v11 = true → Wp (d + 3) 38 6 [.ref 87, .int (iI b), v2, .int (iI n), .ref 106, .int (iI (y.1 - ytk A l (yfav A l n b y) y)), .int (iI (t + 1)), v7, v8, v9, v10, v11] [] (hp X (u (u (u (u s1 109 (up (s1 109) (A (180 + 13 * (yfav A l n b y))) (y.2.1 (A (180 + 13 * (yfav A l n b y))) - ytk A l (yfav A l n b y) y * oH A l (yfav A l n b y)))) 107 (up (s1 107) (yfav A l n b y) (y.2.2.2.1 (yfav A l n b y) + ytk A l (yfav A l n b y) y))) 108 (up (s1 108) (A (180 + 13 * (yfav A l n b y))) (y.2.2.1 (A (180 + 13 * (yfav A l n b y))) + ytk A l (yfav A l n b y) y * (oP A l (yfav A l n b y) - oC A l (yfav A l n b y))))) 111 (up (s1 111) b (y.2.2.2.2 + ytk A l (yfav A l n b y) y * oOver A l b (yfav A l n b y))))) Q := by
            intro v7 v8 v9 v10 v11 o7 o8 o9 o10 o11
            refine ih _ (ystep A l b (yfav A l n b y) y) ?_ so ?_ ?_ ?_ ?_ e (t + 1) (by omega) v7 v8 v9 v10 v11 o7 o8 o9 o10 o11
            · exact (((hf.u rfl).u rfl).u rfl).u rfl
            · intro m z0 z1
              show up (s1 109) _ _ m = up y.2.1 _ _ m ∧ up (s1 108) _ _ m = up y.2.2.1 _ _ m
              simp only [up_at]
              by_cases q : m = A (180 + 13 * (yfav A l n b y))
              · rw [if_pos q, if_pos q, if_pos q, if_pos q]
                exact ⟨rfl, rfl⟩
              · rw [if_neg q, if_neg q, if_neg q, if_neg q]
                exact h8 m z0 z1
            · intro z z0 z1
              show up (s1 107) _ _ z = up y.2.2.2.1 _ _ z
              simp only [up_at]
              by_cases q : z = yfav A l n b y
              · rw [if_pos q, if_pos q]
              · rw [if_neg q, if_neg q]
                exact h1 z z0 z1
            · show up (s1 111) b _ b = _
              rw [up_eq rfl]
              rfl
            · intro z z0 z1
              show up (s1 111) b _ z = _
              rw [up_ne z1]
              exact hz z z0 z1
          repeat' (first | (with_reducible refine Br_i ?_ ?_ <;> (intro hbr; first | exact False.elim hbr | skip)) | (with_reducible refine Wl_i ?_) | (simp (disch := first | omega | exact okF _ | exact okI _ | exact okR _ | assumption | exact okN) only [u_at, iI_zero, iI_31, iI_add, iI_sub, iI_mul, iI_neg, ↓iI_max, ↓iI_min, iI_div, emod_f, iI_lt, iI_le, iI_inj, iI_toInt, ↓ii01, ↓ii11, ↓bI_b, bI_0, bI_1, Kt_s, Kt_n, cat0, cat1, cat2, cat3, cat4, rfV, Nat.reduceAdd, Nat.reduceMul, Nat.reduceEqDiff, Int.reduceAdd, Int.reduceSub, Int.reduceMul, Int.reduceNeg, Int.reduceLT, Int.reduceLE, Int.reduceEq, Int.reduceDiv, ↓reduceIte, ↓ite_ww, ↓ite_wi, Br_n, Br_TW, Br_FW, Br_FP, Br_FB, nn_p, and_true, true_and, and_self, true_or, or_true, not_true_eq_false, not_false_eq_true, le_T, le_F, lt_T, lt_F, eq_T, eq_F, Int.add_zero, Int.zero_add, Int.one_mul, Int.mul_one, up_eq, up_ne, Int.add_assoc, Int.add_sub_cancel, Int.sub_zero, Int.sub_self, S_38_0, S_38_1, S_38_3, S_38_4, S_38_8, S_38_9, S_38_12, S_38_14, S_38_17, S_38_18, S_38_19, S_38_20, S_38_22, S_38_25, S_38_27, S_38_29, S_38_30, S_38_33, S_38_35, S_38_36, S_38_37, S_38_40, S_38_42, S_38_45, S_38_47, S_38_48, S_38_49, S_38_52, S_38_54, S_38_57, S_38_60, S_38_62, S_38_64, S_38_66, S_38_69, S_38_71, S_38_74, S_38_76, S_38_77, S_38_80, S_38_82, S_38_83, S_38_86, S_38_88, S_38_91, S_38_92, S_38_95, S_38_97, S_38_100, S_38_101, S_38_103, S_38_105, S_38_107, S_38_108, S_38_110, S_38_112, S_38_115, S_38_117, S_38_119, S_38_120, S_38_122, S_38_123, S_38_126, S_38_128, S_38_131, S_38_133, S_38_135, S_38_138, S_38_140, S_38_143, S_38_145, S_38_147, S_38_149, S_38_150, S_38_153, S_38_155, S_38_158, S_38_159, S_38_161, S_38_162, S_38_163, S_38_165, S_38_168, S_38_169, S_38_172, S_38_175, S_38_178, S_38_180, H_87, H_106, c_cell_88, c_cell_89, c_cell_90, c_cell_93, c_cell_109, c_raise_107, c_raise_108, c_raise_109, c_raise_111, fv, ov, kn, m1, m2, m3, m6, m7, l1, l2, l3, h0, em, ty, nq]))
          exact nx _ _ _ _ _ (okI _) (okI _) (okI _) (okI _) (okI _)
theorem c_serve_l_112 {v2 : Value} (W : WF0 A) (hw : ∀ o, 0 ≤ o → o < n → WO A o) (hm : ∀ o, 0 ≤ o → o < n → CO A l o s) (hn : 0 ≤ n ∧ n ≤ 22) (hb : 0 ≤ b ∧ b < A 2) {r : yst} (k : ∀ s', Fr [113, 114, 115, 117] s s' → (∀ m, 0 ≤ m → m < 6 → s' 115 m = r.2.1 m ∧ s' 114 m = r.2.2.1 m) → (∀ o, 0 ≤ o → o < 22 → s' 113 o = r.2.2.2.1 o) → s' 117 b = r.2.2.2.2 → (∀ z, 0 ≤ z → ¬ z = b → s' 117 z = s 117 z) → Q (some (.int (iI r.1))) (hp X s')) : ∀ (f : Nat) (s1 : sg) (y : yst), Fr [113, 114, 115, 117] s s1 → yOK A y → (∀ m, 0 ≤ m → m < 6 → s1 115 m = y.2.1 m ∧ s1 114 m = y.2.2.1 m) → (∀ o, 0 ≤ o → o < 22 → s1 113 o = y.2.2.2.1 o) → s1 117 b = y.2.2.2.2 → (∀ z, 0 ≤ z → ¬ z = b → s1 117 z = s 117 z) → srv A l n b f y = r → ∀ t : Int, (0 ≤ t ∧ t + f = n) → ∀ v7 v8 v9 v10 v11, okO v7 = true → okO v8 = true → okO v9 = true → okO v10 = true → okO v11 = true → Wp (d + 3) 38 6 [.ref 87, .int (iI b), v2, .int (iI n), .ref 112, .int (iI y.1), .int (iI t), v7, v8, v9, v10, v11] [] (hp X s1) Q := by
  intro f
  have w2 := W.1.2.2.1
  have w1 := W.1.2.1
  induction f with
  | zero =>
    intro s1 y hf hy h8 h1 h0 hz e t ht v7 v8 v9 v10 v11 o7 o8 o9 o10 o11
    have e : y = r := e
    subst e
    have hy1 := hy.1
    repeat' (first | (with_reducible refine Br_i ?_ ?_ <;> (intro hbr; first | exact False.elim hbr | skip)) | (with_reducible refine Wl_i ?_) | (simp (disch := first | omega | exact okF _ | exact okI _ | exact okR _ | assumption | exact okN) only [u_at, iI_zero, iI_31, iI_add, iI_sub, iI_mul, iI_neg, ↓iI_max, ↓iI_min, iI_div, emod_f, iI_lt, iI_le, iI_inj, iI_toInt, ↓ii01, ↓ii11, ↓bI_b, bI_0, bI_1, Kt_s, Kt_n, cat0, cat1, cat2, cat3, cat4, rfV, Nat.reduceAdd, Nat.reduceMul, Nat.reduceEqDiff, Int.reduceAdd, Int.reduceSub, Int.reduceMul, Int.reduceNeg, Int.reduceLT, Int.reduceLE, Int.reduceEq, Int.reduceDiv, ↓reduceIte, ↓ite_ww, ↓ite_wi, Br_n, Br_TW, Br_FW, Br_FP, Br_FB, nn_p, and_true, true_and, and_self, true_or, or_true, not_true_eq_false, not_false_eq_true, le_T, le_F, lt_T, lt_F, eq_T, eq_F, Int.add_zero, Int.zero_add, Int.one_mul, Int.mul_one, up_eq, up_ne, Int.add_assoc, Int.add_sub_cancel, Int.sub_zero, Int.sub_self, S_38_0, S_38_1, S_38_3, S_38_4, S_38_6, S_38_8, S_38_9, S_38_12, S_38_14, S_38_17, S_38_18, S_38_19, S_38_20, S_38_22, S_38_25, S_38_27, S_38_29, S_38_30, S_38_33, S_38_35, S_38_36, S_38_37, S_38_40, S_38_42, S_38_45, S_38_47, S_38_48, S_38_49, S_38_52, S_38_54, S_38_57, S_38_60, S_38_62, S_38_64, S_38_66, S_38_69, S_38_71, S_38_74, S_38_76, S_38_77, S_38_80, S_38_82, S_38_83, S_38_86, S_38_88, S_38_91, S_38_92, S_38_95, S_38_97, S_38_100, S_38_101, S_38_103, S_38_105, S_38_107, S_38_108, S_38_110, S_38_112, S_38_115, S_38_117, S_38_119, S_38_120, S_38_122, S_38_123, S_38_126, S_38_128, S_38_131, S_38_133, S_38_135, S_38_138, S_38_140, S_38_143, S_38_145, S_38_147, S_38_149, S_38_150, S_38_153, S_38_155, S_38_158, S_38_159, S_38_161, S_38_162, S_38_163, S_38_165, S_38_168, S_38_169, S_38_172, S_38_175, S_38_178, S_38_180]))
    exact k s1 hf h8 h1 h0 hz
  | succ f ih =>
    intro s1 y hf hy h8 h1 h0 hz e t ht v7 v8 v9 v10 v11 o7 o8 o9 o10 o11
    have hy1 := hy.1
    have fv := fun (d : Nat) (Q : Option Value → aH → Prop) => c_favourite_112 (d := d) (X := X) (Q := Q) (s := s1) (y := y) W hw (fun o o0 o1 => CO_fr hf w2.2 rfl (hm o o0 o1)) hn hb (fun m m0 m1 => (h8 m m0 (by omega)).1) hy
    unfold srv at e
    rw [S_38_6]
    by_cases c1 : y.1 ≤ 0
    · rw [if_pos (Or.inl c1)] at e
      subst e
      repeat' (first | (with_reducible refine Br_i ?_ ?_ <;> (intro hbr; first | exact False.elim hbr | skip)) | (with_reducible refine Wl_i ?_) | (simp (disch := first | omega | exact okF _ | exact okI _ | exact okR _ | assumption | exact okN) only [u_at, iI_zero, iI_31, iI_add, iI_sub, iI_mul, iI_neg, ↓iI_max, ↓iI_min, iI_div, emod_f, iI_lt, iI_le, iI_inj, iI_toInt, ↓ii01, ↓ii11, ↓bI_b, bI_0, bI_1, Kt_s, Kt_n, cat0, cat1, cat2, cat3, cat4, rfV, Nat.reduceAdd, Nat.reduceMul, Nat.reduceEqDiff, Int.reduceAdd, Int.reduceSub, Int.reduceMul, Int.reduceNeg, Int.reduceLT, Int.reduceLE, Int.reduceEq, Int.reduceDiv, ↓reduceIte, ↓ite_ww, ↓ite_wi, Br_n, Br_TW, Br_FW, Br_FP, Br_FB, nn_p, and_true, true_and, and_self, true_or, or_true, not_true_eq_false, not_false_eq_true, le_T, le_F, lt_T, lt_F, eq_T, eq_F, Int.add_zero, Int.zero_add, Int.one_mul, Int.mul_one, up_eq, up_ne, Int.add_assoc, Int.add_sub_cancel, Int.sub_zero, Int.sub_self, S_38_0, S_38_1, S_38_3, S_38_4, S_38_8, S_38_9, S_38_12, S_38_14, S_38_17, S_38_18, S_38_19, S_38_20, S_38_22, S_38_25, S_38_27, S_38_29, S_38_30, S_38_33, S_38_35, S_38_36, S_38_37, S_38_40, S_38_42, S_38_45, S_38_47, S_38_48, S_38_49, S_38_52, S_38_54, S_38_57, S_38_60, S_38_62, S_38_64, S_38_66, S_38_69, S_38_71, S_38_74, S_38_76, S_38_77, S_38_80, S_38_82, S_38_83, S_38_86, S_38_88, S_38_91, S_38_92, S_38_95, S_38_97, S_38_100, S_38_101, S_38_103, S_38_105, S_38_107, S_38_108, S_38_110, S_38_112, S_38_115, S_38_117, S_38_119, S_38_120, S_38_122, S_38_123, S_38_126, S_38_128, S_38_131, S_38_133, S_38_135, S_38_138, S_38_140, S_38_143, S_38_145, S_38_147, S_38_149, S_38_150, S_38_153, S_38_155, S_38_158, S_38_159, S_38_161, S_38_162, S_38_163, S_38_165, S_38_168, S_38_169, S_38_172, S_38_175, S_38_178, S_38_180]))
      exact k s1 hf h8 h1 h0 hz
    · by_cases c2 : yfav A l n b y = -1
      · rw [if_pos (Or.inr c2)] at e
        subst e
        repeat' (first | (with_reducible refine Br_i ?_ ?_ <;> (intro hbr; first | exact False.elim hbr | skip)) | (with_reducible refine Wl_i ?_) | (simp (disch := first | omega | exact okF _ | exact okI _ | exact okR _ | assumption | exact okN) only [u_at, iI_zero, iI_31, iI_add, iI_sub, iI_mul, iI_neg, ↓iI_max, ↓iI_min, iI_div, emod_f, iI_lt, iI_le, iI_inj, iI_toInt, ↓ii01, ↓ii11, ↓bI_b, bI_0, bI_1, Kt_s, Kt_n, cat0, cat1, cat2, cat3, cat4, rfV, Nat.reduceAdd, Nat.reduceMul, Nat.reduceEqDiff, Int.reduceAdd, Int.reduceSub, Int.reduceMul, Int.reduceNeg, Int.reduceLT, Int.reduceLE, Int.reduceEq, Int.reduceDiv, ↓reduceIte, ↓ite_ww, ↓ite_wi, Br_n, Br_TW, Br_FW, Br_FP, Br_FB, nn_p, and_true, true_and, and_self, true_or, or_true, not_true_eq_false, not_false_eq_true, le_T, le_F, lt_T, lt_F, eq_T, eq_F, Int.add_zero, Int.zero_add, Int.one_mul, Int.mul_one, up_eq, up_ne, Int.add_assoc, Int.add_sub_cancel, Int.sub_zero, Int.sub_self, S_38_0, S_38_1, S_38_3, S_38_4, S_38_8, S_38_9, S_38_12, S_38_14, S_38_17, S_38_18, S_38_19, S_38_20, S_38_22, S_38_25, S_38_27, S_38_29, S_38_30, S_38_33, S_38_35, S_38_36, S_38_37, S_38_40, S_38_42, S_38_45, S_38_47, S_38_48, S_38_49, S_38_52, S_38_54, S_38_57, S_38_60, S_38_62, S_38_64, S_38_66, S_38_69, S_38_71, S_38_74, S_38_76, S_38_77, S_38_80, S_38_82, S_38_83, S_38_86, S_38_88, S_38_91, S_38_92, S_38_95, S_38_97, S_38_100, S_38_101, S_38_103, S_38_105, S_38_107, S_38_108, S_38_110, S_38_112, S_38_115, S_38_117, S_38_119, S_38_120, S_38_122, S_38_123, S_38_126, S_38_128, S_38_131, S_38_133, S_38_135, S_38_138, S_38_140, S_38_143, S_38_145, S_38_147, S_38_149, S_38_150, S_38_153, S_38_155, S_38_158, S_38_159, S_38_161, S_38_162, S_38_163, S_38_165, S_38_168, S_38_169, S_38_172, S_38_175, S_38_178, S_38_180, H_87, fv, c2]))
        exact k s1 hf h8 h1 h0 hz
      · rw [if_neg (fun q => q.elim c1 c2)] at e
        rcases fav_r (P := avl A l y.2.1) (v := oOver A l b) hn.1 with ⟨q, _⟩ | ⟨f0, f1, f2, f3⟩
        · exact absurd q c2
        · have f0 : 0 ≤ yfav A l n b y := f0
          have f1 : yfav A l n b y < n := f1
          have f3 : 0 ≤ oOver A l b (yfav A l n b y) := f3
          have hO := hw _ f0 f1
          have hp0 := oH_p (l := l) hO f3
          have rh := oH_r (l := l) hO
          obtain ⟨m1, m2, m3, -, -, m6, m7⟩ := CO_fr hf w2.2 rfl (hm _ f0 f1)
          have m1 : s1 88 (yfav A l n b y) = oH A l (yfav A l n b y) := m1
          have m2 : s1 89 (yfav A l n b y) = oP A l (yfav A l n b y) := m2
          have m3 : s1 90 (yfav A l n b y) = oC A l (yfav A l n b y) := m3
          have m7 := m7 b hb.1 hb.2
          have so := ystep_ok (b := b) hy hO hp0
          obtain ⟨t1, t2, t3⟩ := ytk_r hy hO hp0
          have ho1 := hO.1
          obtain ⟨l1, l2⟩ := h8 (A (180 + 13 * (yfav A l n b y))) (by omega) (by omega)
          have l3 := h1 _ f0 (by omega)
          have ly := hy.2 _ hO.1.1 hO.1.2
          have ty : min y.1 (y.2.1 (A (180 + 13 * (yfav A l n b y))) / oH A l (yfav A l n b y)) = ytk A l (yfav A l n b y) y := rfl
          have em : max 1 (oH A l (yfav A l n b y)) = oH A l (yfav A l n b y) := by omega
          have d0 : 0 ≤ y.2.1 (A (180 + 13 * (yfav A l n b y))) / oH A l (yfav A l n b y) := Int.ediv_nonneg ly.1 (by omega)
          have d1 : y.2.1 (A (180 + 13 * (yfav A l n b y))) / oH A l (yfav A l n b y) ≤ y.2.1 (A (180 + 13 * (yfav A l n b y))) := Int.ediv_le_self _ ly.1
          have kn : ¬ 95 + b.toNat = 113 ∧ ¬ 95 + b.toNat = 114 ∧ ¬ 95 + b.toNat = 115 ∧ ¬ 95 + b.toNat = 117 := by omega
          have nq : y.2.1 (A (180 + 13 * (yfav A l n b y))) + -ytk A l (yfav A l n b y) y * oH A l (yfav A l n b y) = y.2.1 (A (180 + 13 * (yfav A l n b y))) - ytk A l (yfav A l n b y) y * oH A l (yfav A l n b y) := by rw [Int.neg_mul]; omega
          have bb : (0 ≤ b ∧ b < 10) ∧ 0 ≤ yfav A l n b y ∧ yfav A l n b y < 22 := by omega
          have ov := fun (d : Nat) (s : sg) (Q : Option Value → aH → Prop) => c_overTo (d := d) (X := X) (s := s) (Q := Q) bb
          have nx : ∀ v7 v8 v9 v10 v11, okO v7 = true → okO v8 = true → okO v9 = true → okO v10 = true → okO v11 = true → Wp (d + 3) 38 6 [.ref 87, .int (iI b), v2, .int (iI n), .ref 112, .int (iI (y.1 - ytk A l (yfav A l n b y) y)), .int (iI (t + 1)), v7, v8, v9, v10, v11] [] (hp X (u (u (u (u s1 115 (up (s1 115) (A (180 + 13 * (yfav A l n b y))) (y.2.1 (A (180 + 13 * (yfav A l n b y))) - ytk A l (yfav A l n b y) y * oH A l (yfav A l n b y)))) 113 (up (s1 113) (yfav A l n b y) (y.2.2.2.1 (yfav A l n b y) + ytk A l (yfav A l n b y) y))) 114 (up (s1 114) (A (180 + 13 * (yfav A l n b y))) (y.2.2.1 (A (180 + 13 * (yfav A l n b y))) + ytk A l (yfav A l n b y) y * (oP A l (yfav A l n b y) - oC A l (yfav A l n b y))))) 117 (up (s1 117) b (y.2.2.2.2 + ytk A l (yfav A l n b y) y * oOver A l b (yfav A l n b y))))) Q := by
            intro v7 v8 v9 v10 v11 o7 o8 o9 o10 o11
            refine ih _ (ystep A l b (yfav A l n b y) y) ?_ so ?_ ?_ ?_ ?_ e (t + 1) (by omega) v7 v8 v9 v10 v11 o7 o8 o9 o10 o11
            · exact (((hf.u rfl).u rfl).u rfl).u rfl
            · intro m z0 z1
              show up (s1 115) _ _ m = up y.2.1 _ _ m ∧ up (s1 114) _ _ m = up y.2.2.1 _ _ m
              simp only [up_at]
              by_cases q : m = A (180 + 13 * (yfav A l n b y))
              · rw [if_pos q, if_pos q, if_pos q, if_pos q]
                exact ⟨rfl, rfl⟩
              · rw [if_neg q, if_neg q, if_neg q, if_neg q]
                exact h8 m z0 z1
            · intro z z0 z1
              show up (s1 113) _ _ z = up y.2.2.2.1 _ _ z
              simp only [up_at]
              by_cases q : z = yfav A l n b y
              · rw [if_pos q, if_pos q]
              · rw [if_neg q, if_neg q]
                exact h1 z z0 z1
            · show up (s1 117) b _ b = _
              rw [up_eq rfl]
              rfl
            · intro z z0 z1
              show up (s1 117) b _ z = _
              rw [up_ne z1]
              exact hz z z0 z1
          repeat' (first | (with_reducible refine Br_i ?_ ?_ <;> (intro hbr; first | exact False.elim hbr | skip)) | (with_reducible refine Wl_i ?_) | (simp (disch := first | omega | exact okF _ | exact okI _ | exact okR _ | assumption | exact okN) only [u_at, iI_zero, iI_31, iI_add, iI_sub, iI_mul, iI_neg, ↓iI_max, ↓iI_min, iI_div, emod_f, iI_lt, iI_le, iI_inj, iI_toInt, ↓ii01, ↓ii11, ↓bI_b, bI_0, bI_1, Kt_s, Kt_n, cat0, cat1, cat2, cat3, cat4, rfV, Nat.reduceAdd, Nat.reduceMul, Nat.reduceEqDiff, Int.reduceAdd, Int.reduceSub, Int.reduceMul, Int.reduceNeg, Int.reduceLT, Int.reduceLE, Int.reduceEq, Int.reduceDiv, ↓reduceIte, ↓ite_ww, ↓ite_wi, Br_n, Br_TW, Br_FW, Br_FP, Br_FB, nn_p, and_true, true_and, and_self, true_or, or_true, not_true_eq_false, not_false_eq_true, le_T, le_F, lt_T, lt_F, eq_T, eq_F, Int.add_zero, Int.zero_add, Int.one_mul, Int.mul_one, up_eq, up_ne, Int.add_assoc, Int.add_sub_cancel, Int.sub_zero, Int.sub_self, S_38_0, S_38_1, S_38_3, S_38_4, S_38_8, S_38_9, S_38_12, S_38_14, S_38_17, S_38_18, S_38_19, S_38_20, S_38_22, S_38_25, S_38_27, S_38_29, S_38_30, S_38_33, S_38_35, S_38_36, S_38_37, S_38_40, S_38_42, S_38_45, S_38_47, S_38_48, S_38_49, S_38_52, S_38_54, S_38_57, S_38_60, S_38_62, S_38_64, S_38_66, S_38_69, S_38_71, S_38_74, S_38_76, S_38_77, S_38_80, S_38_82, S_38_83, S_38_86, S_38_88, S_38_91, S_38_92, S_38_95, S_38_97, S_38_100, S_38_101, S_38_103, S_38_105, S_38_107, S_38_108, S_38_110, S_38_112, S_38_115, S_38_117, S_38_119, S_38_120, S_38_122, S_38_123, S_38_126, S_38_128, S_38_131, S_38_133, S_38_135, S_38_138, S_38_140, S_38_143, S_38_145, S_38_147, S_38_149, S_38_150, S_38_153, S_38_155, S_38_158, S_38_159, S_38_161, S_38_162, S_38_163, S_38_165, S_38_168, S_38_169, S_38_172, S_38_175, S_38_178, S_38_180, H_87, H_112, c_cell_88, c_cell_89, c_cell_90, c_cell_93, c_cell_115, c_raise_113, c_raise_114, c_raise_115, c_raise_117, fv, ov, kn, m1, m2, m3, m6, m7, l1, l2, l3, h0, em, ty, nq]))
          exact nx _ _ _ _ _ (okI _) (okI _) (okI _) (okI _) (okI _)
end CR
