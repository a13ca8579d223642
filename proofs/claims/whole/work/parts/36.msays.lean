/-! THE REFERENCE: what a clause says, its five readings of a text -/
theorem wk_1 (a b : Int) : wk 43 a b = cl (a + b) ∧ wk 45 a b = cl (a - b) ∧ wk 42 a b = cl (a * b) ∧ wk 47 a b = (if b = 0 then 0 else Int.tdiv a b) ∧ wk 60 a b = bZ (a < b) ∧ wk 62 a b = bZ (b < a) ∧ wk 61 a b = bZ (a = b) ∧ wk 35 a b = bZ (¬ a = b) ∧ wk 300 a b = bZ (a ≤ b) ∧ wk 301 a b = bZ (b ≤ a) ∧ wk 406 a b = a * b ∧ wk 407 a b = bZ (0 < a + b) := by
  refine ⟨?_, ?_, ?_, ?_, ?_, ?_, ?_, ?_, ?_, ?_, ?_, ?_⟩ <;> unfold wk <;> simp only [Int.reduceEq, if_true, if_false, ↓reduceIte]
theorem Re_JT {p : Prop} {h h2 : aH} (hp : p) (e2 : h2 = h) : Re (some (.long (lI (bZ p)))) h (some (.long (lI 1))) h2 := by
  rw [bZ_T hp]
  exact ⟨rfl, e2⟩
theorem Re_JF {p : Prop} {h h2 : aH} (hp : ¬ p) (e2 : h2 = h) : Re (some (.long (lI (bZ p)))) h (some (.long (lI 0))) h2 := by
  rw [bZ_F hp]
  exact ⟨rfl, e2⟩
/-- the pile: h high, the list is what lies on it, the highest first -/
def pl (f : Int → Int) : Int → List Int → Prop
  | h, [] => h = 0
  | h, a :: r => f (h - 1) = a ∧ pl f (h - 1) r
theorem pl_len {f : Int → Int} : ∀ {h : Int} {st : List Int}, pl f h st → h = st.length
  | h, [], e => by have e : h = 0 := e; simp [e]
  | h, a :: r, e => by have := pl_len e.2; simp only [List.length_cons]; omega
theorem pl_cg {f g : Int → Int} : ∀ {h : Int} {st : List Int}, (∀ z, 0 ≤ z → z < h → g z = f z) → pl f h st → pl g h st
  | h, [], _, e => e
  | h, a :: r, k, e => by
    have := pl_len e
    simp only [List.length_cons] at this
    exact ⟨(k (h - 1) (by omega) (by omega)).trans e.1, pl_cg (fun z z0 z1 => k z z0 (by omega)) e.2⟩
theorem pl_push {f : Int → Int} {h h2 v : Int} {st : List Int} (e : h2 = h + 1) (k : pl f h st) : pl (up f h v) h2 (v :: st) := by
  subst e
  refine ⟨?_, ?_⟩
  · rw [Int.add_sub_cancel, up_eq rfl]
  · rw [Int.add_sub_cancel]
    exact pl_cg (fun z z0 z1 => up_ne (by omega)) k
theorem pl_one {f : Int → Int} {h x v a : Int} {st : List Int} (e : x = h - 1) (k : pl f h (a :: st)) : pl (up f x v) h (v :: st) := by
  subst e
  exact ⟨up_eq rfl, pl_cg (fun z z0 z1 => up_ne (by omega)) k.2⟩
theorem pl_two {f : Int → Int} {h x y v a b : Int} {st : List Int} (e : x = h - 2) (e2 : y = h - 1) (k : pl f h (b :: a :: st)) : pl (up f x v) y (v :: st) := by
  subst e
  subst e2
  refine ⟨?_, ?_⟩
  · rw [show h - 1 - 1 = h - 2 by omega, up_eq rfl]
  · exact pl_cg (fun z z0 z1 => up_ne (by omega)) k.2.2
theorem tys_len {w : Bool} : ∀ {c : opl} {s s2 : List Bool}, tys w c s s2 → s.length ≤ c.length + s2.length
  | [], s, s2, h => by have e : s2 = s := h; simp [e]
  | q :: r, s, s2, ⟨s1, h, k⟩ => by
    have := tys_len k
    simp only [List.length_cons]
    rcases h with ⟨_, _, e⟩ | ⟨_, _, _, _, e⟩ | ⟨_, r2, e, e2⟩ | ⟨_, r2, e, e2⟩ | ⟨_, r2, e, e2⟩ | ⟨_, r2, e, e2⟩ | ⟨_, r2, e, e2⟩ <;> subst e <;> (try subst e2) <;> simp only [List.length_cons] at * <;> omega
theorem vals_len : ∀ {t : List Bool} {st : List Int}, vals t st → t.length = st.length
  | [], [], _ => rfl
  | _ :: r, _ :: s, h => by simp only [List.length_cons]; rw [vals_len h.2]
  | [], _ :: _, h => h.elim
  | _ :: _, [], h => h.elim
section MS
variable {d : Nat} {X : hX} {s : sg} {Q : Option Value → aH → Prop} {a b t o z f w n k : Int} {A : Int → Int}
theorem m_bound (h : -4000000000000 ≤ z ∧ z ≤ 4000000000000) : Wp d 213 0 [.long (lI z), .double 0] [] (hp X s) Q = Q (some (.long (lI (cl z)))) (hp X s) := by
  refine wp_eq (fun rr hh er eh => ?_)
  repeat' (first | (with_reducible refine Br_i ?_ ?_ <;> (intro hbr; first | exact False.elim hbr | skip)) | (with_reducible refine Wl_i ?_) | (simp (disch := first | omega | exact okF _ | exact okI _ | exact okR _ | assumption | exact okN) only [u_at, iI_zero, iI_31, iI_add, iI_sub, iI_mul, iI_neg, ↓iI_max, ↓iI_min, iI_div, emod_f, iI_lt, iI_le, iI_inj, iI_toInt, ↓ii01, ↓ii11, ↓bI_b, bI_0, bI_1, Kt_s, Kt_n, cat0, cat1, cat2, cat3, cat4, rfV, Nat.reduceAdd, Nat.reduceMul, Nat.reduceEqDiff, Int.reduceAdd, Int.reduceSub, Int.reduceMul, Int.reduceNeg, Int.reduceLT, Int.reduceLE, Int.reduceEq, Int.reduceDiv, ↓reduceIte, ↓ite_ww, ↓ite_wi, Br_n, Br_TW, Br_FW, Br_FP, Br_FB, nn_p, and_true, true_and, and_self, true_or, or_true, not_true_eq_false, not_false_eq_true, le_T, le_F, lt_T, lt_F, eq_T, eq_F, Int.add_zero, Int.zero_add, Int.one_mul, Int.mul_one, up_eq, up_ne, Int.add_assoc, Int.add_sub_cancel, Int.sub_zero, Int.sub_self, S_213_0, S_213_1, S_213_4, S_213_5, S_213_8, S_213_11, S_213_14, S_213_15, S_213_18, S_213_19, S_213_22, S_213_25, S_213_28, S_213_29, lI_add, lI_sub, lI_mul, lI_neg, lI_zero, lI_lt, lI_inj, ↓lI_max, ↓lI_min, i2l, l2i, lc_lt, lc_le, lc_gt, lc_ge, lc_eq]))
  all_goals (subst er; subst eh)
  all_goals exact Re_J (by unfold cl; omega) rfl
theorem m_worked (ho : isAr o ∨ isCmp o ∨ o = 406 ∨ o = 407) (ha : -1000000 ≤ a ∧ a ≤ 1000000) (hb : -1000000 ≤ b ∧ b ≤ 1000000) : Wp (d + 1) 214 0 [.int (iI o), .long (lI a), .double 0, .long (lI b), .double 0] [] (hp X s) Q = Q (some (.long (lI (wk o a b)))) (hp X s) := by
  have mr := mul_r ha hb
  have e := wk_1 a b
  refine wp_eq (fun rr hh er eh => ?_)
  unfold isAr isCmp at ho
  rcases ho with (q | q | q | q) | (q | q | q | q | q | q) | q | q <;> subst q
  all_goals repeat' (first | (with_reducible refine Br_i ?_ ?_ <;> (intro hbr; first | exact False.elim hbr | skip)) | (with_reducible refine Wl_i ?_) | (simp (disch := first | omega | exact okF _ | exact okI _ | exact okR _ | assumption | exact okN) only [u_at, iI_zero, iI_31, iI_add, iI_sub, iI_mul, iI_neg, ↓iI_max, ↓iI_min, iI_div, emod_f, iI_lt, iI_le, iI_inj, iI_toInt, ↓ii01, ↓ii11, ↓bI_b, bI_0, bI_1, Kt_s, Kt_n, cat0, cat1, cat2, cat3, cat4, rfV, Nat.reduceAdd, Nat.reduceMul, Nat.reduceEqDiff, Int.reduceAdd, Int.reduceSub, Int.reduceMul, Int.reduceNeg, Int.reduceLT, Int.reduceLE, Int.reduceEq, Int.reduceDiv, ↓reduceIte, ↓ite_ww, ↓ite_wi, Br_n, Br_TW, Br_FW, Br_FP, Br_FB, nn_p, and_true, true_and, and_self, true_or, or_true, not_true_eq_false, not_false_eq_true, le_T, le_F, lt_T, lt_F, eq_T, eq_F, Int.add_zero, Int.zero_add, Int.one_mul, Int.mul_one, up_eq, up_ne, Int.add_assoc, Int.add_sub_cancel, Int.sub_zero, Int.sub_self, S_214_0, S_214_1, S_214_100, S_214_101, S_214_102, S_214_103, S_214_106, S_214_107, S_214_108, S_214_109, S_214_110, S_214_113, S_214_114, S_214_115, S_214_116, S_214_117, S_214_120, S_214_121, S_214_122, S_214_123, S_214_124, S_214_127, S_214_128, S_214_131, S_214_132, S_214_133, S_214_134, S_214_135, S_214_136, S_214_137, S_214_138, S_214_141, S_214_142, S_214_145, S_214_146, S_214_147, S_214_148, S_214_149, S_214_150, S_214_153, S_214_154, S_214_157, S_214_158, S_214_159, S_214_160, S_214_161, S_214_162, S_214_165, S_214_166, S_214_169, S_214_170, S_214_171, S_214_172, S_214_173, S_214_174, S_214_177, S_214_178, S_214_181, S_214_182, S_214_183, S_214_184, S_214_185, S_214_186, S_214_189, S_214_190, S_214_193, S_214_194, S_214_195, S_214_196, S_214_197, S_214_198, S_214_201, S_214_202, S_214_205, S_214_206, S_214_207, S_214_208, S_214_209, S_214_210, S_214_211, S_214_212, S_214_213, S_214_214, S_214_215, S_214_216, S_214_219, S_214_220, S_214_223, S_214_224, lI_add, lI_sub, lI_mul, lI_neg, lI_zero, lI_lt, lI_inj, ↓lI_max, ↓lI_min, i2l, l2i, lc_lt, lc_le, lc_gt, lc_ge, lc_eq, m_bound, lI_tdiv]))
  all_goals (subst er; subst eh)
  all_goals simp only [e]
  all_goals first | contradiction | exact Re_J rfl rfl | exact Re_JT (by omega) rfl | exact Re_JF (by omega) rfl | exact Re_J (by split <;> omega) rfl | (exact Re_J (by rw [if_neg (by assumption)]) rfl) | (exact Re_J (by rw [if_pos (by assumption)]) rfl)
theorem m_says_l {s0 : sg} {w tf : Bool} {L : Int} {v1 : Value} {r : Int} (hn : ∀ i, 0 ≤ i → i ≤ 5 → (i ≤ 3 ∨ w = true) → -1000000 ≤ s0 139 i ∧ s0 139 i ≤ 1000000) (hL : L ≤ 300) (k : ∀ s', Fr [140] s0 s' → Q (some (.long (lI r))) (hp X s')) : ∀ (c : opl) (s : sg) (p h : Int) (ty : List Bool) (st : List Int) (v4 : Value), okO v4 = true → Fr [140] s0 s → seg (s0 129) p (c.map (fun q => q.1) ++ [408]) → seg (s0 130) p (c.map (fun q => q.2)) → tys w c ty [tf] → vals ty st → pl (s 140) h st → (0 ≤ p ∧ p + c.length < 2400) → h + c.length ≤ L → hd (evs (s0 139) c st) = r → Wp (d + 2) 215 4 [.ref 122, v1, .int (iI h), .int (iI p), v4] [] (hp X s) Q := by
  intro c
  induction c with
  | nil =>
    intro s p h ty st v4 o4 hf sg1 sg2 ht hv hpl hb hl hr
    have e129 := hf.g 129 rfl
    have ht : [tf] = ty := ht
    subst ht
    match st, hv with
    | [a], hv =>
      have l := pl_len hpl
      have ea : s 140 (h - 1) = a := hpl.1
      have eo : s 129 p = 408 := by rw [e129]; exact sg1.1
      simp only [List.length_cons, List.length_nil] at l hb
      have h1 : h = 1 := by omega
      subst h1
      have ea : s 140 0 = a := ea
      have er : a = r := hr
      repeat' (first | (with_reducible refine Br_i ?_ ?_ <;> (intro hbr; first | exact False.elim hbr | skip)) | (with_reducible refine Wl_i ?_) | (simp (disch := first | omega | exact okF _ | exact okI _ | exact okR _ | assumption | exact okN) only [u_at, iI_zero, iI_31, iI_add, iI_sub, iI_mul, iI_neg, ↓iI_max, ↓iI_min, iI_div, emod_f, iI_lt, iI_le, iI_inj, iI_toInt, ↓ii01, ↓ii11, ↓bI_b, bI_0, bI_1, Kt_s, Kt_n, cat0, cat1, cat2, cat3, cat4, rfV, Nat.reduceAdd, Nat.reduceMul, Nat.reduceEqDiff, Int.reduceAdd, Int.reduceSub, Int.reduceMul, Int.reduceNeg, Int.reduceLT, Int.reduceLE, Int.reduceEq, Int.reduceDiv, ↓reduceIte, ↓ite_ww, ↓ite_wi, Br_n, Br_TW, Br_FW, Br_FP, Br_FB, nn_p, and_true, true_and, and_self, true_or, or_true, not_true_eq_false, not_false_eq_true, le_T, le_F, lt_T, lt_F, eq_T, eq_F, Int.add_zero, Int.zero_add, Int.one_mul, Int.mul_one, up_eq, up_ne, Int.add_assoc, Int.add_sub_cancel, Int.sub_zero, Int.sub_self, S_215_0, S_215_1, S_215_2, S_215_3, S_215_4, S_215_5, S_215_8, S_215_9, S_215_10, S_215_13, S_215_16, S_215_17, S_215_20, S_215_21, S_215_22, S_215_24, S_215_26, S_215_29, S_215_32, S_215_34, S_215_37, S_215_40, S_215_41, S_215_44, S_215_45, S_215_47, S_215_50, S_215_53, S_215_54, S_215_57, S_215_58, S_215_59, S_215_60, S_215_63, S_215_64, S_215_67, S_215_68, S_215_71, S_215_72, S_215_73, S_215_74, S_215_75, S_215_76, S_215_79, S_215_82, S_215_84, S_215_87, S_215_90, S_215_91, S_215_94, S_215_95, S_215_96, S_215_97, S_215_98, S_215_101, S_215_102, S_215_103, S_215_104, S_215_105, S_215_106, S_215_107, S_215_110, S_215_112, S_215_115, S_215_118, S_215_119, S_215_122, S_215_123, S_215_124, S_215_125, S_215_126, S_215_127, S_215_130, S_215_131, S_215_132, S_215_133, S_215_134, S_215_135, S_215_136, S_215_139, S_215_142, S_215_143, S_215_146, S_215_147, S_215_148, S_215_149, S_215_151, S_215_152, S_215_155, S_215_156, S_215_157, S_215_158, S_215_159, S_215_160, S_215_163, S_215_164, S_215_165, S_215_168, S_215_169, S_215_172, S_215_175, S_215_176, S_215_179, S_215_180, S_215_181, H_122, H_129, H_140, eo, ea]))
      subst er
      exact k s hf
  | cons q c ih =>
    intro s p h ty st v4 o4 hf sg1 sg2 ht hv hpl hb hl hr
    obtain ⟨o, v⟩ := q
    obtain ⟨ty2, ht1, ht2⟩ := ht
    have hv2 := ev1_ok hn ht1 hv
    have e129 := hf.g 129 rfl
    have e130 := hf.g 130 rfl
    have e139 := hf.g 139 rfl
    have eo : s 129 p = o := by rw [e129]; exact sg1.1
    have ev : s 130 p = v := by rw [e130]; exact sg2.1
    have l := pl_len hpl
    have l2 := vals_len hv
    have l3 := tys_len ht2
    have l4 := vals_len hv2
    have l5 : ty.length ≤ ((o, v) :: c).length + [tf].length := tys_len (w := w) (c := (o, v) :: c) (s := ty) (s2 := [tf]) ⟨ty2, ht1, ht2⟩
    simp only [List.length_cons, List.length_nil] at hb hl l3 l5
    have hB : h ≤ 150 := by omega
    clear l5
    have nx : ∀ (h2 : Int) (f : Int → Int), pl f h2 (ev1 (s0 139) (o, v) st) → h2 + c.length ≤ L → ∀ v4, okO v4 = true → Wp (d + 2) 215 4 [.ref 122, v1, .int (iI h2), .int (iI (p + 1)), v4] [] (hp X (u s 140 f)) Q := by
      intro h2 f hp2 hl2 v4 o4
      exact ih (u s 140 f) (p + 1) h2 ty2 _ v4 o4 (hf.u rfl) sg1.2 sg2.2 ht2 hv2 hp2 (by omega) hl2 hr
    rw [S_215_4]
    rcases ht1 with ⟨e, q, e2⟩ | ⟨e, q, q2, q3, e2⟩ | ⟨e, r2, e2, e3⟩ | ⟨e, r2, e2, e3⟩ | ⟨e, r2, e2, e3⟩ | ⟨e, r2, e2, e3⟩ | ⟨e, r2, e2, e3⟩
    · have e : o = 400 := e
      have q : 0 ≤ v ∧ v ≤ 9999 := q
      subst e
      have nx := nx (h + 1) _ (pl_push (v := v) rfl hpl) (by omega) (.int (iI 400)) rfl
      repeat' (first | (with_reducible refine Br_i ?_ ?_ <;> (intro hbr; first | exact False.elim hbr | skip)) | (with_reducible refine Wl_i ?_) | (simp (disch := first | omega | exact okF _ | exact okI _ | exact okR _ | assumption | exact okN) only [u_at, iI_zero, iI_31, iI_add, iI_sub, iI_mul, iI_neg, ↓iI_max, ↓iI_min, iI_div, emod_f, iI_lt, iI_le, iI_inj, iI_toInt, ↓ii01, ↓ii11, ↓bI_b, bI_0, bI_1, Kt_s, Kt_n, cat0, cat1, cat2, cat3, cat4, rfV, Nat.reduceAdd, Nat.reduceMul, Nat.reduceEqDiff, Int.reduceAdd, Int.reduceSub, Int.reduceMul, Int.reduceNeg, Int.reduceLT, Int.reduceLE, Int.reduceEq, Int.reduceDiv, ↓reduceIte, ↓ite_ww, ↓ite_wi, Br_n, Br_TW, Br_FW, Br_FP, Br_FB, nn_p, and_true, true_and, and_self, true_or, or_true, not_true_eq_false, not_false_eq_true, le_T, le_F, lt_T, lt_F, eq_T, eq_F, Int.add_zero, Int.zero_add, Int.one_mul, Int.mul_one, up_eq, up_ne, Int.add_assoc, Int.add_sub_cancel, Int.sub_zero, Int.sub_self, S_215_0, S_215_1, S_215_2, S_215_3, S_215_5, S_215_8, S_215_9, S_215_10, S_215_13, S_215_16, S_215_17, S_215_20, S_215_21, S_215_22, S_215_24, S_215_26, S_215_29, S_215_32, S_215_34, S_215_37, S_215_40, S_215_41, S_215_44, S_215_45, S_215_47, S_215_50, S_215_53, S_215_54, S_215_57, S_215_58, S_215_59, S_215_60, S_215_63, S_215_64, S_215_67, S_215_68, S_215_71, S_215_72, S_215_73, S_215_74, S_215_75, S_215_76, S_215_79, S_215_82, S_215_84, S_215_87, S_215_90, S_215_91, S_215_94, S_215_95, S_215_96, S_215_97, S_215_98, S_215_101, S_215_102, S_215_103, S_215_104, S_215_105, S_215_106, S_215_107, S_215_110, S_215_112, S_215_115, S_215_118, S_215_119, S_215_122, S_215_123, S_215_124, S_215_125, S_215_126, S_215_127, S_215_130, S_215_131, S_215_132, S_215_133, S_215_134, S_215_135, S_215_136, S_215_139, S_215_142, S_215_143, S_215_146, S_215_147, S_215_148, S_215_149, S_215_151, S_215_152, S_215_155, S_215_156, S_215_157, S_215_158, S_215_159, S_215_160, S_215_163, S_215_164, S_215_165, S_215_168, S_215_169, S_215_172, S_215_175, S_215_176, S_215_179, S_215_180, S_215_181, H_122, H_129, H_130, H_140, eo, ev, lI_add, lI_sub, lI_mul, lI_neg, lI_zero, lI_lt, lI_inj, ↓lI_max, ↓lI_min, i2l, l2i, lc_lt, lc_le, lc_gt, lc_ge, lc_eq]))
      exact nx
    · have e : o = 401 := e
      have q : 0 ≤ v := q
      have q2 : v ≤ 5 := q2
      subst e
      have nb := hn v q q2 q3
      rw [← e139] at nb
      have nx := nx (h + 1) _ (pl_push (v := s0 139 v) rfl hpl) (by omega) (.int (iI 401)) rfl
      rw [← e139] at nx
      repeat' (first | (with_reducible refine Br_i ?_ ?_ <;> (intro hbr; first | exact False.elim hbr | skip)) | (with_reducible refine Wl_i ?_) | (simp (disch := first | omega | exact okF _ | exact okI _ | exact okR _ | assumption | exact okN) only [u_at, iI_zero, iI_31, iI_add, iI_sub, iI_mul, iI_neg, ↓iI_max, ↓iI_min, iI_div, emod_f, iI_lt, iI_le, iI_inj, iI_toInt, ↓ii01, ↓ii11, ↓bI_b, bI_0, bI_1, Kt_s, Kt_n, cat0, cat1, cat2, cat3, cat4, rfV, Nat.reduceAdd, Nat.reduceMul, Nat.reduceEqDiff, Int.reduceAdd, Int.reduceSub, Int.reduceMul, Int.reduceNeg, Int.reduceLT, Int.reduceLE, Int.reduceEq, Int.reduceDiv, ↓reduceIte, ↓ite_ww, ↓ite_wi, Br_n, Br_TW, Br_FW, Br_FP, Br_FB, nn_p, and_true, true_and, and_self, true_or, or_true, not_true_eq_false, not_false_eq_true, le_T, le_F, lt_T, lt_F, eq_T, eq_F, Int.add_zero, Int.zero_add, Int.one_mul, Int.mul_one, up_eq, up_ne, Int.add_assoc, Int.add_sub_cancel, Int.sub_zero, Int.sub_self, S_215_0, S_215_1, S_215_2, S_215_3, S_215_5, S_215_8, S_215_9, S_215_10, S_215_13, S_215_16, S_215_17, S_215_20, S_215_21, S_215_22, S_215_24, S_215_26, S_215_29, S_215_32, S_215_34, S_215_37, S_215_40, S_215_41, S_215_44, S_215_45, S_215_47, S_215_50, S_215_53, S_215_54, S_215_57, S_215_58, S_215_59, S_215_60, S_215_63, S_215_64, S_215_67, S_215_68, S_215_71, S_215_72, S_215_73, S_215_74, S_215_75, S_215_76, S_215_79, S_215_82, S_215_84, S_215_87, S_215_90, S_215_91, S_215_94, S_215_95, S_215_96, S_215_97, S_215_98, S_215_101, S_215_102, S_215_103, S_215_104, S_215_105, S_215_106, S_215_107, S_215_110, S_215_112, S_215_115, S_215_118, S_215_119, S_215_122, S_215_123, S_215_124, S_215_125, S_215_126, S_215_127, S_215_130, S_215_131, S_215_132, S_215_133, S_215_134, S_215_135, S_215_136, S_215_139, S_215_142, S_215_143, S_215_146, S_215_147, S_215_148, S_215_149, S_215_151, S_215_152, S_215_155, S_215_156, S_215_157, S_215_158, S_215_159, S_215_160, S_215_163, S_215_164, S_215_165, S_215_168, S_215_169, S_215_172, S_215_175, S_215_176, S_215_179, S_215_180, S_215_181, H_122, H_129, H_130, H_139, H_140, eo, ev, lI_add, lI_sub, lI_mul, lI_neg, lI_zero, lI_lt, lI_inj, ↓lI_max, ↓lI_min, i2l, l2i, lc_lt, lc_le, lc_gt, lc_ge, lc_eq]))
      exact nx
    · have e : o = 402 := e
      subst e
      subst e2
      match st, hv, hpl with
      | a :: st, hv, hpl =>
        have ea : s 140 (h - 1) = a := hpl.1
        simp only [List.length_cons] at l
        have nx := nx h _ (pl_one (v := -a) rfl hpl) (by omega) (.int (iI 402)) rfl
        repeat' (first | (with_reducible refine Br_i ?_ ?_ <;> (intro hbr; first | exact False.elim hbr | skip)) | (with_reducible refine Wl_i ?_) | (simp (disch := first | omega | exact okF _ | exact okI _ | exact okR _ | assumption | exact okN) only [u_at, iI_zero, iI_31, iI_add, iI_sub, iI_mul, iI_neg, ↓iI_max, ↓iI_min, iI_div, emod_f, iI_lt, iI_le, iI_inj, iI_toInt, ↓ii01, ↓ii11, ↓bI_b, bI_0, bI_1, Kt_s, Kt_n, cat0, cat1, cat2, cat3, cat4, rfV, Nat.reduceAdd, Nat.reduceMul, Nat.reduceEqDiff, Int.reduceAdd, Int.reduceSub, Int.reduceMul, Int.reduceNeg, Int.reduceLT, Int.reduceLE, Int.reduceEq, Int.reduceDiv, ↓reduceIte, ↓ite_ww, ↓ite_wi, Br_n, Br_TW, Br_FW, Br_FP, Br_FB, nn_p, and_true, true_and, and_self, true_or, or_true, not_true_eq_false, not_false_eq_true, le_T, le_F, lt_T, lt_F, eq_T, eq_F, Int.add_zero, Int.zero_add, Int.one_mul, Int.mul_one, up_eq, up_ne, Int.add_assoc, Int.add_sub_cancel, Int.sub_zero, Int.sub_self, S_215_0, S_215_1, S_215_2, S_215_3, S_215_5, S_215_8, S_215_9, S_215_10, S_215_13, S_215_16, S_215_17, S_215_20, S_215_21, S_215_22, S_215_24, S_215_26, S_215_29, S_215_32, S_215_34, S_215_37, S_215_40, S_215_41, S_215_44, S_215_45, S_215_47, S_215_50, S_215_53, S_215_54, S_215_57, S_215_58, S_215_59, S_215_60, S_215_63, S_215_64, S_215_67, S_215_68, S_215_71, S_215_72, S_215_73, S_215_74, S_215_75, S_215_76, S_215_79, S_215_82, S_215_84, S_215_87, S_215_90, S_215_91, S_215_94, S_215_95, S_215_96, S_215_97, S_215_98, S_215_101, S_215_102, S_215_103, S_215_104, S_215_105, S_215_106, S_215_107, S_215_110, S_215_112, S_215_115, S_215_118, S_215_119, S_215_122, S_215_123, S_215_124, S_215_125, S_215_126, S_215_127, S_215_130, S_215_131, S_215_132, S_215_133, S_215_134, S_215_135, S_215_136, S_215_139, S_215_142, S_215_143, S_215_146, S_215_147, S_215_148, S_215_149, S_215_151, S_215_152, S_215_155, S_215_156, S_215_157, S_215_158, S_215_159, S_215_160, S_215_163, S_215_164, S_215_165, S_215_168, S_215_169, S_215_172, S_215_175, S_215_176, S_215_179, S_215_180, S_215_181, H_122, H_129, H_130, H_140, eo, ev, ea, lI_add, lI_sub, lI_mul, lI_neg, lI_zero, lI_lt, lI_inj, ↓lI_max, ↓lI_min, i2l, l2i, lc_lt, lc_le, lc_gt, lc_ge, lc_eq]))
        exact nx
    · have e : o = 405 := e
      subst e
      subst e2
      match st, hv, hpl with
      | a :: st, hv, hpl =>
        have ea : s 140 (h - 1) = a := hpl.1
        simp only [List.length_cons] at l
        have nx := nx h _ (pl_one (v := 1 - a) rfl hpl) (by omega) (.int (iI 405)) rfl
        repeat' (first | (with_reducible refine Br_i ?_ ?_ <;> (intro hbr; first | exact False.elim hbr | skip)) | (with_reducible refine Wl_i ?_) | (simp (disch := first | omega | exact okF _ | exact okI _ | exact okR _ | assumption | exact okN) only [u_at, iI_zero, iI_31, iI_add, iI_sub, iI_mul, iI_neg, ↓iI_max, ↓iI_min, iI_div, emod_f, iI_lt, iI_le, iI_inj, iI_toInt, ↓ii01, ↓ii11, ↓bI_b, bI_0, bI_1, Kt_s, Kt_n, cat0, cat1, cat2, cat3, cat4, rfV, Nat.reduceAdd, Nat.reduceMul, Nat.reduceEqDiff, Int.reduceAdd, Int.reduceSub, Int.reduceMul, Int.reduceNeg, Int.reduceLT, Int.reduceLE, Int.reduceEq, Int.reduceDiv, ↓reduceIte, ↓ite_ww, ↓ite_wi, Br_n, Br_TW, Br_FW, Br_FP, Br_FB, nn_p, and_true, true_and, and_self, true_or, or_true, not_true_eq_false, not_false_eq_true, le_T, le_F, lt_T, lt_F, eq_T, eq_F, Int.add_zero, Int.zero_add, Int.one_mul, Int.mul_one, up_eq, up_ne, Int.add_assoc, Int.add_sub_cancel, Int.sub_zero, Int.sub_self, S_215_0, S_215_1, S_215_2, S_215_3, S_215_5, S_215_8, S_215_9, S_215_10, S_215_13, S_215_16, S_215_17, S_215_20, S_215_21, S_215_22, S_215_24, S_215_26, S_215_29, S_215_32, S_215_34, S_215_37, S_215_40, S_215_41, S_215_44, S_215_45, S_215_47, S_215_50, S_215_53, S_215_54, S_215_57, S_215_58, S_215_59, S_215_60, S_215_63, S_215_64, S_215_67, S_215_68, S_215_71, S_215_72, S_215_73, S_215_74, S_215_75, S_215_76, S_215_79, S_215_82, S_215_84, S_215_87, S_215_90, S_215_91, S_215_94, S_215_95, S_215_96, S_215_97, S_215_98, S_215_101, S_215_102, S_215_103, S_215_104, S_215_105, S_215_106, S_215_107, S_215_110, S_215_112, S_215_115, S_215_118, S_215_119, S_215_122, S_215_123, S_215_124, S_215_125, S_215_126, S_215_127, S_215_130, S_215_131, S_215_132, S_215_133, S_215_134, S_215_135, S_215_136, S_215_139, S_215_142, S_215_143, S_215_146, S_215_147, S_215_148, S_215_149, S_215_151, S_215_152, S_215_155, S_215_156, S_215_157, S_215_158, S_215_159, S_215_160, S_215_163, S_215_164, S_215_165, S_215_168, S_215_169, S_215_172, S_215_175, S_215_176, S_215_179, S_215_180, S_215_181, H_122, H_129, H_130, H_140, eo, ev, ea, lI_add, lI_sub, lI_mul, lI_neg, lI_zero, lI_lt, lI_inj, ↓lI_max, ↓lI_min, i2l, l2i, lc_lt, lc_le, lc_gt, lc_ge, lc_eq]))
        exact nx
    all_goals
      subst e2
      match st, hv, hpl with
      | b :: a :: st, hv, hpl =>
        have eb : s 140 (h - 1) = b := hpl.1
        have ea : s 140 (h - 1 - 1) = a := hpl.2.1
        simp only [List.length_cons] at l
        have n : (¬ o = 400 ∧ ¬ o = 401 ∧ ¬ o = 402 ∧ ¬ o = 405 ∧ ¬ o = 408) ∧ 0 ≤ o ∧ o < 500 := by
          have e := e
          (try unfold isAr at e)
          (try unfold isCmp at e)
          (try simp only at e)
          omega
        have ow : isAr o ∨ isCmp o ∨ o = 406 ∨ o = 407 := by
          first | exact Or.inl e | exact Or.inr (Or.inl e) | exact Or.inr (Or.inr e)
        have ba : -1000000 ≤ a ∧ a ≤ 1000000 := by
          obtain ⟨v1, v2, _⟩ := hv
          first | exact v2 | (have v2 : a = 0 ∨ a = 1 := v2; omega)
        have bb : -1000000 ≤ b ∧ b ≤ 1000000 := by
          obtain ⟨v1, v2, _⟩ := hv
          first | exact v1 | (have v1 : b = 0 ∨ b = 1 := v1; omega)
        have ee : ev1 (s0 139) (o, v) (b :: a :: st) = wk o a b :: st := by
          unfold ev1
          simp only [n, if_false]
        have nx := nx (h - 1) _ (by rw [ee]; exact pl_two (x := h - 1 - 1) (by omega) rfl hpl) (by omega) (.int (iI o)) rfl
        have i1 : h + -1 = h - 1 := by omega
        repeat' (first | (with_reducible refine Br_i ?_ ?_ <;> (intro hbr; first | exact False.elim hbr | skip)) | (with_reducible refine Wl_i ?_) | (simp (disch := first | omega | exact okF _ | exact okI _ | exact okR _ | assumption | exact okN) only [u_at, iI_zero, iI_31, iI_add, iI_sub, iI_mul, iI_neg, ↓iI_max, ↓iI_min, iI_div, emod_f, iI_lt, iI_le, iI_inj, iI_toInt, ↓ii01, ↓ii11, ↓bI_b, bI_0, bI_1, Kt_s, Kt_n, cat0, cat1, cat2, cat3, cat4, rfV, Nat.reduceAdd, Nat.reduceMul, Nat.reduceEqDiff, Int.reduceAdd, Int.reduceSub, Int.reduceMul, Int.reduceNeg, Int.reduceLT, Int.reduceLE, Int.reduceEq, Int.reduceDiv, ↓reduceIte, ↓ite_ww, ↓ite_wi, Br_n, Br_TW, Br_FW, Br_FP, Br_FB, nn_p, and_true, true_and, and_self, true_or, or_true, not_true_eq_false, not_false_eq_true, le_T, le_F, lt_T, lt_F, eq_T, eq_F, Int.add_zero, Int.zero_add, Int.one_mul, Int.mul_one, up_eq, up_ne, Int.add_assoc, Int.add_sub_cancel, Int.sub_zero, Int.sub_self, S_215_0, S_215_1, S_215_2, S_215_3, S_215_5, S_215_8, S_215_9, S_215_10, S_215_13, S_215_16, S_215_17, S_215_20, S_215_21, S_215_22, S_215_24, S_215_26, S_215_29, S_215_32, S_215_34, S_215_37, S_215_40, S_215_41, S_215_44, S_215_45, S_215_47, S_215_50, S_215_53, S_215_54, S_215_57, S_215_58, S_215_59, S_215_60, S_215_63, S_215_64, S_215_67, S_215_68, S_215_71, S_215_72, S_215_73, S_215_74, S_215_75, S_215_76, S_215_79, S_215_82, S_215_84, S_215_87, S_215_90, S_215_91, S_215_94, S_215_95, S_215_96, S_215_97, S_215_98, S_215_101, S_215_102, S_215_103, S_215_104, S_215_105, S_215_106, S_215_107, S_215_110, S_215_112, S_215_115, S_215_118, S_215_119, S_215_122, S_215_123, S_215_124, S_215_125, S_215_126, S_215_127, S_215_130, S_215_131, S_215_132, S_215_133, S_215_134, S_215_135, S_215_136, S_215_139, S_215_142, S_215_143, S_215_146, S_215_147, S_215_148, S_215_149, S_215_151, S_215_152, S_215_155, S_215_156, S_215_157, S_215_158, S_215_159, S_215_160, S_215_163, S_215_164, S_215_165, S_215_168, S_215_169, S_215_172, S_215_175, S_215_176, S_215_179, S_215_180, S_215_181, H_122, H_129, H_130, H_140, eo, ev, ea, eb, i1, lI_add, lI_sub, lI_mul, lI_neg, lI_zero, lI_lt, lI_inj, ↓lI_max, ↓lI_min, i2l, l2i, lc_lt, lc_le, lc_gt, lc_ge, lc_eq, m_worked ow ba bb]))
        exact nx
end MS
