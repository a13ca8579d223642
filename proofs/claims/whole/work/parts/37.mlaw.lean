/-! THE REFERENCE: its readings of the text that rules -/
section ML
variable {d : Nat} {X : hX} {s s0 : sg} {Q : Option Value → aH → Prop} {a b t o z f w n k wo lo hi : Int} {A : Int → Int} {l : lawT}
theorem m_says {c : opl} {wb tf : Bool} {p : Int} (hn : ∀ i, 0 ≤ i → i ≤ 5 → (i ≤ 3 ∨ wb = true) → -1000000 ≤ s 139 i ∧ s 139 i ≤ 1000000) (ht : tys wb c [] [tf]) (hc : (c.length : Int) ≤ 300) (h1 : seg (s 129) p (c.map (fun q => q.1) ++ [408])) (h2 : seg (s 130) p (c.map (fun q => q.2))) (hp0 : 0 ≤ p ∧ p + c.length < 2400) (k : ∀ s', Fr [140] s s' → Q (some (.long (lI (hd (evs (s 139) c []))))) (hp X s')) : Wp (d + 2) 215 0 [.ref 122, .int (iI p), .float 0, .float 0, .float 0] [] (hp X s) Q := by
  repeat' (first | (with_reducible refine Br_i ?_ ?_ <;> (intro hbr; first | exact False.elim hbr | skip)) | (with_reducible refine Wl_i ?_) | (simp (disch := first | omega | exact okF _ | exact okI _ | exact okR _ | assumption | exact okN) only [u_at, iI_zero, iI_31, iI_add, iI_sub, iI_mul, iI_neg, ↓iI_max, ↓iI_min, iI_div, emod_f, iI_lt, iI_le, iI_inj, iI_toInt, ↓ii01, ↓ii11, ↓bI_b, bI_0, bI_1, Kt_s, Kt_n, cat0, cat1, cat2, cat3, cat4, rfV, Nat.reduceAdd, Nat.reduceMul, Nat.reduceEqDiff, Int.reduceAdd, Int.reduceSub, Int.reduceMul, Int.reduceNeg, Int.reduceLT, Int.reduceLE, Int.reduceEq, Int.reduceDiv, ↓reduceIte, ↓ite_ww, ↓ite_wi, Br_n, Br_TW, Br_FW, Br_FP, Br_FB, nn_p, and_true, true_and, and_self, true_or, or_true, not_true_eq_false, not_false_eq_true, le_T, le_F, lt_T, lt_F, eq_T, eq_F, Int.add_zero, Int.zero_add, Int.one_mul, Int.mul_one, up_eq, up_ne, Int.add_assoc, Int.add_sub_cancel, Int.sub_zero, Int.sub_self, S_215_0, S_215_1, S_215_2, S_215_3, S_215_5, S_215_8, S_215_9, S_215_10, S_215_13, S_215_16, S_215_17, S_215_20, S_215_21, S_215_22, S_215_24, S_215_26, S_215_29, S_215_32, S_215_34, S_215_37, S_215_40, S_215_41, S_215_44, S_215_45, S_215_47, S_215_50, S_215_53, S_215_54, S_215_57, S_215_58, S_215_59, S_215_60, S_215_63, S_215_64, S_215_67, S_215_68, S_215_71, S_215_72, S_215_73, S_215_74, S_215_75, S_215_76, S_215_79, S_215_82, S_215_84, S_215_87, S_215_90, S_215_91, S_215_94, S_215_95, S_215_96, S_215_97, S_215_98, S_215_101, S_215_102, S_215_103, S_215_104, S_215_105, S_215_106, S_215_107, S_215_110, S_215_112, S_215_115, S_215_118, S_215_119, S_215_122, S_215_123, S_215_124, S_215_125, S_215_126, S_215_127, S_215_130, S_215_131, S_215_132, S_215_133, S_215_134, S_215_135, S_215_136, S_215_139, S_215_142, S_215_143, S_215_146, S_215_147, S_215_148, S_215_149, S_215_151, S_215_152, S_215_155, S_215_156, S_215_157, S_215_158, S_215_159, S_215_160, S_215_163, S_215_164, S_215_165, S_215_168, S_215_169, S_215_172, S_215_175, S_215_176, S_215_179, S_215_180, S_215_181]))
  exact m_says_l (L := c.length) hn hc k c s p 0 [] [] (.float 0) rfl (Fr.rf s) h1 h2 ht trivial rfl hp0 (by omega) rfl
/-- which names are bounded -/
def nmOK (f : Int → Int) (wb : Bool) : Prop := ∀ i, 0 ≤ i → i ≤ 5 → (i ≤ 3 ∨ wb = true) → -1000000 ≤ f i ∧ f i ≤ 1000000
def ofK (c : Int) : Bool := decide (c = 2)
noncomputable def sayW (f : Int → Int) (l : lawT) (w v : Int) : Int := match look l w with
  | none => v
  | some c => hd (evs f c [])
theorem look_cons (c : Int × opl) (r : lawT) (w : Int) : look (c :: r) w = if c.1 = w then some c.2 else look r w := rfl
theorem pair_look {c : Int × opl} {r : lawT} {w : Int} (h : (c :: r).Pairwise (fun a b => ¬ a.1 = 4 → ¬ a.1 = b.1)) (e : c.1 = w) (n : ¬ w = 4) : look r w = none := by
  refine look_no ?_
  intro q hq e2
  exact (List.pairwise_cons.mp h).1 q hq (by omega) (by omega)
theorem m_sum_l {t : Int} (hw : (0 ≤ w ∧ w ≤ 3)) (hn : nmOK (s0 139) (ofK w)) (h5 : s0 123 5 = t) (ht : 0 ≤ t ∧ t < 6) {r : Int} (k : ∀ s' v7, Fr [140] s0 s' → Wp (d + 3) 218 88 [.ref 122, .int (iI w), .int (iI wo), .int (iI lo), .int (iI hi), .long (lI r), .double 0, v7] [] (hp X s') Q) : ∀ (l : lawT) (i : Int) (s : sg) (v : Int), Fr [140] s0 s → lM s0 t i l → (∀ c ∈ l, clOK c) → l.Pairwise (fun a b => ¬ a.1 = 4 → ¬ a.1 = b.1) → sayW (s0 139) l w v = r → (0 ≤ i ∧ i + l.length ≤ 10) → Wp (d + 3) 218 7 [.ref 122, .int (iI w), .int (iI wo), .int (iI lo), .int (iI hi), .long (lI v), .double 0, .int (iI i)] [] (hp X s) Q := by
  intro l
  induction l with
  | nil =>
    intro i s v hf h hc hp hr hi
    have e123 : s 123 5 = t := by rw [hf.g 123 rfl]; exact h5
    have e126 : s 126 t = i := by rw [hf.g 126 rfl]; exact h
    have hr : v = r := hr
    subst hr
    simp only [List.length_nil] at hi
    repeat' (first | (with_reducible refine Br_i ?_ ?_ <;> (intro hbr; first | exact False.elim hbr | skip)) | (with_reducible refine Wl_i ?_) | (simp (disch := first | omega | exact okF _ | exact okI _ | exact okR _ | assumption | exact okN) only [u_at, iI_zero, iI_31, iI_add, iI_sub, iI_mul, iI_neg, ↓iI_max, ↓iI_min, iI_div, emod_f, iI_lt, iI_le, iI_inj, iI_toInt, ↓ii01, ↓ii11, ↓bI_b, bI_0, bI_1, Kt_s, Kt_n, cat0, cat1, cat2, cat3, cat4, rfV, Nat.reduceAdd, Nat.reduceMul, Nat.reduceEqDiff, Int.reduceAdd, Int.reduceSub, Int.reduceMul, Int.reduceNeg, Int.reduceLT, Int.reduceLE, Int.reduceEq, Int.reduceDiv, ↓reduceIte, ↓ite_ww, ↓ite_wi, Br_n, Br_TW, Br_FW, Br_FP, Br_FB, nn_p, and_true, true_and, and_self, true_or, or_true, not_true_eq_false, not_false_eq_true, le_T, le_F, lt_T, lt_F, eq_T, eq_F, Int.add_zero, Int.zero_add, Int.one_mul, Int.mul_one, up_eq, up_ne, Int.add_assoc, Int.add_sub_cancel, Int.sub_zero, Int.sub_self, S_218_0, S_218_1, S_218_2, S_218_2_o, S_218_4, S_218_5, S_218_7, S_218_8, S_218_11, S_218_12, S_218_13, S_218_14, S_218_17, S_218_19, S_218_20, S_218_23, S_218_24, S_218_27, S_218_28, S_218_29, S_218_30, S_218_33, S_218_34, S_218_37, S_218_39, S_218_40, S_218_43, S_218_44, S_218_45, S_218_46, S_218_48, S_218_49, S_218_50, S_218_51, S_218_54, S_218_55, S_218_56, S_218_59, S_218_61, S_218_62, S_218_65, S_218_66, S_218_67, S_218_68, S_218_70, S_218_71, S_218_72, S_218_75, S_218_78, S_218_80, S_218_80_o, S_218_82, S_218_85, S_218_90, S_218_91, S_218_92, S_218_93, S_218_96, S_218_97, S_218_100, S_218_102, S_218_104, S_218_105, S_218_106, S_218_109, S_218_111, S_218_114, S_218_116, S_218_117, H_122, H_123, H_126, e123, e126]))
    exact k s _ hf
  | cons c l ih =>
    intro i s v hf h hc hp hr hi
    obtain ⟨h1, h2, h3, h4, h5'⟩ := h.1
    have e123 : s 123 5 = t := by rw [hf.g 123 rfl]; exact h5
    have hl := lM_len h
    have e126 : s 126 t = i + (c :: l).length := by rw [hf.g 126 rfl]; exact hl
    have e127 : s 127 (10 * t + i) = c.1 := by rw [hf.g 127 rfl]; exact h1
    have e128 := hf.g 128 rfl
    have e139 := hf.g 139 rfl
    simp only [List.length_cons] at e126 hi
    have c1 := hc c List.mem_cons_self
    have b1 := c1.1
    have b2 := c1.2.2
    have ih2 := fun s v hf hr => ih (i + 1) s v hf h.2 (fun q hq => hc q (List.mem_cons_of_mem _ hq)) (List.pairwise_cons.mp hp).2 hr (by omega)
    rw [S_218_7]
    by_cases e : c.1 = w
    · have hr2 : hd (evs (s0 139) c.2 []) = r := by
        rw [← hr]
        unfold sayW
        rw [look_cons, if_pos e]
      have n : sayW (s0 139) l w (hd (evs (s0 139) c.2 [])) = r := by
        unfold sayW
        rw [pair_look hp e (by omega)]
        exact hr2
      repeat' (first | (with_reducible refine Br_i ?_ ?_ <;> (intro hbr; first | exact False.elim hbr | skip)) | (with_reducible refine Wl_i ?_) | (simp (disch := first | omega | exact okF _ | exact okI _ | exact okR _ | assumption | exact okN) only [u_at, iI_zero, iI_31, iI_add, iI_sub, iI_mul, iI_neg, ↓iI_max, ↓iI_min, iI_div, emod_f, iI_lt, iI_le, iI_inj, iI_toInt, ↓ii01, ↓ii11, ↓bI_b, bI_0, bI_1, Kt_s, Kt_n, cat0, cat1, cat2, cat3, cat4, rfV, Nat.reduceAdd, Nat.reduceMul, Nat.reduceEqDiff, Int.reduceAdd, Int.reduceSub, Int.reduceMul, Int.reduceNeg, Int.reduceLT, Int.reduceLE, Int.reduceEq, Int.reduceDiv, ↓reduceIte, ↓ite_ww, ↓ite_wi, Br_n, Br_TW, Br_FW, Br_FP, Br_FB, nn_p, and_true, true_and, and_self, true_or, or_true, not_true_eq_false, not_false_eq_true, le_T, le_F, lt_T, lt_F, eq_T, eq_F, Int.add_zero, Int.zero_add, Int.one_mul, Int.mul_one, up_eq, up_ne, Int.add_assoc, Int.add_sub_cancel, Int.sub_zero, Int.sub_self, S_218_0, S_218_1, S_218_2, S_218_2_o, S_218_4, S_218_5, S_218_8, S_218_11, S_218_12, S_218_13, S_218_14, S_218_17, S_218_19, S_218_20, S_218_23, S_218_24, S_218_27, S_218_28, S_218_29, S_218_30, S_218_33, S_218_34, S_218_37, S_218_39, S_218_40, S_218_43, S_218_44, S_218_45, S_218_46, S_218_48, S_218_49, S_218_50, S_218_51, S_218_54, S_218_55, S_218_56, S_218_59, S_218_61, S_218_62, S_218_65, S_218_66, S_218_67, S_218_68, S_218_70, S_218_71, S_218_72, S_218_75, S_218_78, S_218_80, S_218_80_o, S_218_82, S_218_85, S_218_90, S_218_91, S_218_92, S_218_93, S_218_96, S_218_97, S_218_100, S_218_102, S_218_104, S_218_105, S_218_106, S_218_109, S_218_111, S_218_114, S_218_116, S_218_117, H_122, H_123, H_126, H_127, H_128, e123, e126, e127, e128, lI_add, lI_sub, lI_mul, lI_neg, lI_zero, lI_lt, lI_inj, ↓lI_max, ↓lI_min, i2l, l2i, lc_lt, lc_le, lc_gt, lc_ge, lc_eq]))
      refine m_says (wb := ofK w) (tf := false) (p := s0 128 (10 * t + i)) ?_ ?_ b2 ?_ ?_ ?_ ?_
      · rw [e139]; exact hn
      · rcases c1.2.1 with ⟨q, _⟩ | ⟨_, q⟩
        · omega
        · rw [e] at q; exact q
      · rw [hf.g 129 rfl]; exact h4
      · rw [hf.g 130 rfl]; exact h5'
      · exact ⟨h2, h3.1⟩
      · intro s' hf'
        rw [e139]
        repeat' (first | (with_reducible refine Br_i ?_ ?_ <;> (intro hbr; first | exact False.elim hbr | skip)) | (with_reducible refine Wl_i ?_) | (simp (disch := first | omega | exact okF _ | exact okI _ | exact okR _ | assumption | exact okN) only [u_at, iI_zero, iI_31, iI_add, iI_sub, iI_mul, iI_neg, ↓iI_max, ↓iI_min, iI_div, emod_f, iI_lt, iI_le, iI_inj, iI_toInt, ↓ii01, ↓ii11, ↓bI_b, bI_0, bI_1, Kt_s, Kt_n, cat0, cat1, cat2, cat3, cat4, rfV, Nat.reduceAdd, Nat.reduceMul, Nat.reduceEqDiff, Int.reduceAdd, Int.reduceSub, Int.reduceMul, Int.reduceNeg, Int.reduceLT, Int.reduceLE, Int.reduceEq, Int.reduceDiv, ↓reduceIte, ↓ite_ww, ↓ite_wi, Br_n, Br_TW, Br_FW, Br_FP, Br_FB, nn_p, and_true, true_and, and_self, true_or, or_true, not_true_eq_false, not_false_eq_true, le_T, le_F, lt_T, lt_F, eq_T, eq_F, Int.add_zero, Int.zero_add, Int.one_mul, Int.mul_one, up_eq, up_ne, Int.add_assoc, Int.add_sub_cancel, Int.sub_zero, Int.sub_self, S_218_0, S_218_1, S_218_2, S_218_2_o, S_218_4, S_218_5, S_218_8, S_218_11, S_218_12, S_218_13, S_218_14, S_218_17, S_218_19, S_218_20, S_218_23, S_218_24, S_218_27, S_218_28, S_218_29, S_218_30, S_218_33, S_218_34, S_218_37, S_218_39, S_218_40, S_218_43, S_218_44, S_218_45, S_218_46, S_218_48, S_218_49, S_218_50, S_218_51, S_218_54, S_218_55, S_218_56, S_218_59, S_218_61, S_218_62, S_218_65, S_218_66, S_218_67, S_218_68, S_218_70, S_218_71, S_218_72, S_218_75, S_218_78, S_218_80, S_218_80_o, S_218_82, S_218_85, S_218_90, S_218_91, S_218_92, S_218_93, S_218_96, S_218_97, S_218_100, S_218_102, S_218_104, S_218_105, S_218_106, S_218_109, S_218_111, S_218_114, S_218_116, S_218_117]))
        exact ih2 s' _ (hf.tr hf') n
    · have n : sayW (s0 139) l w v = r := by
        rw [← hr]
        unfold sayW
        rw [look_cons, if_neg e]
      repeat' (first | (with_reducible refine Br_i ?_ ?_ <;> (intro hbr; first | exact False.elim hbr | skip)) | (with_reducible refine Wl_i ?_) | (simp (disch := first | omega | exact okF _ | exact okI _ | exact okR _ | assumption | exact okN) only [u_at, iI_zero, iI_31, iI_add, iI_sub, iI_mul, iI_neg, ↓iI_max, ↓iI_min, iI_div, emod_f, iI_lt, iI_le, iI_inj, iI_toInt, ↓ii01, ↓ii11, ↓bI_b, bI_0, bI_1, Kt_s, Kt_n, cat0, cat1, cat2, cat3, cat4, rfV, Nat.reduceAdd, Nat.reduceMul, Nat.reduceEqDiff, Int.reduceAdd, Int.reduceSub, Int.reduceMul, Int.reduceNeg, Int.reduceLT, Int.reduceLE, Int.reduceEq, Int.reduceDiv, ↓reduceIte, ↓ite_ww, ↓ite_wi, Br_n, Br_TW, Br_FW, Br_FP, Br_FB, nn_p, and_true, true_and, and_self, true_or, or_true, not_true_eq_false, not_false_eq_true, le_T, le_F, lt_T, lt_F, eq_T, eq_F, Int.add_zero, Int.zero_add, Int.one_mul, Int.mul_one, up_eq, up_ne, Int.add_assoc, Int.add_sub_cancel, Int.sub_zero, Int.sub_self, S_218_0, S_218_1, S_218_2, S_218_2_o, S_218_4, S_218_5, S_218_8, S_218_11, S_218_12, S_218_13, S_218_14, S_218_17, S_218_19, S_218_20, S_218_23, S_218_24, S_218_27, S_218_28, S_218_29, S_218_30, S_218_33, S_218_34, S_218_37, S_218_39, S_218_40, S_218_43, S_218_44, S_218_45, S_218_46, S_218_48, S_218_49, S_218_50, S_218_51, S_218_54, S_218_55, S_218_56, S_218_59, S_218_61, S_218_62, S_218_65, S_218_66, S_218_67, S_218_68, S_218_70, S_218_71, S_218_72, S_218_75, S_218_78, S_218_80, S_218_80_o, S_218_82, S_218_85, S_218_90, S_218_91, S_218_92, S_218_93, S_218_96, S_218_97, S_218_100, S_218_102, S_218_104, S_218_105, S_218_106, S_218_109, S_218_111, S_218_114, S_218_116, S_218_117, H_122, H_123, H_126, H_127, H_128, e123, e126, e127, e128, lI_add, lI_sub, lI_mul, lI_neg, lI_zero, lI_lt, lI_inj, ↓lI_max, ↓lI_min, i2l, l2i, lc_lt, lc_le, lc_gt, lc_ge, lc_eq]))
      exact ih2 s v hf n
theorem sayW_ok {f : Int → Int} (hn : nmOK f (ofK w)) (hl : lawOK l) (hw : 0 ≤ w ∧ w ≤ 3) {v : Int} (hv : -1000000 ≤ v ∧ v ≤ 1000000) : -1000000 ≤ sayW f l w v ∧ sayW f l w v ≤ 1000000 := by
  unfold sayW
  cases e : look l w with
  | none => exact hv
  | some c =>
    have q := hl.2.1 _ (look_in e)
    rcases q.2.1 with ⟨q1, _⟩ | ⟨_, q1⟩
    · have q1 : w = 4 := q1
      omega
    · exact hd_ok (w := ofK w) (t := false) hn q1
theorem m_sumOf (hc : curM s l) (hl : lawOK l) (hw : 0 ≤ w ∧ w ≤ 3) (hn : nmOK (s 139) (ofK w)) (hb : (-9999 ≤ lo ∧ lo ≤ hi ∧ hi ≤ 9999) ∧ -1000000 ≤ wo ∧ wo ≤ 1000000) (k : ∀ s', Fr [140] s s' → Q (some (.int (iI (max lo (min hi (sayW (s 139) l w wo)))))) (hp X s')) : Wp (d + 3) 218 0 [.ref 122, .int (iI w), .int (iI wo), .int (iI lo), .int (iI hi), .float 0, .float 0, .float 0] [] (hp X s) Q := by
  have r := sayW_ok hn hl hw hb.2
  have fin : ∀ s' v7, Fr [140] s s' → Wp (d + 3) 218 88 [.ref 122, .int (iI w), .int (iI wo), .int (iI lo), .int (iI hi), .long (lI (sayW (s 139) l w wo)), .double 0, v7] [] (hp X s') Q := by
    intro s' v7 hf
    have k := k s' hf
    repeat' (first | (with_reducible refine Br_i ?_ ?_ <;> (intro hbr; first | exact False.elim hbr | skip)) | (with_reducible refine Wl_i ?_) | (simp (disch := first | omega | exact okF _ | exact okI _ | exact okR _ | assumption | exact okN) only [u_at, iI_zero, iI_31, iI_add, iI_sub, iI_mul, iI_neg, ↓iI_max, ↓iI_min, iI_div, emod_f, iI_lt, iI_le, iI_inj, iI_toInt, ↓ii01, ↓ii11, ↓bI_b, bI_0, bI_1, Kt_s, Kt_n, cat0, cat1, cat2, cat3, cat4, rfV, Nat.reduceAdd, Nat.reduceMul, Nat.reduceEqDiff, Int.reduceAdd, Int.reduceSub, Int.reduceMul, Int.reduceNeg, Int.reduceLT, Int.reduceLE, Int.reduceEq, Int.reduceDiv, ↓reduceIte, ↓ite_ww, ↓ite_wi, Br_n, Br_TW, Br_FW, Br_FP, Br_FB, nn_p, and_true, true_and, and_self, true_or, or_true, not_true_eq_false, not_false_eq_true, le_T, le_F, lt_T, lt_F, eq_T, eq_F, Int.add_zero, Int.zero_add, Int.one_mul, Int.mul_one, up_eq, up_ne, Int.add_assoc, Int.add_sub_cancel, Int.sub_zero, Int.sub_self, S_218_0, S_218_1, S_218_2, S_218_2_o, S_218_4, S_218_5, S_218_7, S_218_8, S_218_11, S_218_12, S_218_13, S_218_14, S_218_17, S_218_19, S_218_20, S_218_23, S_218_24, S_218_27, S_218_28, S_218_29, S_218_30, S_218_33, S_218_34, S_218_37, S_218_39, S_218_40, S_218_43, S_218_44, S_218_45, S_218_46, S_218_48, S_218_49, S_218_50, S_218_51, S_218_54, S_218_55, S_218_56, S_218_59, S_218_61, S_218_62, S_218_65, S_218_66, S_218_67, S_218_68, S_218_70, S_218_71, S_218_72, S_218_75, S_218_78, S_218_80, S_218_80_o, S_218_82, S_218_85, S_218_88, S_218_90, S_218_91, S_218_92, S_218_93, S_218_96, S_218_97, S_218_100, S_218_102, S_218_104, S_218_105, S_218_106, S_218_109, S_218_111, S_218_114, S_218_116, S_218_117, lI_add, lI_sub, lI_mul, lI_neg, lI_zero, lI_lt, lI_inj, ↓lI_max, ↓lI_min, i2l, l2i, lc_lt, lc_le, lc_gt, lc_ge, lc_eq]))
    all_goals first | (rw [show max lo (min hi (sayW (s 139) l w wo)) = lo by omega] at k; exact k) | (rw [show max lo (min hi (sayW (s 139) l w wo)) = hi by omega] at k; exact k) | (rw [show max lo (min hi (sayW (s 139) l w wo)) = sayW (s 139) l w wo by omega] at k; exact k)
  rcases hc with ⟨h1, h2⟩ | ⟨h1, h2⟩
  · subst h2
    repeat' (first | (with_reducible refine Br_i ?_ ?_ <;> (intro hbr; first | exact False.elim hbr | skip)) | (with_reducible refine Wl_i ?_) | (simp (disch := first | omega | exact okF _ | exact okI _ | exact okR _ | assumption | exact okN) only [u_at, iI_zero, iI_31, iI_add, iI_sub, iI_mul, iI_neg, ↓iI_max, ↓iI_min, iI_div, emod_f, iI_lt, iI_le, iI_inj, iI_toInt, ↓ii01, ↓ii11, ↓bI_b, bI_0, bI_1, Kt_s, Kt_n, cat0, cat1, cat2, cat3, cat4, rfV, Nat.reduceAdd, Nat.reduceMul, Nat.reduceEqDiff, Int.reduceAdd, Int.reduceSub, Int.reduceMul, Int.reduceNeg, Int.reduceLT, Int.reduceLE, Int.reduceEq, Int.reduceDiv, ↓reduceIte, ↓ite_ww, ↓ite_wi, Br_n, Br_TW, Br_FW, Br_FP, Br_FB, nn_p, and_true, true_and, and_self, true_or, or_true, not_true_eq_false, not_false_eq_true, le_T, le_F, lt_T, lt_F, eq_T, eq_F, Int.add_zero, Int.zero_add, Int.one_mul, Int.mul_one, up_eq, up_ne, Int.add_assoc, Int.add_sub_cancel, Int.sub_zero, Int.sub_self, S_218_0, S_218_1, S_218_2, S_218_2_o, S_218_4, S_218_5, S_218_7, S_218_8, S_218_11, S_218_12, S_218_13, S_218_14, S_218_17, S_218_19, S_218_20, S_218_23, S_218_24, S_218_27, S_218_28, S_218_29, S_218_30, S_218_33, S_218_34, S_218_37, S_218_39, S_218_40, S_218_43, S_218_44, S_218_45, S_218_46, S_218_48, S_218_49, S_218_50, S_218_51, S_218_54, S_218_55, S_218_56, S_218_59, S_218_61, S_218_62, S_218_65, S_218_66, S_218_67, S_218_68, S_218_70, S_218_71, S_218_72, S_218_75, S_218_78, S_218_80, S_218_80_o, S_218_82, S_218_85, S_218_90, S_218_91, S_218_92, S_218_93, S_218_96, S_218_97, S_218_100, S_218_102, S_218_104, S_218_105, S_218_106, S_218_109, S_218_111, S_218_114, S_218_116, S_218_117, H_122, H_123, h1, lI_add, lI_sub, lI_mul, lI_neg, lI_zero, lI_lt, lI_inj, ↓lI_max, ↓lI_min, i2l, l2i, lc_lt, lc_le, lc_gt, lc_ge, lc_eq]))
    exact fin s _ (Fr.rf s)
  · repeat' (first | (with_reducible refine Br_i ?_ ?_ <;> (intro hbr; first | exact False.elim hbr | skip)) | (with_reducible refine Wl_i ?_) | (simp (disch := first | omega | exact okF _ | exact okI _ | exact okR _ | assumption | exact okN) only [u_at, iI_zero, iI_31, iI_add, iI_sub, iI_mul, iI_neg, ↓iI_max, ↓iI_min, iI_div, emod_f, iI_lt, iI_le, iI_inj, iI_toInt, ↓ii01, ↓ii11, ↓bI_b, bI_0, bI_1, Kt_s, Kt_n, cat0, cat1, cat2, cat3, cat4, rfV, Nat.reduceAdd, Nat.reduceMul, Nat.reduceEqDiff, Int.reduceAdd, Int.reduceSub, Int.reduceMul, Int.reduceNeg, Int.reduceLT, Int.reduceLE, Int.reduceEq, Int.reduceDiv, ↓reduceIte, ↓ite_ww, ↓ite_wi, Br_n, Br_TW, Br_FW, Br_FP, Br_FB, nn_p, and_true, true_and, and_self, true_or, or_true, not_true_eq_false, not_false_eq_true, le_T, le_F, lt_T, lt_F, eq_T, eq_F, Int.add_zero, Int.zero_add, Int.one_mul, Int.mul_one, up_eq, up_ne, Int.add_assoc, Int.add_sub_cancel, Int.sub_zero, Int.sub_self, S_218_0, S_218_1, S_218_2, S_218_2_o, S_218_4, S_218_5, S_218_8, S_218_11, S_218_12, S_218_13, S_218_14, S_218_17, S_218_19, S_218_20, S_218_23, S_218_24, S_218_27, S_218_28, S_218_29, S_218_30, S_218_33, S_218_34, S_218_37, S_218_39, S_218_40, S_218_43, S_218_44, S_218_45, S_218_46, S_218_48, S_218_49, S_218_50, S_218_51, S_218_54, S_218_55, S_218_56, S_218_59, S_218_61, S_218_62, S_218_65, S_218_66, S_218_67, S_218_68, S_218_70, S_218_71, S_218_72, S_218_75, S_218_78, S_218_80, S_218_80_o, S_218_82, S_218_85, S_218_88, S_218_90, S_218_91, S_218_92, S_218_93, S_218_96, S_218_97, S_218_100, S_218_102, S_218_104, S_218_105, S_218_106, S_218_109, S_218_111, S_218_114, S_218_116, S_218_117, lI_add, lI_sub, lI_mul, lI_neg, lI_zero, lI_lt, lI_inj, ↓lI_max, ↓lI_min, i2l, l2i, lc_lt, lc_le, lc_gt, lc_ge, lc_eq]))
    have hlen := hl.1
    exact m_sum_l hw hn rfl h1 fin l 0 s wo (Fr.rf s) h2 hl.2.1 hl.2.2 rfl (by omega)
theorem m_isTold_l {t : Int} (hw : (0 ≤ w ∧ w ≤ 3)) (h5 : s 123 5 = t) (ht : 0 ≤ t ∧ t < 6) {r : Prop} : ∀ (l : lawT) (i : Int) (b : Prop), lM s t i l → (∀ c ∈ l, clOK c) → ((b ∨ ¬ look l w = none) ↔ r) → (0 ≤ i ∧ i + l.length ≤ 10) → Wp d 219 4 [.ref 122, .int (iI w), .int (iI (bZ b)), .int (iI i)] [] (hp X s) Q = Q (some (.int (iI (bZ r)))) (hp X s) := by
  intro l
  induction l with
  | nil =>
    intro i b h hc hr hi
    have e126 : s 126 t = i := h
    have hr : b ↔ r := by rw [← hr]; exact ⟨Or.inl, fun x => x.elim id (fun y => absurd rfl y)⟩
    simp only [List.length_nil] at hi
    rw [← propext hr]
    simp (disch := first | omega | exact okF _ | exact okI _ | exact okR _ | assumption | exact okN) only [S_219_0, S_219_1, S_219_2, S_219_3, S_219_4, S_219_5, S_219_8, S_219_9, S_219_10, S_219_11, S_219_14, S_219_15, S_219_16, S_219_19, S_219_20, S_219_23, S_219_24, S_219_25, S_219_26, S_219_29, S_219_30, S_219_33, S_219_34, S_219_37, S_219_39, S_219_40, S_219_43, S_219_44, S_219_45, S_219_46, S_219_47, S_219_48, S_219_49, S_219_50, S_219_53, S_219_54, S_219_57, S_219_58, S_219_59, S_219_62, S_219_65, S_219_66, u_at, iI_zero, iI_31, iI_add, iI_sub, iI_mul, iI_neg, ↓iI_max, ↓iI_min, iI_div, emod_f, iI_lt, iI_le, iI_inj, iI_toInt, ↓ii01, ↓ii11, ↓bI_b, bI_0, bI_1, Kt_s, Kt_n, cat0, cat1, cat2, cat3, cat4, rfV, Nat.reduceAdd, Nat.reduceMul, Nat.reduceEqDiff, Int.reduceAdd, Int.reduceSub, Int.reduceMul, Int.reduceNeg, Int.reduceLT, Int.reduceLE, Int.reduceEq, Int.reduceDiv, ↓reduceIte, ↓ite_ww, ↓ite_wi, Br_n, Br_TW, Br_FW, Br_FP, Br_FB, nn_p, and_true, true_and, and_self, true_or, or_true, not_true_eq_false, not_false_eq_true, le_T, le_F, lt_T, lt_F, eq_T, eq_F, Int.add_zero, Int.zero_add, Int.one_mul, Int.mul_one, up_eq, up_ne, Int.add_assoc, Int.add_sub_cancel, Int.sub_zero, Int.sub_self, H_122, H_123, H_126, h5, e126]
  | cons c l ih =>
    intro i b h hc hr hi
    obtain ⟨h1, h2, h3, h4, h5'⟩ := h.1
    have hl := lM_len h
    simp only [List.length_cons] at hl hi
    have b1 := (hc c List.mem_cons_self).1
    have ih2 := fun b hr => ih (i + 1) b h.2 (fun q hq => hc q (List.mem_cons_of_mem _ hq)) hr (by omega)
    by_cases hb : b
    · rw [bZ_T hb, ← ih2 b (by rw [← hr]; exact ⟨fun _ => Or.inl hb, fun _ => Or.inl hb⟩), bZ_T hb, S_219_4]
      simp (disch := first | omega | exact okF _ | exact okI _ | exact okR _ | assumption | exact okN) only [S_219_0, S_219_1, S_219_2, S_219_3, S_219_5, S_219_8, S_219_9, S_219_10, S_219_11, S_219_14, S_219_15, S_219_16, S_219_19, S_219_20, S_219_23, S_219_24, S_219_25, S_219_26, S_219_29, S_219_30, S_219_33, S_219_34, S_219_37, S_219_39, S_219_40, S_219_43, S_219_44, S_219_45, S_219_46, S_219_47, S_219_48, S_219_49, S_219_50, S_219_53, S_219_54, S_219_57, S_219_58, S_219_59, S_219_62, S_219_65, S_219_66, u_at, iI_zero, iI_31, iI_add, iI_sub, iI_mul, iI_neg, ↓iI_max, ↓iI_min, iI_div, emod_f, iI_lt, iI_le, iI_inj, iI_toInt, ↓ii01, ↓ii11, ↓bI_b, bI_0, bI_1, Kt_s, Kt_n, cat0, cat1, cat2, cat3, cat4, rfV, Nat.reduceAdd, Nat.reduceMul, Nat.reduceEqDiff, Int.reduceAdd, Int.reduceSub, Int.reduceMul, Int.reduceNeg, Int.reduceLT, Int.reduceLE, Int.reduceEq, Int.reduceDiv, ↓reduceIte, ↓ite_ww, ↓ite_wi, Br_n, Br_TW, Br_FW, Br_FP, Br_FB, nn_p, and_true, true_and, and_self, true_or, or_true, not_true_eq_false, not_false_eq_true, le_T, le_F, lt_T, lt_F, eq_T, eq_F, Int.add_zero, Int.zero_add, Int.one_mul, Int.mul_one, up_eq, up_ne, Int.add_assoc, Int.add_sub_cancel, Int.sub_zero, Int.sub_self, H_122, H_123, H_126, H_127, h5, hl, h1]
    · by_cases e : c.1 = w
      · rw [bZ_F hb, ← ih2 True (by rw [← hr]; exact ⟨fun _ => Or.inr (by rw [look_cons, if_pos e]; simp), fun _ => Or.inl trivial⟩), bZ_T trivial, S_219_4]
        simp (disch := first | omega | exact okF _ | exact okI _ | exact okR _ | assumption | exact okN) only [S_219_0, S_219_1, S_219_2, S_219_3, S_219_5, S_219_8, S_219_9, S_219_10, S_219_11, S_219_14, S_219_15, S_219_16, S_219_19, S_219_20, S_219_23, S_219_24, S_219_25, S_219_26, S_219_29, S_219_30, S_219_33, S_219_34, S_219_37, S_219_39, S_219_40, S_219_43, S_219_44, S_219_45, S_219_46, S_219_47, S_219_48, S_219_49, S_219_50, S_219_53, S_219_54, S_219_57, S_219_58, S_219_59, S_219_62, S_219_65, S_219_66, u_at, iI_zero, iI_31, iI_add, iI_sub, iI_mul, iI_neg, ↓iI_max, ↓iI_min, iI_div, emod_f, iI_lt, iI_le, iI_inj, iI_toInt, ↓ii01, ↓ii11, ↓bI_b, bI_0, bI_1, Kt_s, Kt_n, cat0, cat1, cat2, cat3, cat4, rfV, Nat.reduceAdd, Nat.reduceMul, Nat.reduceEqDiff, Int.reduceAdd, Int.reduceSub, Int.reduceMul, Int.reduceNeg, Int.reduceLT, Int.reduceLE, Int.reduceEq, Int.reduceDiv, ↓reduceIte, ↓ite_ww, ↓ite_wi, Br_n, Br_TW, Br_FW, Br_FP, Br_FB, nn_p, and_true, true_and, and_self, true_or, or_true, not_true_eq_false, not_false_eq_true, le_T, le_F, lt_T, lt_F, eq_T, eq_F, Int.add_zero, Int.zero_add, Int.one_mul, Int.mul_one, up_eq, up_ne, Int.add_assoc, Int.add_sub_cancel, Int.sub_zero, Int.sub_self, H_122, H_123, H_126, H_127, h5, hl, h1]
      · rw [bZ_F hb, ← ih2 b (by rw [← hr]; rw [look_cons, if_neg e]), bZ_F hb, S_219_4]
        simp (disch := first | omega | exact okF _ | exact okI _ | exact okR _ | assumption | exact okN) only [S_219_0, S_219_1, S_219_2, S_219_3, S_219_5, S_219_8, S_219_9, S_219_10, S_219_11, S_219_14, S_219_15, S_219_16, S_219_19, S_219_20, S_219_23, S_219_24, S_219_25, S_219_26, S_219_29, S_219_30, S_219_33, S_219_34, S_219_37, S_219_39, S_219_40, S_219_43, S_219_44, S_219_45, S_219_46, S_219_47, S_219_48, S_219_49, S_219_50, S_219_53, S_219_54, S_219_57, S_219_58, S_219_59, S_219_62, S_219_65, S_219_66, u_at, iI_zero, iI_31, iI_add, iI_sub, iI_mul, iI_neg, ↓iI_max, ↓iI_min, iI_div, emod_f, iI_lt, iI_le, iI_inj, iI_toInt, ↓ii01, ↓ii11, ↓bI_b, bI_0, bI_1, Kt_s, Kt_n, cat0, cat1, cat2, cat3, cat4, rfV, Nat.reduceAdd, Nat.reduceMul, Nat.reduceEqDiff, Int.reduceAdd, Int.reduceSub, Int.reduceMul, Int.reduceNeg, Int.reduceLT, Int.reduceLE, Int.reduceEq, Int.reduceDiv, ↓reduceIte, ↓ite_ww, ↓ite_wi, Br_n, Br_TW, Br_FW, Br_FP, Br_FB, nn_p, and_true, true_and, and_self, true_or, or_true, not_true_eq_false, not_false_eq_true, le_T, le_F, lt_T, lt_F, eq_T, eq_F, Int.add_zero, Int.zero_add, Int.one_mul, Int.mul_one, up_eq, up_ne, Int.add_assoc, Int.add_sub_cancel, Int.sub_zero, Int.sub_self, H_122, H_123, H_126, H_127, h5, hl, h1]
theorem m_isTold (hc : curM s l) (hl : lawOK l) (hw : 0 ≤ w ∧ w ≤ 3) : Wp d 219 0 [.ref 122, .int (iI w), .float 0, .float 0] [] (hp X s) Q = Q (some (.int (iI (bZ (¬ look l w = none))))) (hp X s) := by
  rcases hc with ⟨h1, h2⟩ | ⟨h1, h2⟩
  · subst h2
    rw [bZ_F (fun x => x rfl)]
    simp (disch := first | omega | exact okF _ | exact okI _ | exact okR _ | assumption | exact okN) only [S_219_0, S_219_1, S_219_2, S_219_3, S_219_4, S_219_5, S_219_8, S_219_9, S_219_10, S_219_11, S_219_14, S_219_15, S_219_16, S_219_19, S_219_20, S_219_23, S_219_24, S_219_25, S_219_26, S_219_29, S_219_30, S_219_33, S_219_34, S_219_37, S_219_39, S_219_40, S_219_43, S_219_44, S_219_45, S_219_46, S_219_47, S_219_48, S_219_49, S_219_50, S_219_53, S_219_54, S_219_57, S_219_58, S_219_59, S_219_62, S_219_65, S_219_66, u_at, iI_zero, iI_31, iI_add, iI_sub, iI_mul, iI_neg, ↓iI_max, ↓iI_min, iI_div, emod_f, iI_lt, iI_le, iI_inj, iI_toInt, ↓ii01, ↓ii11, ↓bI_b, bI_0, bI_1, Kt_s, Kt_n, cat0, cat1, cat2, cat3, cat4, rfV, Nat.reduceAdd, Nat.reduceMul, Nat.reduceEqDiff, Int.reduceAdd, Int.reduceSub, Int.reduceMul, Int.reduceNeg, Int.reduceLT, Int.reduceLE, Int.reduceEq, Int.reduceDiv, ↓reduceIte, ↓ite_ww, ↓ite_wi, Br_n, Br_TW, Br_FW, Br_FP, Br_FB, nn_p, and_true, true_and, and_self, true_or, or_true, not_true_eq_false, not_false_eq_true, le_T, le_F, lt_T, lt_F, eq_T, eq_F, Int.add_zero, Int.zero_add, Int.one_mul, Int.mul_one, up_eq, up_ne, Int.add_assoc, Int.add_sub_cancel, Int.sub_zero, Int.sub_self, H_122, H_123, h1]
  · have hlen := hl.1
    have e := m_isTold_l (d := d) (X := X) (Q := Q) hw rfl h1 l 0 False h2 hl.2.1 (r := ¬ look l w = none) ⟨fun x => x.elim False.elim id, Or.inr⟩ (by omega)
    rw [bZ_F not_false] at e
    rw [← e]
    simp (disch := first | omega | exact okF _ | exact okI _ | exact okR _ | assumption | exact okN) only [S_219_0, S_219_1, S_219_2, S_219_3, S_219_5, S_219_8, S_219_9, S_219_10, S_219_11, S_219_14, S_219_15, S_219_16, S_219_19, S_219_20, S_219_23, S_219_24, S_219_25, S_219_26, S_219_29, S_219_30, S_219_33, S_219_34, S_219_37, S_219_39, S_219_40, S_219_43, S_219_44, S_219_45, S_219_46, S_219_47, S_219_48, S_219_49, S_219_50, S_219_53, S_219_54, S_219_57, S_219_58, S_219_59, S_219_62, S_219_65, S_219_66, u_at, iI_zero, iI_31, iI_add, iI_sub, iI_mul, iI_neg, ↓iI_max, ↓iI_min, iI_div, emod_f, iI_lt, iI_le, iI_inj, iI_toInt, ↓ii01, ↓ii11, ↓bI_b, bI_0, bI_1, Kt_s, Kt_n, cat0, cat1, cat2, cat3, cat4, rfV, Nat.reduceAdd, Nat.reduceMul, Nat.reduceEqDiff, Int.reduceAdd, Int.reduceSub, Int.reduceMul, Int.reduceNeg, Int.reduceLT, Int.reduceLE, Int.reduceEq, Int.reduceDiv, ↓reduceIte, ↓ite_ww, ↓ite_wi, Br_n, Br_TW, Br_FW, Br_FP, Br_FB, nn_p, and_true, true_and, and_self, true_or, or_true, not_true_eq_false, not_false_eq_true, le_T, le_F, lt_T, lt_F, eq_T, eq_F, Int.add_zero, Int.zero_add, Int.one_mul, Int.mul_one, up_eq, up_ne, Int.add_assoc, Int.add_sub_cancel, Int.sub_zero, Int.sub_self]
def barF (f : Int → Int) (l : lawT) : Prop := ∃ c, (4, c) ∈ l ∧ ¬ hd (evs f c []) = 0
theorem m_barred_l {t : Int} {v1 v2 v3 : Value} (hn : nmOK (s0 139) false) (h5 : s0 123 5 = t) (ht : 0 ≤ t ∧ t < 6) {r : Prop} (k : ∀ s', Fr [140] s0 s' → Q (some (.int (iI (bZ r)))) (hp X s')) : ∀ (l : lawT) (i : Int) (s : sg) (b : Prop), Fr [140] s0 s → lM s0 t i l → (∀ c ∈ l, clOK c) → ((b ∨ barF (s0 139) l) ↔ r) → (0 ≤ i ∧ i + l.length ≤ 10) → Wp (d + 3) 224 13 [.ref 122, v1, v2, v3, .int (iI (bZ b)), .int (iI i)] [] (hp X s) Q := by
  intro l
  induction l with
  | nil =>
    intro i s b hf h hc hr hi
    have e123 : s 123 5 = t := by rw [hf.g 123 rfl]; exact h5
    have e126 : s 126 t = i := by rw [hf.g 126 rfl]; exact h
    have hr : b ↔ r := by
      rw [← hr]
      refine ⟨Or.inl, fun x => x.elim id (fun ⟨c, hc, _⟩ => ?_)⟩
      cases hc
    have k := k s hf
    rw [← propext hr] at k
    simp only [List.length_nil] at hi
    repeat' (first | (with_reducible refine Br_i ?_ ?_ <;> (intro hbr; first | exact False.elim hbr | skip)) | (with_reducible refine Wl_i ?_) | (simp (disch := first | omega | exact okF _ | exact okI _ | exact okR _ | assumption | exact okN) only [u_at, iI_zero, iI_31, iI_add, iI_sub, iI_mul, iI_neg, ↓iI_max, ↓iI_min, iI_div, emod_f, iI_lt, iI_le, iI_inj, iI_toInt, ↓ii01, ↓ii11, ↓bI_b, bI_0, bI_1, Kt_s, Kt_n, cat0, cat1, cat2, cat3, cat4, rfV, Nat.reduceAdd, Nat.reduceMul, Nat.reduceEqDiff, Int.reduceAdd, Int.reduceSub, Int.reduceMul, Int.reduceNeg, Int.reduceLT, Int.reduceLE, Int.reduceEq, Int.reduceDiv, ↓reduceIte, ↓ite_ww, ↓ite_wi, Br_n, Br_TW, Br_FW, Br_FP, Br_FB, nn_p, and_true, true_and, and_self, true_or, or_true, not_true_eq_false, not_false_eq_true, le_T, le_F, lt_T, lt_F, eq_T, eq_F, Int.add_zero, Int.zero_add, Int.one_mul, Int.mul_one, up_eq, up_ne, Int.add_assoc, Int.add_sub_cancel, Int.sub_zero, Int.sub_self, S_224_0, S_224_1, S_224_2, S_224_3, S_224_4, S_224_7, S_224_8, S_224_10, S_224_11, S_224_13, S_224_14, S_224_17, S_224_18, S_224_19, S_224_20, S_224_23, S_224_25, S_224_26, S_224_29, S_224_30, S_224_33, S_224_34, S_224_35, S_224_36, S_224_39, S_224_41, S_224_44, S_224_45, S_224_48, S_224_50, S_224_51, S_224_54, S_224_55, S_224_56, S_224_57, S_224_59, S_224_60, S_224_61, S_224_62, S_224_65, S_224_66, S_224_67, S_224_70, S_224_72, S_224_73, S_224_76, S_224_77, S_224_78, S_224_79, S_224_81, S_224_82, S_224_83, S_224_86, S_224_87, S_224_88, S_224_91, S_224_92, S_224_95, S_224_96, S_224_98, S_224_101, S_224_104, S_224_106, H_122, H_123, H_126, e123, e126]))
    exact k
  | cons c l ih =>
    intro i s b hf h hc hr hi
    obtain ⟨h1, h2, h3, h4, h5'⟩ := h.1
    have e123 : s 123 5 = t := by rw [hf.g 123 rfl]; exact h5
    have hl := lM_len h
    have e126 : s 126 t = i + (c :: l).length := by rw [hf.g 126 rfl]; exact hl
    have e127 : s 127 (10 * t + i) = c.1 := by rw [hf.g 127 rfl]; exact h1
    have e128 := hf.g 128 rfl
    have e139 := hf.g 139 rfl
    simp only [List.length_cons] at e126 hi
    have c1 := hc c List.mem_cons_self
    have b1 := c1.1
    have b2 := c1.2.2
    have ih2 := fun s b hf hr => ih (i + 1) s b hf h.2 (fun q hq => hc q (List.mem_cons_of_mem _ hq)) hr (by omega)
    rw [S_224_13]
    by_cases hb : b
    · have n := ih2 s True hf (by rw [← hr]; exact ⟨fun _ => Or.inl hb, fun _ => Or.inl trivial⟩)
      rw [bZ_T trivial] at n
      rw [bZ_T hb]
      repeat' (first | (with_reducible refine Br_i ?_ ?_ <;> (intro hbr; first | exact False.elim hbr | skip)) | (with_reducible refine Wl_i ?_) | (simp (disch := first | omega | exact okF _ | exact okI _ | exact okR _ | assumption | exact okN) only [u_at, iI_zero, iI_31, iI_add, iI_sub, iI_mul, iI_neg, ↓iI_max, ↓iI_min, iI_div, emod_f, iI_lt, iI_le, iI_inj, iI_toInt, ↓ii01, ↓ii11, ↓bI_b, bI_0, bI_1, Kt_s, Kt_n, cat0, cat1, cat2, cat3, cat4, rfV, Nat.reduceAdd, Nat.reduceMul, Nat.reduceEqDiff, Int.reduceAdd, Int.reduceSub, Int.reduceMul, Int.reduceNeg, Int.reduceLT, Int.reduceLE, Int.reduceEq, Int.reduceDiv, ↓reduceIte, ↓ite_ww, ↓ite_wi, Br_n, Br_TW, Br_FW, Br_FP, Br_FB, nn_p, and_true, true_and, and_self, true_or, or_true, not_true_eq_false, not_false_eq_true, le_T, le_F, lt_T, lt_F, eq_T, eq_F, Int.add_zero, Int.zero_add, Int.one_mul, Int.mul_one, up_eq, up_ne, Int.add_assoc, Int.add_sub_cancel, Int.sub_zero, Int.sub_self, S_224_0, S_224_1, S_224_2, S_224_3, S_224_4, S_224_7, S_224_8, S_224_10, S_224_11, S_224_14, S_224_17, S_224_18, S_224_19, S_224_20, S_224_23, S_224_25, S_224_26, S_224_29, S_224_30, S_224_33, S_224_34, S_224_35, S_224_36, S_224_39, S_224_41, S_224_44, S_224_45, S_224_48, S_224_50, S_224_51, S_224_54, S_224_55, S_224_56, S_224_57, S_224_59, S_224_60, S_224_61, S_224_62, S_224_65, S_224_66, S_224_67, S_224_70, S_224_72, S_224_73, S_224_76, S_224_77, S_224_78, S_224_79, S_224_81, S_224_82, S_224_83, S_224_86, S_224_87, S_224_88, S_224_91, S_224_92, S_224_95, S_224_96, S_224_98, S_224_101, S_224_104, S_224_106, H_122, H_123, H_126, H_127, H_128, e123, e126, e127, e128, lI_add, lI_sub, lI_mul, lI_neg, lI_zero, lI_lt, lI_inj, ↓lI_max, ↓lI_min, i2l, l2i, lc_lt, lc_le, lc_gt, lc_ge, lc_eq]))
      exact n
    · rw [bZ_F hb]
      by_cases e : c.1 = 4
      · have ty : tys false c.2 [] [true] := by
          rcases c1.2.1 with ⟨_, q⟩ | ⟨q, _⟩
          · exact q
          · exact absurd e q
        have vo : hd (evs (s0 139) c.2 []) = 0 ∨ hd (evs (s0 139) c.2 []) = 1 := hd_ok (w := false) (t := true) hn ty
        repeat' (first | (with_reducible refine Br_i ?_ ?_ <;> (intro hbr; first | exact False.elim hbr | skip)) | (with_reducible refine Wl_i ?_) | (simp (disch := first | omega | exact okF _ | exact okI _ | exact okR _ | assumption | exact okN) only [u_at, iI_zero, iI_31, iI_add, iI_sub, iI_mul, iI_neg, ↓iI_max, ↓iI_min, iI_div, emod_f, iI_lt, iI_le, iI_inj, iI_toInt, ↓ii01, ↓ii11, ↓bI_b, bI_0, bI_1, Kt_s, Kt_n, cat0, cat1, cat2, cat3, cat4, rfV, Nat.reduceAdd, Nat.reduceMul, Nat.reduceEqDiff, Int.reduceAdd, Int.reduceSub, Int.reduceMul, Int.reduceNeg, Int.reduceLT, Int.reduceLE, Int.reduceEq, Int.reduceDiv, ↓reduceIte, ↓ite_ww, ↓ite_wi, Br_n, Br_TW, Br_FW, Br_FP, Br_FB, nn_p, and_true, true_and, and_self, true_or, or_true, not_true_eq_false, not_false_eq_true, le_T, le_F, lt_T, lt_F, eq_T, eq_F, Int.add_zero, Int.zero_add, Int.one_mul, Int.mul_one, up_eq, up_ne, Int.add_assoc, Int.add_sub_cancel, Int.sub_zero, Int.sub_self, S_224_0, S_224_1, S_224_2, S_224_3, S_224_4, S_224_7, S_224_8, S_224_10, S_224_11, S_224_14, S_224_17, S_224_18, S_224_19, S_224_20, S_224_23, S_224_25, S_224_26, S_224_29, S_224_30, S_224_33, S_224_34, S_224_35, S_224_36, S_224_39, S_224_41, S_224_44, S_224_45, S_224_48, S_224_50, S_224_51, S_224_54, S_224_55, S_224_56, S_224_57, S_224_59, S_224_60, S_224_61, S_224_62, S_224_65, S_224_66, S_224_67, S_224_70, S_224_72, S_224_73, S_224_76, S_224_77, S_224_78, S_224_79, S_224_81, S_224_82, S_224_83, S_224_86, S_224_87, S_224_88, S_224_91, S_224_92, S_224_95, S_224_96, S_224_98, S_224_101, S_224_104, S_224_106, H_122, H_123, H_126, H_127, H_128, e123, e126, e127, e128, lI_add, lI_sub, lI_mul, lI_neg, lI_zero, lI_lt, lI_inj, ↓lI_max, ↓lI_min, i2l, l2i, lc_lt, lc_le, lc_gt, lc_ge, lc_eq]))
        refine m_says (wb := false) (tf := true) (p := s0 128 (10 * t + i)) ?_ ty b2 ?_ ?_ ?_ ?_
        · rw [e139]; exact hn
        · rw [hf.g 129 rfl]; exact h4
        · rw [hf.g 130 rfl]; exact h5'
        · exact ⟨h2, h3.1⟩
        · intro s' hf'
          rw [e139]
          by_cases q : hd (evs (s0 139) c.2 []) = 0
          · have n := ih2 s' False (hf.tr hf') (by
              rw [← hr]
              refine ⟨fun x => x.elim False.elim (fun ⟨c', m, y⟩ => Or.inr ⟨c', List.mem_cons_of_mem _ m, y⟩), fun x => x.elim (fun y => absurd y hb) (fun ⟨c', m, y⟩ => Or.inr ?_)⟩
              rcases List.mem_cons.mp m with m | m
              · rw [← m] at q
                exact absurd q y
              · exact ⟨c', m, y⟩)
            rw [bZ_F not_false] at n
            repeat' (first | (with_reducible refine Br_i ?_ ?_ <;> (intro hbr; first | exact False.elim hbr | skip)) | (with_reducible refine Wl_i ?_) | (simp (disch := first | omega | exact okF _ | exact okI _ | exact okR _ | assumption | exact okN) only [u_at, iI_zero, iI_31, iI_add, iI_sub, iI_mul, iI_neg, ↓iI_max, ↓iI_min, iI_div, emod_f, iI_lt, iI_le, iI_inj, iI_toInt, ↓ii01, ↓ii11, ↓bI_b, bI_0, bI_1, Kt_s, Kt_n, cat0, cat1, cat2, cat3, cat4, rfV, Nat.reduceAdd, Nat.reduceMul, Nat.reduceEqDiff, Int.reduceAdd, Int.reduceSub, Int.reduceMul, Int.reduceNeg, Int.reduceLT, Int.reduceLE, Int.reduceEq, Int.reduceDiv, ↓reduceIte, ↓ite_ww, ↓ite_wi, Br_n, Br_TW, Br_FW, Br_FP, Br_FB, nn_p, and_true, true_and, and_self, true_or, or_true, not_true_eq_false, not_false_eq_true, le_T, le_F, lt_T, lt_F, eq_T, eq_F, Int.add_zero, Int.zero_add, Int.one_mul, Int.mul_one, up_eq, up_ne, Int.add_assoc, Int.add_sub_cancel, Int.sub_zero, Int.sub_self, S_224_0, S_224_1, S_224_2, S_224_3, S_224_4, S_224_7, S_224_8, S_224_10, S_224_11, S_224_14, S_224_17, S_224_18, S_224_19, S_224_20, S_224_23, S_224_25, S_224_26, S_224_29, S_224_30, S_224_33, S_224_34, S_224_35, S_224_36, S_224_39, S_224_41, S_224_44, S_224_45, S_224_48, S_224_50, S_224_51, S_224_54, S_224_55, S_224_56, S_224_57, S_224_59, S_224_60, S_224_61, S_224_62, S_224_65, S_224_66, S_224_67, S_224_70, S_224_72, S_224_73, S_224_76, S_224_77, S_224_78, S_224_79, S_224_81, S_224_82, S_224_83, S_224_86, S_224_87, S_224_88, S_224_91, S_224_92, S_224_95, S_224_96, S_224_98, S_224_101, S_224_104, S_224_106, q, lI_add, lI_sub, lI_mul, lI_neg, lI_zero, lI_lt, lI_inj, ↓lI_max, ↓lI_min, i2l, l2i, lc_lt, lc_le, lc_gt, lc_ge, lc_eq]))
            exact n
          · have q1 : hd (evs (s0 139) c.2 []) = 1 := by omega
            have n := ih2 s' True (hf.tr hf') (by
              rw [← hr]
              refine ⟨fun _ => Or.inr ⟨c.2, ?_, q⟩, fun _ => Or.inl trivial⟩
              rw [show (4, c.2) = c by rw [← e]]
              exact List.mem_cons_self)
            rw [bZ_T trivial] at n
            repeat' (first | (with_reducible refine Br_i ?_ ?_ <;> (intro hbr; first | exact False.elim hbr | skip)) | (with_reducible refine Wl_i ?_) | (simp (disch := first | omega | exact okF _ | exact okI _ | exact okR _ | assumption | exact okN) only [u_at, iI_zero, iI_31, iI_add, iI_sub, iI_mul, iI_neg, ↓iI_max, ↓iI_min, iI_div, emod_f, iI_lt, iI_le, iI_inj, iI_toInt, ↓ii01, ↓ii11, ↓bI_b, bI_0, bI_1, Kt_s, Kt_n, cat0, cat1, cat2, cat3, cat4, rfV, Nat.reduceAdd, Nat.reduceMul, Nat.reduceEqDiff, Int.reduceAdd, Int.reduceSub, Int.reduceMul, Int.reduceNeg, Int.reduceLT, Int.reduceLE, Int.reduceEq, Int.reduceDiv, ↓reduceIte, ↓ite_ww, ↓ite_wi, Br_n, Br_TW, Br_FW, Br_FP, Br_FB, nn_p, and_true, true_and, and_self, true_or, or_true, not_true_eq_false, not_false_eq_true, le_T, le_F, lt_T, lt_F, eq_T, eq_F, Int.add_zero, Int.zero_add, Int.one_mul, Int.mul_one, up_eq, up_ne, Int.add_assoc, Int.add_sub_cancel, Int.sub_zero, Int.sub_self, S_224_0, S_224_1, S_224_2, S_224_3, S_224_4, S_224_7, S_224_8, S_224_10, S_224_11, S_224_14, S_224_17, S_224_18, S_224_19, S_224_20, S_224_23, S_224_25, S_224_26, S_224_29, S_224_30, S_224_33, S_224_34, S_224_35, S_224_36, S_224_39, S_224_41, S_224_44, S_224_45, S_224_48, S_224_50, S_224_51, S_224_54, S_224_55, S_224_56, S_224_57, S_224_59, S_224_60, S_224_61, S_224_62, S_224_65, S_224_66, S_224_67, S_224_70, S_224_72, S_224_73, S_224_76, S_224_77, S_224_78, S_224_79, S_224_81, S_224_82, S_224_83, S_224_86, S_224_87, S_224_88, S_224_91, S_224_92, S_224_95, S_224_96, S_224_98, S_224_101, S_224_104, S_224_106, q1, lI_add, lI_sub, lI_mul, lI_neg, lI_zero, lI_lt, lI_inj, ↓lI_max, ↓lI_min, i2l, l2i, lc_lt, lc_le, lc_gt, lc_ge, lc_eq]))
            exact n
      · have n := ih2 s False hf (by
          rw [← hr]
          refine ⟨fun x => x.elim False.elim (fun ⟨c', m, y⟩ => Or.inr ⟨c', List.mem_cons_of_mem _ m, y⟩), fun x => x.elim (fun y => absurd y hb) (fun ⟨c', m, y⟩ => Or.inr ?_)⟩
          rcases List.mem_cons.mp m with m | m
          · rw [← m] at e
            exact absurd rfl e
          · exact ⟨c', m, y⟩)
        rw [bZ_F not_false] at n
        repeat' (first | (with_reducible refine Br_i ?_ ?_ <;> (intro hbr; first | exact False.elim hbr | skip)) | (with_reducible refine Wl_i ?_) | (simp (disch := first | omega | exact okF _ | exact okI _ | exact okR _ | assumption | exact okN) only [u_at, iI_zero, iI_31, iI_add, iI_sub, iI_mul, iI_neg, ↓iI_max, ↓iI_min, iI_div, emod_f, iI_lt, iI_le, iI_inj, iI_toInt, ↓ii01, ↓ii11, ↓bI_b, bI_0, bI_1, Kt_s, Kt_n, cat0, cat1, cat2, cat3, cat4, rfV, Nat.reduceAdd, Nat.reduceMul, Nat.reduceEqDiff, Int.reduceAdd, Int.reduceSub, Int.reduceMul, Int.reduceNeg, Int.reduceLT, Int.reduceLE, Int.reduceEq, Int.reduceDiv, ↓reduceIte, ↓ite_ww, ↓ite_wi, Br_n, Br_TW, Br_FW, Br_FP, Br_FB, nn_p, and_true, true_and, and_self, true_or, or_true, not_true_eq_false, not_false_eq_true, le_T, le_F, lt_T, lt_F, eq_T, eq_F, Int.add_zero, Int.zero_add, Int.one_mul, Int.mul_one, up_eq, up_ne, Int.add_assoc, Int.add_sub_cancel, Int.sub_zero, Int.sub_self, S_224_0, S_224_1, S_224_2, S_224_3, S_224_4, S_224_7, S_224_8, S_224_10, S_224_11, S_224_14, S_224_17, S_224_18, S_224_19, S_224_20, S_224_23, S_224_25, S_224_26, S_224_29, S_224_30, S_224_33, S_224_34, S_224_35, S_224_36, S_224_39, S_224_41, S_224_44, S_224_45, S_224_48, S_224_50, S_224_51, S_224_54, S_224_55, S_224_56, S_224_57, S_224_59, S_224_60, S_224_61, S_224_62, S_224_65, S_224_66, S_224_67, S_224_70, S_224_72, S_224_73, S_224_76, S_224_77, S_224_78, S_224_79, S_224_81, S_224_82, S_224_83, S_224_86, S_224_87, S_224_88, S_224_91, S_224_92, S_224_95, S_224_96, S_224_98, S_224_101, S_224_104, S_224_106, H_122, H_123, H_126, H_127, H_128, e123, e126, e127, e128, lI_add, lI_sub, lI_mul, lI_neg, lI_zero, lI_lt, lI_inj, ↓lI_max, ↓lI_min, i2l, l2i, lc_lt, lc_le, lc_gt, lc_ge, lc_eq]))
        exact n
end ML
