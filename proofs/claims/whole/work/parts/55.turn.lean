/-! WEIGHTS BY TURNS, one item, both sides -/
noncomputable def tst (e : Int → Int) (w : Int) (p : Int × Int) : Int × Int := @ite _ (lt32 p.2 (e w)) (Classical.propDecidable _) (w, e w) p
noncomputable def eTrn (A : Int → Int) (l : lawT) (o i : Int) : Int → Int := fun w => earn (up A (180 + (13 * o + (3 + (3 * i + 1)))) w) l (A 3) (A (180 + 13 * o))
noncomputable def tfd (A : Int → Int) (l : lawT) (o i z : Int) : Int × Int := fd (tst (eTrn A l o i)) (A (180 + (13 * o + (3 + (3 * i + 1)))), earn A l (A 3) (A (180 + 13 * o))) (A (10 + (4 * (A (180 + (13 * o + (3 + 3 * i)))) + 1))) z
noncomputable def tOf (A : Int → Int) (l : lawT) (o i : Int) : Int := (tfd A l o i (A (10 + (4 * (A (180 + (13 * o + (3 + 3 * i)))) + 2)) + 1)).1
theorem tfd_0 {A : Int → Int} {l : lawT} {o i : Int} : tfd A l o i (A (10 + (4 * (A (180 + (13 * o + (3 + 3 * i)))) + 1))) = (A (180 + (13 * o + (3 + (3 * i + 1)))), earn A l (A 3) (A (180 + 13 * o))) := fd_0 (Int.le_refl _)
theorem tfd_s {A : Int → Int} {l : lawT} {o i z : Int} (h : A (10 + (4 * (A (180 + (13 * o + (3 + 3 * i)))) + 1)) ≤ z) : tfd A l o i (z + 1) = tst (eTrn A l o i) z (tfd A l o i z) := fd_s h
theorem tfd_r {A : Int → Int} {l : lawT} {o i z : Int} (W : WT A (A (180 + (13 * o + (3 + 3 * i))))) (w : 1 ≤ A (180 + (13 * o + (3 + (3 * i + 1)))) ∧ A (180 + (13 * o + (3 + (3 * i + 1)))) ≤ 40) (h : A (10 + (4 * (A (180 + (13 * o + (3 + 3 * i)))) + 1)) ≤ z) (hz : z ≤ A (10 + (4 * (A (180 + (13 * o + (3 + 3 * i)))) + 2)) + 1) : 1 ≤ (tfd A l o i z).1 ∧ (tfd A l o i z).1 ≤ 40 := by
  have q := W.2.1
  have r : z ≤ A (10 + (4 * (A (180 + (13 * o + (3 + 3 * i)))) + 2)) + 1 → 1 ≤ (tfd A l o i z).1 ∧ (tfd A l o i z).1 ≤ 40 := by
    refine fd_ind (g := tst (eTrn A l o i)) (s := (A (180 + (13 * o + (3 + (3 * i + 1)))), earn A l (A 3) (A (180 + 13 * o)))) (lo := A (10 + (4 * (A (180 + (13 * o + (3 + 3 * i)))) + 1))) (hi := z) (P := fun z p => z ≤ A (10 + (4 * (A (180 + (13 * o + (3 + 3 * i)))) + 2)) + 1 → 1 ≤ p.1 ∧ p.1 ≤ 40) (fun _ => w) ?_ h
    intro y p y0 y1 ih y2
    unfold tst
    by_cases c : lt32 p.2 (eTrn A l o i y)
    · rw [if_pos c]
      exact ⟨by show 1 ≤ y; omega, by show y ≤ 40; omega⟩
    · rw [if_neg c]
      exact ih (by omega)
  exact r hz
section TU
variable {d : Nat} {X : hX} {s : sg} {Q : Option Value → aH → Prop} {n h k t o p i w : Int} {A : Int → Int} {l : lawT}
theorem upI_0 (ho : 0 ≤ o ∧ o < 22) (hi : 0 ≤ i ∧ i < 3) : Eq0 A (up A (180 + (13 * o + (3 + (3 * i + 1)))) w) := fun z hz => up_ne (by omega)
theorem upI_o (hi : 0 ≤ i ∧ i < 3) (hp : ¬ p = o) : EqO A (up A (180 + (13 * o + (3 + (3 * i + 1)))) w) p := fun c c0 c1 => up_ne (by omega)
theorem upI_w (ho : 0 ≤ o ∧ o < 22) (hi : 0 ≤ i ∧ i < 3) (hh : 1 ≤ w ∧ w ≤ 40) (h : WO A o) : WO (up A (180 + (13 * o + (3 + (3 * i + 1)))) w) o := by
  obtain ⟨a, b, c, e⟩ := h
  unfold WO
  rw [up_ne (by omega), up_ne (by omega), up_ne (by omega), up_ne (by omega)]
  refine ⟨a, b, c, fun j i0 i1 => ?_⟩
  have := e j i0 i1
  unfold WI at this ⊢
  refine ⟨?_, ?_, ?_⟩
  · rw [up_ne (by omega), up_ne (by omega)]
    exact this.1
  · rw [up_at]
    split
    · exact hh
    · exact this.2.1
  · rw [up_ne (by omega)]
    exact this.2.2
theorem upI_ws (hi : 0 ≤ i ∧ i < 3) (hh : 1 ≤ w ∧ w ≤ 40) (ho : 0 ≤ o ∧ o < A 3) (W : W0 A) (hw : ∀ p, 0 ≤ p → p < A 3 → WO A p) : ∀ p, 0 ≤ p → p < A 3 → WO (up A (180 + (13 * o + (3 + (3 * i + 1)))) w) p := by
  intro p p0 p1
  unfold W0 at W
  by_cases e : p = o
  · rw [e]; exact upI_w (by omega) hi hh (hw o ho.1 ho.2)
  · exact WO_cg (upI_0 (by omega) hi) (upI_o hi e) (hw p p0 p1)
theorem upI_c {s2 : sg} (ho : 0 ≤ o ∧ o < 22) (hi : 0 ≤ i ∧ i < 3) (e : s2 56 = up (s 56) (o * 12 + (3 + (3 * i + 1))) w) (hn : A (180 + (13 * o + 2)) ≤ 3) (c : cO 0 s A o) : cO 0 s2 (up A (180 + (13 * o + (3 + (3 * i + 1)))) w) o := by
  obtain ⟨c0, c1, c2, c3⟩ := c
  show s2 56 (o * 12) = _ ∧ s2 56 (o * 12 + 1) = _ ∧ s2 56 (o * 12 + 2) = _ ∧ _
  rw [e, up_ne (by omega), up_ne (by omega), up_ne (by omega), up_ne (by omega), up_ne (by omega), up_ne (by omega)]
  refine ⟨c0, c1, c2, fun j i0 i1 => ?_⟩
  have q := c3 j i0 i1
  show s2 56 (o * 12 + (3 + 3 * j)) = _ ∧ s2 56 (o * 12 + (3 + (3 * j + 1))) = _ ∧ s2 56 (o * 12 + (3 + (3 * j + 2))) = _
  rw [e, up_ne (by omega), up_ne (by omega)]
  refine ⟨q.1, ?_, ?_⟩
  · rw [up_at, up_at]
    by_cases x : j = i
    · rw [if_pos (by omega), if_pos (by omega)]
    · rw [if_neg (by omega), if_neg (by omega)]
      exact q.2.1
  · rw [up_ne (by omega), up_ne (by omega)]
    exact q.2.2
theorem upI_cs {s2 : sg} (ho : 0 ≤ o ∧ o < A 3) (W : W0 A) (hi : 0 ≤ i ∧ i < 3) (e : s2 56 = up (s 56) (o * 12 + (3 + (3 * i + 1))) w) (hw : ∀ p, 0 ≤ p → p < A 3 → WO A p) (c : ∀ p, 0 ≤ p → p < A 3 → cO 0 s A p) : ∀ p, 0 ≤ p → p < A 3 → cO 0 s2 (up A (180 + (13 * o + (3 + (3 * i + 1)))) w) p := by
  intro p p0 p1
  unfold W0 at W
  by_cases x : p = o
  · rw [x]; exact upI_c (by omega) hi e (by have := (hw o ho.1 ho.2).2.2.1; omega) (c o ho.1 ho.2)
  · refine cO_out (s := s) (n := o) (fun z hz => by rw [e, up_ne (by omega)]) ⟨p0, x⟩ ?_ (cO_cgA (upI_o hi x) (by have := (hw p p0 p1).2.2.1; omega) (c p p0 p1))
    rw [(upI_o hi x).o2]
    exact (hw p p0 p1).2.2.1
theorem m_turns (hA : s 123 = A) (hc : curM s l) (hl : lawOK l) (W : WF0 A) (hw : ∀ o, 0 ≤ o → o < A 3 → WO A o) (ho : 0 ≤ o ∧ o < A 3) (hi : 0 ≤ i ∧ i < A (180 + (13 * o + 2))) (kk : ∀ s', Fr [123, 139, 140, 141, 142, 143, 144, 145, 146, 147, 148, 149, 150, 151, 152] s s' → s' 123 = up A (180 + (13 * o + (3 + (3 * i + 1)))) (tOf A l o i) → Q (some (.int (iI (bZ (¬ tOf A l o i = A (180 + (13 * o + (3 + (3 * i + 1))))))))) (hp X s')) : Wp (d + 8) 241 0 [.ref 122, .int (iI o), .int (iI i), .float 0, .float 0, .float 0, .float 0, .float 0, .float 0, .float 0] [] (hp X s) Q := by
  have w0 := W.1
  unfold W0 at w0
  have hO := hw o ho.1 ho.2
  have hO1 := hO.1
  have hO3 := hO.2.2.1
  have wi := hO.2.2.2 i hi.1 hi.2
  have wi1 := wi.1
  have wi2 := wi.2.1
  have wt := W.2.1 _ wi.1.1 wi.1.2
  have wt2 := wt.2.1
  have hi3 : 0 ≤ i ∧ i < 3 := by omega
  have loop : ∀ z s1, z ≤ A (10 + (4 * (A (180 + (13 * o + (3 + 3 * i)))) + 2)) + 1 → (A (10 + (4 * (A (180 + (13 * o + (3 + 3 * i)))) + 1)) ≤ z ∧ Fr [123, 139, 140, 141, 142, 143, 144, 145, 146, 147, 148, 149, 150, 151, 152] s s1 ∧ (∃ a, s1 123 = up A (180 + (13 * o + (3 + (3 * i + 1)))) a) ∧ (∀ p, 0 ≤ p → p < A 3 → ¬ p = o → MO A l p s1)) → Wp (d + 8) 241 73 [.ref 122, .int (iI o), .int (iI i), .int (iI (180 + (13 * o + (3 + 3 * i)))), .int (iI (A (180 + (13 * o + (3 + 3 * i))))), .int (iI (A (180 + (13 * o + (3 + (3 * i + 1)))))), .int (iI (A (180 + 13 * o))), .int (iI (tfd A l o i z).1), .int (iI (tfd A l o i z).2), .int (iI z)] [] (hp X s1) Q := by
    refine lp ?_ ?_
    · intro z s1 hz ⟨z0, hf, ⟨a, ha⟩, hm⟩ kk2
      have e3 : up A (180 + (13 * o + (3 + (3 * i + 1)))) z 3 = A 3 := up_ne (by omega)
      have eT : up A (180 + (13 * o + (3 + (3 * i + 1)))) a (10 + (4 * (A (180 + (13 * o + (3 + 3 * i)))) + 2)) = A (10 + (4 * (A (180 + (13 * o + (3 + 3 * i)))) + 2)) := up_ne (by omega)
      have zz := upI_0 (A := A) (w := z) (o := o) (i := i) (by omega) hi3
      have zw := upI_ws (A := A) (w := z) (o := o) (i := i) hi3 (by omega) ho W.1 hw
      rw [S_241_73]
      repeat' (first | (with_reducible refine Br_i ?_ ?_ <;> (intro hbr; first | exact False.elim hbr | skip)) | (with_reducible refine Wl_i ?_) | (simp (disch := first | omega | exact okF _ | exact okI _ | exact okR _ | assumption | exact okN) only [u_at, iI_zero, iI_31, iI_add, iI_sub, iI_mul, iI_neg, ↓iI_max, ↓iI_min, iI_div, emod_f, iI_lt, iI_le, iI_inj, iI_toInt, ↓ii01, ↓ii11, ↓bI_b, bI_0, bI_1, Kt_s, Kt_n, cat0, cat1, cat2, cat3, cat4, rfV, Nat.reduceAdd, Nat.reduceMul, Nat.reduceEqDiff, Int.reduceAdd, Int.reduceSub, Int.reduceMul, Int.reduceNeg, Int.reduceLT, Int.reduceLE, Int.reduceEq, Int.reduceDiv, ↓reduceIte, ↓ite_ww, ↓ite_wi, Br_n, Br_TW, Br_FW, Br_FP, Br_FB, nn_p, and_true, true_and, and_self, true_or, or_true, not_true_eq_false, not_false_eq_true, le_T, le_F, lt_T, lt_F, eq_T, eq_F, Int.add_zero, Int.zero_add, Int.one_mul, Int.mul_one, up_eq, up_ne, Int.add_assoc, Int.add_sub_cancel, Int.sub_zero, Int.sub_self, S_241_0, S_241_3, S_241_5, S_241_6, S_241_7, S_241_8, S_241_9, S_241_10, S_241_11, S_241_12, S_241_13, S_241_14, S_241_15, S_241_16, S_241_19, S_241_20, S_241_21, S_241_23, S_241_24, S_241_27, S_241_28, S_241_29, S_241_30, S_241_31, S_241_33, S_241_34, S_241_35, S_241_36, S_241_39, S_241_41, S_241_42, S_241_43, S_241_46, S_241_47, S_241_48, S_241_51, S_241_53, S_241_55, S_241_56, S_241_59, S_241_61, S_241_62, S_241_64, S_241_65, S_241_67, S_241_68, S_241_71, S_241_75, S_241_76, S_241_78, S_241_79, S_241_82, S_241_85, S_241_86, S_241_89, S_241_90, S_241_91, S_241_92, S_241_94, S_241_95, S_241_96, S_241_97, S_241_100, S_241_101, S_241_102, S_241_105, S_241_106, S_241_107, S_241_110, S_241_111, S_241_114, S_241_116, S_241_117, S_241_119, S_241_122, S_241_123, S_241_126, S_241_128, S_241_129, S_241_131, S_241_133, S_241_135, S_241_138, S_241_141, S_241_142, S_241_145, S_241_146, S_241_147, S_241_148, S_241_150, S_241_151, S_241_153, S_241_155, S_241_158, S_241_159, S_241_162, S_241_163, H_122, H_123, m_thingOf, ha, eT, up_up, e3]))
      generalize es2 : u s1 123 _ = s2
      have f2 : Fr [123] s1 s2 := by rw [← es2]; exact (by repeat (first | exact Fr.rf _ | refine Fr.u ?_ rfl))
      have hA2 : s2 123 = up A (180 + (13 * o + (3 + (3 * i + 1)))) z := by rw [← es2, u_eq]
      have hfs := hf.to f2 rfl
      have hc2 := curM_fr hfs rfl (by rw [hA2, hA, up_ne (by omega)]) hc
      refine m_laysOffer hA2 hc2 hl (WF0_cg zz W) (zw o ho.1 ho.2) (by omega) ?_
      intro s3 f3 h3 h4
      have hA3 := (f3.g 123 rfl).trans hA2
      have hm3 : ∀ p, 0 ≤ p → p < A 3 → MO (up A (180 + (13 * o + (3 + (3 * i + 1)))) z) l p s3 := by
        intro p p0 p1
        by_cases e : p = o
        · rw [e]; exact h3
        · exact MO_same (by rw [zz 2 (by omega)]; omega) (MO_cg W.1 zz (upI_o hi3 e) (hw p p0 p1) (MO_fr f2 rfl (hm p p0 p1 e))) (h4 p p0 e)
      repeat' (first | (with_reducible refine Br_i ?_ ?_ <;> (intro hbr; first | exact False.elim hbr | skip)) | (with_reducible refine Wl_i ?_) | (simp (disch := first | omega | exact okF _ | exact okI _ | exact okR _ | assumption | exact okN) only [u_at, iI_zero, iI_31, iI_add, iI_sub, iI_mul, iI_neg, ↓iI_max, ↓iI_min, iI_div, emod_f, iI_lt, iI_le, iI_inj, iI_toInt, ↓ii01, ↓ii11, ↓bI_b, bI_0, bI_1, Kt_s, Kt_n, cat0, cat1, cat2, cat3, cat4, rfV, Nat.reduceAdd, Nat.reduceMul, Nat.reduceEqDiff, Int.reduceAdd, Int.reduceSub, Int.reduceMul, Int.reduceNeg, Int.reduceLT, Int.reduceLE, Int.reduceEq, Int.reduceDiv, ↓reduceIte, ↓ite_ww, ↓ite_wi, Br_n, Br_TW, Br_FW, Br_FP, Br_FB, nn_p, and_true, true_and, and_self, true_or, or_true, not_true_eq_false, not_false_eq_true, le_T, le_F, lt_T, lt_F, eq_T, eq_F, Int.add_zero, Int.zero_add, Int.one_mul, Int.mul_one, up_eq, up_ne, Int.add_assoc, Int.add_sub_cancel, Int.sub_zero, Int.sub_self, S_241_0, S_241_3, S_241_5, S_241_6, S_241_7, S_241_8, S_241_9, S_241_10, S_241_11, S_241_12, S_241_13, S_241_14, S_241_15, S_241_16, S_241_19, S_241_20, S_241_21, S_241_23, S_241_24, S_241_27, S_241_28, S_241_29, S_241_30, S_241_31, S_241_33, S_241_34, S_241_35, S_241_36, S_241_39, S_241_41, S_241_42, S_241_43, S_241_46, S_241_47, S_241_48, S_241_51, S_241_53, S_241_55, S_241_56, S_241_59, S_241_61, S_241_62, S_241_64, S_241_65, S_241_67, S_241_68, S_241_71, S_241_75, S_241_76, S_241_78, S_241_79, S_241_82, S_241_85, S_241_86, S_241_89, S_241_90, S_241_91, S_241_92, S_241_94, S_241_95, S_241_96, S_241_97, S_241_100, S_241_101, S_241_102, S_241_105, S_241_106, S_241_107, S_241_110, S_241_111, S_241_114, S_241_116, S_241_117, S_241_119, S_241_122, S_241_123, S_241_126, S_241_128, S_241_129, S_241_131, S_241_133, S_241_135, S_241_138, S_241_141, S_241_142, S_241_145, S_241_146, S_241_147, S_241_148, S_241_150, S_241_151, S_241_153, S_241_155, S_241_158, S_241_159, S_241_162, S_241_163, H_122, H_123, hA3, e3]))
      refine m_goes hA3 (WF0_cg zz W) zw hm3 (by omega) ?_
      intro s4 f4 r4
      have e4 : s4 147 (A (180 + 13 * o)) = eTrn A l o i z := (r4.1 (A (180 + 13 * o)) hO.1.1 (by rw [zz 1 (by omega)]; exact hO.1.2)).2
      have hA4 := (f4.g 123 rfl).trans hA3
      have M4 : ∀ p, 0 ≤ p → p < A 3 → ¬ p = o → MO A l p s4 := fun p p0 p1 e => MO_fr f4 rfl (MO_cg (W0_cg zz W.1) zz.sy (upI_o hi3 e).sy (zw p p0 p1) (hm3 p p0 p1))
      have st := tfd_s (l := l) z0
      unfold tst at st
      have kk2 := kk2 s4 ⟨by omega, (hfs.to f3 rfl).to f4 rfl, ⟨z, hA4⟩, M4⟩
      rw [st] at kk2
      generalize tfd A l o i z = B at *
      by_cases c : lt32 B.2 (eTrn A l o i z)
      · rw [if_pos c] at kk2
        unfold lt32 at c
        repeat' (first | (with_reducible refine Br_i ?_ ?_ <;> (intro hbr; first | exact False.elim hbr | skip)) | (with_reducible refine Wl_i ?_) | (simp (disch := first | omega | exact okF _ | exact okI _ | exact okR _ | assumption | exact okN) only [u_at, iI_zero, iI_31, iI_add, iI_sub, iI_mul, iI_neg, ↓iI_max, ↓iI_min, iI_div, emod_f, iI_lt, iI_le, iI_inj, iI_toInt, ↓ii01, ↓ii11, ↓bI_b, bI_0, bI_1, Kt_s, Kt_n, cat0, cat1, cat2, cat3, cat4, rfV, Nat.reduceAdd, Nat.reduceMul, Nat.reduceEqDiff, Int.reduceAdd, Int.reduceSub, Int.reduceMul, Int.reduceNeg, Int.reduceLT, Int.reduceLE, Int.reduceEq, Int.reduceDiv, ↓reduceIte, ↓ite_ww, ↓ite_wi, Br_n, Br_TW, Br_FW, Br_FP, Br_FB, nn_p, and_true, true_and, and_self, true_or, or_true, not_true_eq_false, not_false_eq_true, le_T, le_F, lt_T, lt_F, eq_T, eq_F, Int.add_zero, Int.zero_add, Int.one_mul, Int.mul_one, up_eq, up_ne, Int.add_assoc, Int.add_sub_cancel, Int.sub_zero, Int.sub_self, S_241_0, S_241_3, S_241_5, S_241_6, S_241_7, S_241_8, S_241_9, S_241_10, S_241_11, S_241_12, S_241_13, S_241_14, S_241_15, S_241_16, S_241_19, S_241_20, S_241_21, S_241_23, S_241_24, S_241_27, S_241_28, S_241_29, S_241_30, S_241_31, S_241_33, S_241_34, S_241_35, S_241_36, S_241_39, S_241_41, S_241_42, S_241_43, S_241_46, S_241_47, S_241_48, S_241_51, S_241_53, S_241_55, S_241_56, S_241_59, S_241_61, S_241_62, S_241_64, S_241_65, S_241_67, S_241_68, S_241_71, S_241_75, S_241_76, S_241_78, S_241_79, S_241_82, S_241_85, S_241_86, S_241_89, S_241_90, S_241_91, S_241_92, S_241_94, S_241_95, S_241_96, S_241_97, S_241_100, S_241_101, S_241_102, S_241_105, S_241_106, S_241_107, S_241_110, S_241_111, S_241_114, S_241_116, S_241_117, S_241_119, S_241_122, S_241_123, S_241_126, S_241_128, S_241_129, S_241_131, S_241_133, S_241_135, S_241_138, S_241_141, S_241_142, S_241_145, S_241_146, S_241_147, S_241_148, S_241_150, S_241_151, S_241_153, S_241_155, S_241_158, S_241_159, S_241_162, S_241_163, H_122, H_147, e4, c]))
        exact kk2
      · rw [if_neg c] at kk2
        have c2 : iI (eTrn A l o i z) ≤ iI B.2 := Classical.byContradiction fun q => c q
        repeat' (first | (with_reducible refine Br_i ?_ ?_ <;> (intro hbr; first | exact False.elim hbr | skip)) | (with_reducible refine Wl_i ?_) | (simp (disch := first | omega | exact okF _ | exact okI _ | exact okR _ | assumption | exact okN) only [u_at, iI_zero, iI_31, iI_add, iI_sub, iI_mul, iI_neg, ↓iI_max, ↓iI_min, iI_div, emod_f, iI_lt, iI_le, iI_inj, iI_toInt, ↓ii01, ↓ii11, ↓bI_b, bI_0, bI_1, Kt_s, Kt_n, cat0, cat1, cat2, cat3, cat4, rfV, Nat.reduceAdd, Nat.reduceMul, Nat.reduceEqDiff, Int.reduceAdd, Int.reduceSub, Int.reduceMul, Int.reduceNeg, Int.reduceLT, Int.reduceLE, Int.reduceEq, Int.reduceDiv, ↓reduceIte, ↓ite_ww, ↓ite_wi, Br_n, Br_TW, Br_FW, Br_FP, Br_FB, nn_p, and_true, true_and, and_self, true_or, or_true, not_true_eq_false, not_false_eq_true, le_T, le_F, lt_T, lt_F, eq_T, eq_F, Int.add_zero, Int.zero_add, Int.one_mul, Int.mul_one, up_eq, up_ne, Int.add_assoc, Int.add_sub_cancel, Int.sub_zero, Int.sub_self, S_241_0, S_241_3, S_241_5, S_241_6, S_241_7, S_241_8, S_241_9, S_241_10, S_241_11, S_241_12, S_241_13, S_241_14, S_241_15, S_241_16, S_241_19, S_241_20, S_241_21, S_241_23, S_241_24, S_241_27, S_241_28, S_241_29, S_241_30, S_241_31, S_241_33, S_241_34, S_241_35, S_241_36, S_241_39, S_241_41, S_241_42, S_241_43, S_241_46, S_241_47, S_241_48, S_241_51, S_241_53, S_241_55, S_241_56, S_241_59, S_241_61, S_241_62, S_241_64, S_241_65, S_241_67, S_241_68, S_241_71, S_241_75, S_241_76, S_241_78, S_241_79, S_241_82, S_241_85, S_241_86, S_241_89, S_241_90, S_241_91, S_241_92, S_241_94, S_241_95, S_241_96, S_241_97, S_241_100, S_241_101, S_241_102, S_241_105, S_241_106, S_241_107, S_241_110, S_241_111, S_241_114, S_241_116, S_241_117, S_241_119, S_241_122, S_241_123, S_241_126, S_241_128, S_241_129, S_241_131, S_241_133, S_241_135, S_241_138, S_241_141, S_241_142, S_241_145, S_241_146, S_241_147, S_241_148, S_241_150, S_241_151, S_241_153, S_241_155, S_241_158, S_241_159, S_241_162, S_241_163, H_122, H_147, e4, c2]))
        exact kk2
    · intro s1 ⟨z0, hf, ⟨a, ha⟩, hm⟩
      have eT : up A (180 + (13 * o + (3 + (3 * i + 1)))) a (10 + (4 * (A (180 + (13 * o + (3 + 3 * i)))) + 2)) = A (10 + (4 * (A (180 + (13 * o + (3 + 3 * i)))) + 2)) := up_ne (by omega)
      have rr := tfd_r (l := l) wt wi2 z0 (Int.le_refl _)
      have et : (tfd A l o i (A (10 + (4 * (A (180 + (13 * o + (3 + 3 * i)))) + 2)) + 1)).1 = tOf A l o i := rfl
      rw [et] at rr ⊢
      have kk := kk (u s1 123 (up A (180 + (13 * o + (3 + (3 * i + 1)))) (tOf A l o i))) (hf.u rfl) (u_eq _ _ _)
      by_cases c : tOf A l o i = A (180 + (13 * o + (3 + (3 * i + 1))))
      · rw [bZ_F (fun q => q c)] at kk
        repeat' (first | (with_reducible refine Br_i ?_ ?_ <;> (intro hbr; first | exact False.elim hbr | skip)) | (with_reducible refine Wl_i ?_) | (simp (disch := first | omega | exact okF _ | exact okI _ | exact okR _ | assumption | exact okN) only [u_at, iI_zero, iI_31, iI_add, iI_sub, iI_mul, iI_neg, ↓iI_max, ↓iI_min, iI_div, emod_f, iI_lt, iI_le, iI_inj, iI_toInt, ↓ii01, ↓ii11, ↓bI_b, bI_0, bI_1, Kt_s, Kt_n, cat0, cat1, cat2, cat3, cat4, rfV, Nat.reduceAdd, Nat.reduceMul, Nat.reduceEqDiff, Int.reduceAdd, Int.reduceSub, Int.reduceMul, Int.reduceNeg, Int.reduceLT, Int.reduceLE, Int.reduceEq, Int.reduceDiv, ↓reduceIte, ↓ite_ww, ↓ite_wi, Br_n, Br_TW, Br_FW, Br_FP, Br_FB, nn_p, and_true, true_and, and_self, true_or, or_true, not_true_eq_false, not_false_eq_true, le_T, le_F, lt_T, lt_F, eq_T, eq_F, Int.add_zero, Int.zero_add, Int.one_mul, Int.mul_one, up_eq, up_ne, Int.add_assoc, Int.add_sub_cancel, Int.sub_zero, Int.sub_self, S_241_0, S_241_3, S_241_5, S_241_6, S_241_7, S_241_8, S_241_9, S_241_10, S_241_11, S_241_12, S_241_13, S_241_14, S_241_15, S_241_16, S_241_19, S_241_20, S_241_21, S_241_23, S_241_24, S_241_27, S_241_28, S_241_29, S_241_30, S_241_31, S_241_33, S_241_34, S_241_35, S_241_36, S_241_39, S_241_41, S_241_42, S_241_43, S_241_46, S_241_47, S_241_48, S_241_51, S_241_53, S_241_55, S_241_56, S_241_59, S_241_61, S_241_62, S_241_64, S_241_65, S_241_67, S_241_68, S_241_71, S_241_73, S_241_75, S_241_76, S_241_78, S_241_79, S_241_82, S_241_85, S_241_86, S_241_89, S_241_90, S_241_91, S_241_92, S_241_94, S_241_95, S_241_96, S_241_97, S_241_100, S_241_101, S_241_102, S_241_105, S_241_106, S_241_107, S_241_110, S_241_111, S_241_114, S_241_116, S_241_117, S_241_119, S_241_122, S_241_123, S_241_126, S_241_128, S_241_129, S_241_131, S_241_133, S_241_135, S_241_138, S_241_141, S_241_142, S_241_145, S_241_146, S_241_147, S_241_148, S_241_150, S_241_151, S_241_153, S_241_155, S_241_158, S_241_159, S_241_162, S_241_163, H_122, H_123, m_thingOf, ha, eT, up_up]))
        exact kk
      · rw [bZ_T c] at kk
        repeat' (first | (with_reducible refine Br_i ?_ ?_ <;> (intro hbr; first | exact False.elim hbr | skip)) | (with_reducible refine Wl_i ?_) | (simp (disch := first | omega | exact okF _ | exact okI _ | exact okR _ | assumption | exact okN) only [u_at, iI_zero, iI_31, iI_add, iI_sub, iI_mul, iI_neg, ↓iI_max, ↓iI_min, iI_div, emod_f, iI_lt, iI_le, iI_inj, iI_toInt, ↓ii01, ↓ii11, ↓bI_b, bI_0, bI_1, Kt_s, Kt_n, cat0, cat1, cat2, cat3, cat4, rfV, Nat.reduceAdd, Nat.reduceMul, Nat.reduceEqDiff, Int.reduceAdd, Int.reduceSub, Int.reduceMul, Int.reduceNeg, Int.reduceLT, Int.reduceLE, Int.reduceEq, Int.reduceDiv, ↓reduceIte, ↓ite_ww, ↓ite_wi, Br_n, Br_TW, Br_FW, Br_FP, Br_FB, nn_p, and_true, true_and, and_self, true_or, or_true, not_true_eq_false, not_false_eq_true, le_T, le_F, lt_T, lt_F, eq_T, eq_F, Int.add_zero, Int.zero_add, Int.one_mul, Int.mul_one, up_eq, up_ne, Int.add_assoc, Int.add_sub_cancel, Int.sub_zero, Int.sub_self, S_241_0, S_241_3, S_241_5, S_241_6, S_241_7, S_241_8, S_241_9, S_241_10, S_241_11, S_241_12, S_241_13, S_241_14, S_241_15, S_241_16, S_241_19, S_241_20, S_241_21, S_241_23, S_241_24, S_241_27, S_241_28, S_241_29, S_241_30, S_241_31, S_241_33, S_241_34, S_241_35, S_241_36, S_241_39, S_241_41, S_241_42, S_241_43, S_241_46, S_241_47, S_241_48, S_241_51, S_241_53, S_241_55, S_241_56, S_241_59, S_241_61, S_241_62, S_241_64, S_241_65, S_241_67, S_241_68, S_241_71, S_241_73, S_241_75, S_241_76, S_241_78, S_241_79, S_241_82, S_241_85, S_241_86, S_241_89, S_241_90, S_241_91, S_241_92, S_241_94, S_241_95, S_241_96, S_241_97, S_241_100, S_241_101, S_241_102, S_241_105, S_241_106, S_241_107, S_241_110, S_241_111, S_241_114, S_241_116, S_241_117, S_241_119, S_241_122, S_241_123, S_241_126, S_241_128, S_241_129, S_241_131, S_241_133, S_241_135, S_241_138, S_241_141, S_241_142, S_241_145, S_241_146, S_241_147, S_241_148, S_241_150, S_241_151, S_241_153, S_241_155, S_241_158, S_241_159, S_241_162, S_241_163, H_122, H_123, m_thingOf, ha, eT, up_up]))
        exact kk
  repeat' (first | (with_reducible refine Br_i ?_ ?_ <;> (intro hbr; first | exact False.elim hbr | skip)) | (with_reducible refine Wl_i ?_) | (simp (disch := first | omega | exact okF _ | exact okI _ | exact okR _ | assumption | exact okN) only [u_at, iI_zero, iI_31, iI_add, iI_sub, iI_mul, iI_neg, ↓iI_max, ↓iI_min, iI_div, emod_f, iI_lt, iI_le, iI_inj, iI_toInt, ↓ii01, ↓ii11, ↓bI_b, bI_0, bI_1, Kt_s, Kt_n, cat0, cat1, cat2, cat3, cat4, rfV, Nat.reduceAdd, Nat.reduceMul, Nat.reduceEqDiff, Int.reduceAdd, Int.reduceSub, Int.reduceMul, Int.reduceNeg, Int.reduceLT, Int.reduceLE, Int.reduceEq, Int.reduceDiv, ↓reduceIte, ↓ite_ww, ↓ite_wi, Br_n, Br_TW, Br_FW, Br_FP, Br_FB, nn_p, and_true, true_and, and_self, true_or, or_true, not_true_eq_false, not_false_eq_true, le_T, le_F, lt_T, lt_F, eq_T, eq_F, Int.add_zero, Int.zero_add, Int.one_mul, Int.mul_one, up_eq, up_ne, Int.add_assoc, Int.add_sub_cancel, Int.sub_zero, Int.sub_self, S_241_0, S_241_3, S_241_5, S_241_6, S_241_7, S_241_8, S_241_9, S_241_10, S_241_11, S_241_12, S_241_13, S_241_14, S_241_15, S_241_16, S_241_19, S_241_20, S_241_21, S_241_23, S_241_24, S_241_27, S_241_28, S_241_29, S_241_30, S_241_31, S_241_33, S_241_34, S_241_35, S_241_36, S_241_39, S_241_41, S_241_42, S_241_43, S_241_46, S_241_47, S_241_48, S_241_51, S_241_53, S_241_55, S_241_56, S_241_59, S_241_61, S_241_62, S_241_64, S_241_65, S_241_67, S_241_68, S_241_71, S_241_75, S_241_76, S_241_78, S_241_79, S_241_82, S_241_85, S_241_86, S_241_89, S_241_90, S_241_91, S_241_92, S_241_94, S_241_95, S_241_96, S_241_97, S_241_100, S_241_101, S_241_102, S_241_105, S_241_106, S_241_107, S_241_110, S_241_111, S_241_114, S_241_116, S_241_117, S_241_119, S_241_122, S_241_123, S_241_126, S_241_128, S_241_129, S_241_131, S_241_133, S_241_135, S_241_138, S_241_141, S_241_142, S_241_145, S_241_146, S_241_147, S_241_148, S_241_150, S_241_151, S_241_153, S_241_155, S_241_158, S_241_159, S_241_162, S_241_163, H_122, H_123, m_offerOf, hA]))
  refine m_runs hA hc hl W hw (by omega) ?_
  intro s2 f2 hm2 r2
  have hA2 := (f2.g 123 rfl).trans hA
  have e4 : s2 147 (A (180 + 13 * o)) = earn A l (A 3) (A (180 + 13 * o)) := (r2.1 (A (180 + 13 * o)) hO.1.1 hO.1.2).2
  have l0 := loop (A (10 + (4 * (A (180 + (13 * o + (3 + 3 * i)))) + 1))) s2 (by omega) ⟨Int.le_refl _, f2.up rfl, ⟨A (180 + (13 * o + (3 + (3 * i + 1)))), by rw [up_id rfl]; exact hA2⟩, fun p p0 p1 _ => hm2 p p0 p1⟩
  rw [tfd_0] at l0
  repeat' (first | (with_reducible refine Br_i ?_ ?_ <;> (intro hbr; first | exact False.elim hbr | skip)) | (with_reducible refine Wl_i ?_) | (simp (disch := first | omega | exact okF _ | exact okI _ | exact okR _ | assumption | exact okN) only [u_at, iI_zero, iI_31, iI_add, iI_sub, iI_mul, iI_neg, ↓iI_max, ↓iI_min, iI_div, emod_f, iI_lt, iI_le, iI_inj, iI_toInt, ↓ii01, ↓ii11, ↓bI_b, bI_0, bI_1, Kt_s, Kt_n, cat0, cat1, cat2, cat3, cat4, rfV, Nat.reduceAdd, Nat.reduceMul, Nat.reduceEqDiff, Int.reduceAdd, Int.reduceSub, Int.reduceMul, Int.reduceNeg, Int.reduceLT, Int.reduceLE, Int.reduceEq, Int.reduceDiv, ↓reduceIte, ↓ite_ww, ↓ite_wi, Br_n, Br_TW, Br_FW, Br_FP, Br_FB, nn_p, and_true, true_and, and_self, true_or, or_true, not_true_eq_false, not_false_eq_true, le_T, le_F, lt_T, lt_F, eq_T, eq_F, Int.add_zero, Int.zero_add, Int.one_mul, Int.mul_one, up_eq, up_ne, Int.add_assoc, Int.add_sub_cancel, Int.sub_zero, Int.sub_self, S_241_0, S_241_3, S_241_5, S_241_6, S_241_7, S_241_8, S_241_9, S_241_10, S_241_11, S_241_12, S_241_13, S_241_14, S_241_15, S_241_16, S_241_19, S_241_20, S_241_21, S_241_23, S_241_24, S_241_27, S_241_28, S_241_29, S_241_30, S_241_31, S_241_33, S_241_34, S_241_35, S_241_36, S_241_39, S_241_41, S_241_42, S_241_43, S_241_46, S_241_47, S_241_48, S_241_51, S_241_53, S_241_55, S_241_56, S_241_59, S_241_61, S_241_62, S_241_64, S_241_65, S_241_67, S_241_68, S_241_71, S_241_75, S_241_76, S_241_78, S_241_79, S_241_82, S_241_85, S_241_86, S_241_89, S_241_90, S_241_91, S_241_92, S_241_94, S_241_95, S_241_96, S_241_97, S_241_100, S_241_101, S_241_102, S_241_105, S_241_106, S_241_107, S_241_110, S_241_111, S_241_114, S_241_116, S_241_117, S_241_119, S_241_122, S_241_123, S_241_126, S_241_128, S_241_129, S_241_131, S_241_133, S_241_135, S_241_138, S_241_141, S_241_142, S_241_145, S_241_146, S_241_147, S_241_148, S_241_150, S_241_151, S_241_153, S_241_155, S_241_158, S_241_159, S_241_162, S_241_163, H_122, H_123, H_147, m_thingOf, hA2, e4]))
  exact l0
theorem c_turnItem (hI : IC0 0 s A) (hc : curC s l) (hl : lawOK l) (W : WF0 A) (hw : ∀ o, 0 ≤ o → o < A 3 → WO A o) (hm : ∀ o, 0 ≤ o → o < A 3 → CO A l o s) (hO' : ∀ o, 0 ≤ o → o < A 3 → cO 0 s A o) (ho : 0 ≤ o ∧ o < A 3) (hi : 0 ≤ i ∧ i < A (180 + (13 * o + 2))) (kk : ∀ s', Fr [105002, 56, 85, 86, 88, 89, 90, 91, 92, 93, 95, 96, 97, 98, 99, 100, 101, 102, 103, 104, 113, 114, 115, 116, 117] s s' → s' 56 = up (s 56) (o * 12 + (3 + (3 * i + 1))) (tOf A l o i) → (∀ p, 0 ≤ p → p < A 3 → CO (up A (180 + (13 * o + (3 + (3 * i + 1)))) (tOf A l o i)) l p s') → Q (some (.int (iI (bZ (¬ tOf A l o i = A (180 + (13 * o + (3 + (3 * i + 1))))))))) (hp X s')) : Wp (d + 8) 106 0 [.ref 105, .int (iI o), .int (iI i), .float 0, .float 0, .float 0, .float 0, .float 0, .float 0, .float 0] [] (hp X s) Q := by
  have w0 := W.1
  unfold W0 at w0
  have hO := hw o ho.1 ho.2
  have hO1 := hO.1
  have hO3 := hO.2.2.1
  have wi := hO.2.2.2 i hi.1 hi.2
  have wi1 := wi.1
  have wi2 := wi.2.1
  have wt := W.2.1 _ wi.1.1 wi.1.2
  have wt2 := wt.2.1
  have hi3 : 0 ≤ i ∧ i < 3 := by omega
  have c := hO' o ho.1 ho.2
  have ci := c.2.2.2 i hi.1 hi.2
  have n3 : s 55004 0 = A 3 := hI.1.2.2.2.1
  have p0 : s 56 (o * 12) = A (180 + 13 * o) := c.1
  have q0 : s 56 (o * 12 + (3 + 3 * i)) = A (180 + (13 * o + (3 + 3 * i))) := ci.1
  have q1 : s 56 (o * 12 + (3 + (3 * i + 1))) = A (180 + (13 * o + (3 + (3 * i + 1)))) := ci.2.1
  have ct := hI.2.1 _ wi.1.1 wi.1.2
  have t1 : s 50 (A (180 + (13 * o + (3 + 3 * i))) * 4 + 1) = A (10 + (4 * (A (180 + (13 * o + (3 + 3 * i)))) + 1)) := ct.2.1
  have t2 : s 50 (A (180 + (13 * o + (3 + 3 * i))) * 4 + 2) = A (10 + (4 * (A (180 + (13 * o + (3 + 3 * i)))) + 2)) := ct.2.2.1
  have loop : ∀ z s1, z ≤ A (10 + (4 * (A (180 + (13 * o + (3 + 3 * i)))) + 2)) + 1 → (A (10 + (4 * (A (180 + (13 * o + (3 + 3 * i)))) + 1)) ≤ z ∧ Fr [105002, 56, 85, 86, 88, 89, 90, 91, 92, 93, 95, 96, 97, 98, 99, 100, 101, 102, 103, 104, 113, 114, 115, 116, 117] s s1 ∧ (∃ a, s1 56 = up (s 56) (o * 12 + (3 + (3 * i + 1))) a) ∧ (∀ p, 0 ≤ p → p < A 3 → ¬ p = o → CO A l p s1) ∧ s1 105002 0 = (tfd A l o i z).2) → ∀ v9, okO v9 = true → Wp (d + 8) 106 76 [.ref 105, .int (iI o), .int (iI i), .int (iI (A 3)), .int (iI (A (180 + 13 * o))), .int (iI (A (180 + (13 * o + (3 + 3 * i))))), .int (iI (A (180 + (13 * o + (3 + (3 * i + 1)))))), .int (iI (tfd A l o i z).1), .int (iI z), v9] [] (hp X s1) Q := by
    refine lp ?_ ?_
    · intro z s1 hz ⟨z0, hf, ⟨a, ha⟩, hm1, hb⟩ kk2 v9 o9
      have e50 := hf.g 50 rfl
      rw [S_106_76]
      repeat' (first | (with_reducible refine Br_i ?_ ?_ <;> (intro hbr; first | exact False.elim hbr | skip)) | (with_reducible refine Wl_i ?_) | (simp (disch := first | omega | exact okF _ | exact okI _ | exact okR _ | assumption | exact okN) only [u_at, iI_zero, iI_31, iI_add, iI_sub, iI_mul, iI_neg, ↓iI_max, ↓iI_min, iI_div, emod_f, iI_lt, iI_le, iI_inj, iI_toInt, ↓ii01, ↓ii11, ↓bI_b, bI_0, bI_1, Kt_s, Kt_n, cat0, cat1, cat2, cat3, cat4, rfV, Nat.reduceAdd, Nat.reduceMul, Nat.reduceEqDiff, Int.reduceAdd, Int.reduceSub, Int.reduceMul, Int.reduceNeg, Int.reduceLT, Int.reduceLE, Int.reduceEq, Int.reduceDiv, ↓reduceIte, ↓ite_ww, ↓ite_wi, Br_n, Br_TW, Br_FW, Br_FP, Br_FB, nn_p, and_true, true_and, and_self, true_or, or_true, not_true_eq_false, not_false_eq_true, le_T, le_F, lt_T, lt_F, eq_T, eq_F, Int.add_zero, Int.zero_add, Int.one_mul, Int.mul_one, up_eq, up_ne, Int.add_assoc, Int.add_sub_cancel, Int.sub_zero, Int.sub_self, S_106_0, S_106_1, S_106_4, S_106_7, S_106_10, S_106_11, S_106_12, S_106_15, S_106_18, S_106_19, S_106_20, S_106_23, S_106_25, S_106_26, S_106_29, S_106_30, S_106_31, S_106_32, S_106_35, S_106_37, S_106_38, S_106_41, S_106_42, S_106_43, S_106_44, S_106_47, S_106_49, S_106_51, S_106_53, S_106_54, S_106_55, S_106_56, S_106_57, S_106_59, S_106_62, S_106_65, S_106_66, S_106_69, S_106_71, S_106_74, S_106_78, S_106_79, S_106_82, S_106_84, S_106_87, S_106_90, S_106_91, S_106_94, S_106_95, S_106_96, S_106_98, S_106_101, S_106_102, S_106_103, S_106_104, S_106_106, S_106_109, S_106_111, S_106_113, S_106_114, S_106_117, S_106_120, S_106_122, S_106_124, S_106_125, S_106_127, S_106_130, S_106_133, S_106_136, S_106_137, S_106_140, S_106_141, S_106_142, S_106_144, S_106_147, S_106_148, S_106_151, S_106_152, S_106_155, S_106_157, S_106_159, S_106_162, S_106_163, S_106_166, S_106_167, H_105, H_48, c_heavy, c_reweigh, e50, t2, ha, up_up]))
      generalize es2 : u s1 56 _ = s2
      have f2 : Fr [56] s1 s2 := by rw [← es2]; exact (by repeat (first | exact Fr.rf _ | refine Fr.u ?_ rfl))
      have h56 : s2 56 = up (s 56) (o * 12 + (3 + (3 * i + 1))) z := by rw [← es2, u_eq]
      have hfs := hf.to f2 rfl
      have zz := upI_0 (A := A) (w := z) (o := o) (i := i) (by omega) hi3
      have zw := upI_ws (A := A) (w := z) (o := o) (i := i) hi3 (by omega) ho W.1 hw
      refine c_earnedWith (A := up A (180 + (13 * o + (3 + (3 * i + 1)))) z) (IC0_cgA W.1 zz (IC0_fr hfs rfl hI)) (curC_fr hfs rfl hc) hl (WF0_cg zz W) zw (upI_c (by omega) hi3 h56 (by omega) c) ?_ (by omega) ho (by rw [zz 1 (by omega)]; exact hO.1) ?_
      · intro p p0 p1 pn
        exact CO_cg W.1 zz (upI_o hi3 pn) (hw p p0 p1) (CO_fr f2 (by omega) rfl (hm1 p p0 p1 pn))
      · intro s3 f3 hm3
        have F := hfs.to f3 rfl
        have M3 : ∀ p, 0 ≤ p → p < A 3 → ¬ p = o → CO A l p s3 := fun p p0 p1 pn => CO_cg (W0_cg zz W.1) zz.sy (upI_o hi3 pn).sy (zw p p0 p1) (hm3 p p0 p1)
        have b3 : s3 105002 0 = (tfd A l o i z).2 := by rw [f3.g 105002 rfl, f2.g 105002 rfl]; exact hb
        have ee : (year (up A (180 + (13 * o + (3 + (3 * i + 1)))) z) l (A 3)).2.1 (A (180 + 13 * o)) = eTrn A l o i z := rfl
        have e56 := (f3.g 56 rfl).trans h56
        rw [ee]
        have st := tfd_s (l := l) z0
        unfold tst at st
        generalize tfd A l o i z = B at *
        by_cases c : lt32 B.2 (eTrn A l o i z)
        · rw [if_pos c] at st
          have kk2 := kk2 (u s3 105002 (fun _ => eTrn A l o i z)) ⟨by omega, F.u rfl, ⟨z, e56⟩, fun p p0 p1 pn => CO_fr ((by repeat (first | exact Fr.rf _ | refine Fr.u ?_ rfl)) : Fr [105002] s3 _) (by omega) rfl (M3 p p0 p1 pn), by rw [st, u_eq]⟩ (.int (iI (eTrn A l o i z))) rfl
          rw [st] at kk2
          unfold lt32 at c
          repeat' (first | (with_reducible refine Br_i ?_ ?_ <;> (intro hbr; first | exact False.elim hbr | skip)) | (with_reducible refine Wl_i ?_) | (simp (disch := first | omega | exact okF _ | exact okI _ | exact okR _ | assumption | exact okN) only [u_at, iI_zero, iI_31, iI_add, iI_sub, iI_mul, iI_neg, ↓iI_max, ↓iI_min, iI_div, emod_f, iI_lt, iI_le, iI_inj, iI_toInt, ↓ii01, ↓ii11, ↓bI_b, bI_0, bI_1, Kt_s, Kt_n, cat0, cat1, cat2, cat3, cat4, rfV, Nat.reduceAdd, Nat.reduceMul, Nat.reduceEqDiff, Int.reduceAdd, Int.reduceSub, Int.reduceMul, Int.reduceNeg, Int.reduceLT, Int.reduceLE, Int.reduceEq, Int.reduceDiv, ↓reduceIte, ↓ite_ww, ↓ite_wi, Br_n, Br_TW, Br_FW, Br_FP, Br_FB, nn_p, and_true, true_and, and_self, true_or, or_true, not_true_eq_false, not_false_eq_true, le_T, le_F, lt_T, lt_F, eq_T, eq_F, Int.add_zero, Int.zero_add, Int.one_mul, Int.mul_one, up_eq, up_ne, Int.add_assoc, Int.add_sub_cancel, Int.sub_zero, Int.sub_self, S_106_0, S_106_1, S_106_4, S_106_7, S_106_10, S_106_11, S_106_12, S_106_15, S_106_18, S_106_19, S_106_20, S_106_23, S_106_25, S_106_26, S_106_29, S_106_30, S_106_31, S_106_32, S_106_35, S_106_37, S_106_38, S_106_41, S_106_42, S_106_43, S_106_44, S_106_47, S_106_49, S_106_51, S_106_53, S_106_54, S_106_55, S_106_56, S_106_57, S_106_59, S_106_62, S_106_65, S_106_66, S_106_69, S_106_71, S_106_74, S_106_78, S_106_79, S_106_82, S_106_84, S_106_87, S_106_90, S_106_91, S_106_94, S_106_95, S_106_96, S_106_98, S_106_101, S_106_102, S_106_103, S_106_104, S_106_106, S_106_109, S_106_111, S_106_113, S_106_114, S_106_117, S_106_120, S_106_122, S_106_124, S_106_125, S_106_127, S_106_130, S_106_133, S_106_136, S_106_137, S_106_140, S_106_141, S_106_142, S_106_144, S_106_147, S_106_148, S_106_151, S_106_152, S_106_155, S_106_157, S_106_159, S_106_162, S_106_163, S_106_166, S_106_167, H_105, b3, c]))
          exact kk2
        · rw [if_neg c] at st
          have kk2 := kk2 s3 ⟨by omega, F, ⟨z, e56⟩, M3, by rw [st]; exact b3⟩ (.int (iI (eTrn A l o i z))) rfl
          rw [st] at kk2
          have c2 : iI (eTrn A l o i z) ≤ iI B.2 := Classical.byContradiction fun q => c q
          repeat' (first | (with_reducible refine Br_i ?_ ?_ <;> (intro hbr; first | exact False.elim hbr | skip)) | (with_reducible refine Wl_i ?_) | (simp (disch := first | omega | exact okF _ | exact okI _ | exact okR _ | assumption | exact okN) only [u_at, iI_zero, iI_31, iI_add, iI_sub, iI_mul, iI_neg, ↓iI_max, ↓iI_min, iI_div, emod_f, iI_lt, iI_le, iI_inj, iI_toInt, ↓ii01, ↓ii11, ↓bI_b, bI_0, bI_1, Kt_s, Kt_n, cat0, cat1, cat2, cat3, cat4, rfV, Nat.reduceAdd, Nat.reduceMul, Nat.reduceEqDiff, Int.reduceAdd, Int.reduceSub, Int.reduceMul, Int.reduceNeg, Int.reduceLT, Int.reduceLE, Int.reduceEq, Int.reduceDiv, ↓reduceIte, ↓ite_ww, ↓ite_wi, Br_n, Br_TW, Br_FW, Br_FP, Br_FB, nn_p, and_true, true_and, and_self, true_or, or_true, not_true_eq_false, not_false_eq_true, le_T, le_F, lt_T, lt_F, eq_T, eq_F, Int.add_zero, Int.zero_add, Int.one_mul, Int.mul_one, up_eq, up_ne, Int.add_assoc, Int.add_sub_cancel, Int.sub_zero, Int.sub_self, S_106_0, S_106_1, S_106_4, S_106_7, S_106_10, S_106_11, S_106_12, S_106_15, S_106_18, S_106_19, S_106_20, S_106_23, S_106_25, S_106_26, S_106_29, S_106_30, S_106_31, S_106_32, S_106_35, S_106_37, S_106_38, S_106_41, S_106_42, S_106_43, S_106_44, S_106_47, S_106_49, S_106_51, S_106_53, S_106_54, S_106_55, S_106_56, S_106_57, S_106_59, S_106_62, S_106_65, S_106_66, S_106_69, S_106_71, S_106_74, S_106_78, S_106_79, S_106_82, S_106_84, S_106_87, S_106_90, S_106_91, S_106_94, S_106_95, S_106_96, S_106_98, S_106_101, S_106_102, S_106_103, S_106_104, S_106_106, S_106_109, S_106_111, S_106_113, S_106_114, S_106_117, S_106_120, S_106_122, S_106_124, S_106_125, S_106_127, S_106_130, S_106_133, S_106_136, S_106_137, S_106_140, S_106_141, S_106_142, S_106_144, S_106_147, S_106_148, S_106_151, S_106_152, S_106_155, S_106_157, S_106_159, S_106_162, S_106_163, S_106_166, S_106_167, H_105, b3, c2]))
          exact kk2
    · intro s1 ⟨z0, hf, ⟨a, ha⟩, hm1, hb⟩ v9 o9
      have e50 := hf.g 50 rfl
      have rr := tfd_r (l := l) wt wi2 z0 (Int.le_refl _)
      have et : (tfd A l o i (A (10 + (4 * (A (180 + (13 * o + (3 + 3 * i)))) + 2)) + 1)).1 = tOf A l o i := rfl
      rw [et] at rr ⊢
      repeat' (first | (with_reducible refine Br_i ?_ ?_ <;> (intro hbr; first | exact False.elim hbr | skip)) | (with_reducible refine Wl_i ?_) | (simp (disch := first | omega | exact okF _ | exact okI _ | exact okR _ | assumption | exact okN) only [u_at, iI_zero, iI_31, iI_add, iI_sub, iI_mul, iI_neg, ↓iI_max, ↓iI_min, iI_div, emod_f, iI_lt, iI_le, iI_inj, iI_toInt, ↓ii01, ↓ii11, ↓bI_b, bI_0, bI_1, Kt_s, Kt_n, cat0, cat1, cat2, cat3, cat4, rfV, Nat.reduceAdd, Nat.reduceMul, Nat.reduceEqDiff, Int.reduceAdd, Int.reduceSub, Int.reduceMul, Int.reduceNeg, Int.reduceLT, Int.reduceLE, Int.reduceEq, Int.reduceDiv, ↓reduceIte, ↓ite_ww, ↓ite_wi, Br_n, Br_TW, Br_FW, Br_FP, Br_FB, nn_p, and_true, true_and, and_self, true_or, or_true, not_true_eq_false, not_false_eq_true, le_T, le_F, lt_T, lt_F, eq_T, eq_F, Int.add_zero, Int.zero_add, Int.one_mul, Int.mul_one, up_eq, up_ne, Int.add_assoc, Int.add_sub_cancel, Int.sub_zero, Int.sub_self, S_106_0, S_106_1, S_106_4, S_106_7, S_106_10, S_106_11, S_106_12, S_106_15, S_106_18, S_106_19, S_106_20, S_106_23, S_106_25, S_106_26, S_106_29, S_106_30, S_106_31, S_106_32, S_106_35, S_106_37, S_106_38, S_106_41, S_106_42, S_106_43, S_106_44, S_106_47, S_106_49, S_106_51, S_106_53, S_106_54, S_106_55, S_106_56, S_106_57, S_106_59, S_106_62, S_106_65, S_106_66, S_106_69, S_106_71, S_106_74, S_106_76, S_106_78, S_106_79, S_106_82, S_106_84, S_106_87, S_106_90, S_106_91, S_106_94, S_106_95, S_106_96, S_106_98, S_106_101, S_106_102, S_106_103, S_106_104, S_106_106, S_106_109, S_106_111, S_106_113, S_106_114, S_106_117, S_106_120, S_106_122, S_106_124, S_106_125, S_106_127, S_106_130, S_106_133, S_106_136, S_106_137, S_106_140, S_106_141, S_106_142, S_106_144, S_106_147, S_106_148, S_106_151, S_106_152, S_106_155, S_106_157, S_106_159, S_106_162, S_106_163, S_106_166, S_106_167, H_105, H_48, H_87, c_heavy, c_reweigh, e50, t2, ha, up_up]))
      generalize es2 : u s1 56 _ = s2
      have f2 : Fr [56] s1 s2 := by rw [← es2]; exact (by repeat (first | exact Fr.rf _ | refine Fr.u ?_ rfl))
      have h56 : s2 56 = up (s 56) (o * 12 + (3 + (3 * i + 1))) (tOf A l o i) := by rw [← es2, u_eq]
      have hfs := hf.to f2 rfl
      have zz := upI_0 (A := A) (w := tOf A l o i) (o := o) (i := i) (by omega) hi3
      have zw := upI_ws (A := A) (w := tOf A l o i) (o := o) (i := i) hi3 (by omega) ho W.1 hw
      refine c_weigh (A := up A (180 + (13 * o + (3 + (3 * i + 1)))) (tOf A l o i)) (IC0_cgA W.1 zz (IC0_fr hfs rfl hI)) (curC_fr hfs rfl hc) hl (WF0_cg zz W) (zw o ho.1 ho.2) (upI_c (by omega) hi3 h56 (by omega) c) (by omega) ?_
      intro s3 f3 h3 h4
      have kk := kk s3 (hfs.to f3 rfl) ((f3.g 56 rfl).trans h56) (fun p p0 p1 => by
        by_cases e : p = o
        · rw [e]; exact h3
        · exact CO_same (by rw [zz 2 (by omega)]; omega) (CO_cg W.1 zz (upI_o hi3 e) (hw p p0 p1) (CO_fr f2 (by omega) rfl (hm1 p p0 p1 e))) (h4 p p0 e))
      by_cases c : tOf A l o i = A (180 + (13 * o + (3 + (3 * i + 1))))
      · rw [bZ_F (fun q => q c)] at kk
        repeat' (first | (with_reducible refine Br_i ?_ ?_ <;> (intro hbr; first | exact False.elim hbr | skip)) | (with_reducible refine Wl_i ?_) | (simp (disch := first | omega | exact okF _ | exact okI _ | exact okR _ | assumption | exact okN) only [u_at, iI_zero, iI_31, iI_add, iI_sub, iI_mul, iI_neg, ↓iI_max, ↓iI_min, iI_div, emod_f, iI_lt, iI_le, iI_inj, iI_toInt, ↓ii01, ↓ii11, ↓bI_b, bI_0, bI_1, Kt_s, Kt_n, cat0, cat1, cat2, cat3, cat4, rfV, Nat.reduceAdd, Nat.reduceMul, Nat.reduceEqDiff, Int.reduceAdd, Int.reduceSub, Int.reduceMul, Int.reduceNeg, Int.reduceLT, Int.reduceLE, Int.reduceEq, Int.reduceDiv, ↓reduceIte, ↓ite_ww, ↓ite_wi, Br_n, Br_TW, Br_FW, Br_FP, Br_FB, nn_p, and_true, true_and, and_self, true_or, or_true, not_true_eq_false, not_false_eq_true, le_T, le_F, lt_T, lt_F, eq_T, eq_F, Int.add_zero, Int.zero_add, Int.one_mul, Int.mul_one, up_eq, up_ne, Int.add_assoc, Int.add_sub_cancel, Int.sub_zero, Int.sub_self, S_106_0, S_106_1, S_106_4, S_106_7, S_106_10, S_106_11, S_106_12, S_106_15, S_106_18, S_106_19, S_106_20, S_106_23, S_106_25, S_106_26, S_106_29, S_106_30, S_106_31, S_106_32, S_106_35, S_106_37, S_106_38, S_106_41, S_106_42, S_106_43, S_106_44, S_106_47, S_106_49, S_106_51, S_106_53, S_106_54, S_106_55, S_106_56, S_106_57, S_106_59, S_106_62, S_106_65, S_106_66, S_106_69, S_106_71, S_106_74, S_106_76, S_106_78, S_106_79, S_106_82, S_106_84, S_106_87, S_106_90, S_106_91, S_106_94, S_106_95, S_106_96, S_106_98, S_106_101, S_106_102, S_106_103, S_106_104, S_106_106, S_106_109, S_106_111, S_106_113, S_106_114, S_106_117, S_106_120, S_106_122, S_106_124, S_106_125, S_106_127, S_106_130, S_106_133, S_106_136, S_106_137, S_106_140, S_106_141, S_106_142, S_106_144, S_106_147, S_106_148, S_106_151, S_106_152, S_106_155, S_106_157, S_106_159, S_106_162, S_106_163, S_106_166, S_106_167, H_105]))
        exact kk
      · rw [bZ_T c] at kk
        repeat' (first | (with_reducible refine Br_i ?_ ?_ <;> (intro hbr; first | exact False.elim hbr | skip)) | (with_reducible refine Wl_i ?_) | (simp (disch := first | omega | exact okF _ | exact okI _ | exact okR _ | assumption | exact okN) only [u_at, iI_zero, iI_31, iI_add, iI_sub, iI_mul, iI_neg, ↓iI_max, ↓iI_min, iI_div, emod_f, iI_lt, iI_le, iI_inj, iI_toInt, ↓ii01, ↓ii11, ↓bI_b, bI_0, bI_1, Kt_s, Kt_n, cat0, cat1, cat2, cat3, cat4, rfV, Nat.reduceAdd, Nat.reduceMul, Nat.reduceEqDiff, Int.reduceAdd, Int.reduceSub, Int.reduceMul, Int.reduceNeg, Int.reduceLT, Int.reduceLE, Int.reduceEq, Int.reduceDiv, ↓reduceIte, ↓ite_ww, ↓ite_wi, Br_n, Br_TW, Br_FW, Br_FP, Br_FB, nn_p, and_true, true_and, and_self, true_or, or_true, not_true_eq_false, not_false_eq_true, le_T, le_F, lt_T, lt_F, eq_T, eq_F, Int.add_zero, Int.zero_add, Int.one_mul, Int.mul_one, up_eq, up_ne, Int.add_assoc, Int.add_sub_cancel, Int.sub_zero, Int.sub_self, S_106_0, S_106_1, S_106_4, S_106_7, S_106_10, S_106_11, S_106_12, S_106_15, S_106_18, S_106_19, S_106_20, S_106_23, S_106_25, S_106_26, S_106_29, S_106_30, S_106_31, S_106_32, S_106_35, S_106_37, S_106_38, S_106_41, S_106_42, S_106_43, S_106_44, S_106_47, S_106_49, S_106_51, S_106_53, S_106_54, S_106_55, S_106_56, S_106_57, S_106_59, S_106_62, S_106_65, S_106_66, S_106_69, S_106_71, S_106_74, S_106_76, S_106_78, S_106_79, S_106_82, S_106_84, S_106_87, S_106_90, S_106_91, S_106_94, S_106_95, S_106_96, S_106_98, S_106_101, S_106_102, S_106_103, S_106_104, S_106_106, S_106_109, S_106_111, S_106_113, S_106_114, S_106_117, S_106_120, S_106_122, S_106_124, S_106_125, S_106_127, S_106_130, S_106_133, S_106_136, S_106_137, S_106_140, S_106_141, S_106_142, S_106_144, S_106_147, S_106_148, S_106_151, S_106_152, S_106_155, S_106_157, S_106_159, S_106_162, S_106_163, S_106_166, S_106_167, H_105]))
        exact kk
  repeat' (first | (with_reducible refine Br_i ?_ ?_ <;> (intro hbr; first | exact False.elim hbr | skip)) | (with_reducible refine Wl_i ?_) | (simp (disch := first | omega | exact okF _ | exact okI _ | exact okR _ | assumption | exact okN) only [u_at, iI_zero, iI_31, iI_add, iI_sub, iI_mul, iI_neg, ↓iI_max, ↓iI_min, iI_div, emod_f, iI_lt, iI_le, iI_inj, iI_toInt, ↓ii01, ↓ii11, ↓bI_b, bI_0, bI_1, Kt_s, Kt_n, cat0, cat1, cat2, cat3, cat4, rfV, Nat.reduceAdd, Nat.reduceMul, Nat.reduceEqDiff, Int.reduceAdd, Int.reduceSub, Int.reduceMul, Int.reduceNeg, Int.reduceLT, Int.reduceLE, Int.reduceEq, Int.reduceDiv, ↓reduceIte, ↓ite_ww, ↓ite_wi, Br_n, Br_TW, Br_FW, Br_FP, Br_FB, nn_p, and_true, true_and, and_self, true_or, or_true, not_true_eq_false, not_false_eq_true, le_T, le_F, lt_T, lt_F, eq_T, eq_F, Int.add_zero, Int.zero_add, Int.one_mul, Int.mul_one, up_eq, up_ne, Int.add_assoc, Int.add_sub_cancel, Int.sub_zero, Int.sub_self, S_106_0, S_106_1, S_106_4, S_106_7, S_106_10, S_106_11, S_106_12, S_106_15, S_106_18, S_106_19, S_106_20, S_106_23, S_106_25, S_106_26, S_106_29, S_106_30, S_106_31, S_106_32, S_106_35, S_106_37, S_106_38, S_106_41, S_106_42, S_106_43, S_106_44, S_106_47, S_106_49, S_106_51, S_106_53, S_106_54, S_106_55, S_106_56, S_106_57, S_106_59, S_106_62, S_106_65, S_106_66, S_106_69, S_106_71, S_106_74, S_106_78, S_106_79, S_106_82, S_106_84, S_106_87, S_106_90, S_106_91, S_106_94, S_106_95, S_106_96, S_106_98, S_106_101, S_106_102, S_106_103, S_106_104, S_106_106, S_106_109, S_106_111, S_106_113, S_106_114, S_106_117, S_106_120, S_106_122, S_106_124, S_106_125, S_106_127, S_106_130, S_106_133, S_106_136, S_106_137, S_106_140, S_106_141, S_106_142, S_106_144, S_106_147, S_106_148, S_106_151, S_106_152, S_106_155, S_106_157, S_106_159, S_106_162, S_106_163, S_106_166, S_106_167, H_105, H_48, H_55, c_at_55, c_part, n3, p0, q0, q1]))
  refine c_earnedWith hI hc hl W hw c (fun p p0 p1 _ => hm p p0 p1) (by omega) ho hO.1 ?_
  intro s2 f2 hm2
  have e50 := f2.g 50 rfl
  have ee : (year A l (A 3)).2.1 (A (180 + 13 * o)) = earn A l (A 3) (A (180 + 13 * o)) := rfl
  rw [ee]
  have l0 := loop (A (10 + (4 * (A (180 + (13 * o + (3 + 3 * i)))) + 1))) (u s2 105002 (fun _ => earn A l (A 3) (A (180 + 13 * o)))) (by omega) ⟨Int.le_refl _, (f2.up rfl).u rfl, ⟨A (180 + (13 * o + (3 + (3 * i + 1)))), by rw [up_id q1.symm]; exact f2.g 56 rfl⟩, fun p p0 p1 _ => CO_fr ((by repeat (first | exact Fr.rf _ | refine Fr.u ?_ rfl)) : Fr [105002] s2 _) (by omega) rfl (hm2 p p0 p1), by rw [tfd_0, u_eq]⟩ (.float 0) rfl
  rw [tfd_0] at l0
  repeat' (first | (with_reducible refine Br_i ?_ ?_ <;> (intro hbr; first | exact False.elim hbr | skip)) | (with_reducible refine Wl_i ?_) | (simp (disch := first | omega | exact okF _ | exact okI _ | exact okR _ | assumption | exact okN) only [u_at, iI_zero, iI_31, iI_add, iI_sub, iI_mul, iI_neg, ↓iI_max, ↓iI_min, iI_div, emod_f, iI_lt, iI_le, iI_inj, iI_toInt, ↓ii01, ↓ii11, ↓bI_b, bI_0, bI_1, Kt_s, Kt_n, cat0, cat1, cat2, cat3, cat4, rfV, Nat.reduceAdd, Nat.reduceMul, Nat.reduceEqDiff, Int.reduceAdd, Int.reduceSub, Int.reduceMul, Int.reduceNeg, Int.reduceLT, Int.reduceLE, Int.reduceEq, Int.reduceDiv, ↓reduceIte, ↓ite_ww, ↓ite_wi, Br_n, Br_TW, Br_FW, Br_FP, Br_FB, nn_p, and_true, true_and, and_self, true_or, or_true, not_true_eq_false, not_false_eq_true, le_T, le_F, lt_T, lt_F, eq_T, eq_F, Int.add_zero, Int.zero_add, Int.one_mul, Int.mul_one, up_eq, up_ne, Int.add_assoc, Int.add_sub_cancel, Int.sub_zero, Int.sub_self, S_106_0, S_106_1, S_106_4, S_106_7, S_106_10, S_106_11, S_106_12, S_106_15, S_106_18, S_106_19, S_106_20, S_106_23, S_106_25, S_106_26, S_106_29, S_106_30, S_106_31, S_106_32, S_106_35, S_106_37, S_106_38, S_106_41, S_106_42, S_106_43, S_106_44, S_106_47, S_106_49, S_106_51, S_106_53, S_106_54, S_106_55, S_106_56, S_106_57, S_106_59, S_106_62, S_106_65, S_106_66, S_106_69, S_106_71, S_106_74, S_106_78, S_106_79, S_106_82, S_106_84, S_106_87, S_106_90, S_106_91, S_106_94, S_106_95, S_106_96, S_106_98, S_106_101, S_106_102, S_106_103, S_106_104, S_106_106, S_106_109, S_106_111, S_106_113, S_106_114, S_106_117, S_106_120, S_106_122, S_106_124, S_106_125, S_106_127, S_106_130, S_106_133, S_106_136, S_106_137, S_106_140, S_106_141, S_106_142, S_106_144, S_106_147, S_106_148, S_106_151, S_106_152, S_106_155, S_106_157, S_106_159, S_106_162, S_106_163, S_106_166, S_106_167, H_105, H_48, c_light, e50, t1]))
  exact l0
end TU
