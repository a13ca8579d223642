/-! THE BEST WEIGHT of a thing in a new offer, both sides -/
def lt32 (a b : Int) : Prop := ¬ iI b ≤ iI a
noncomputable def earn (A : Int → Int) (l : lawT) (n k : Int) : Int := (year A l n).2.1 k
noncomputable def bst (e : Int → Int) (w : Int) (p : Int × Int) : Int × Int := @ite _ (p.1 = -1 ∨ lt32 p.2 (e w)) (Classical.propDecidable _) (w, e w) p
noncomputable def bfd (e : Int → Int) (v lo z : Int) : Int × Int := fd (bst e) (-1, v) lo z
theorem bfd_0 {e : Int → Int} {v lo : Int} : bfd e v lo lo = (-1, v) := fd_0 (Int.le_refl lo)
theorem bfd_s {e : Int → Int} {v lo z : Int} (h : lo ≤ z) : bfd e v lo (z + 1) = bst e z (bfd e v lo z) := fd_s h
theorem bfd_v {e : Int → Int} {v v2 lo z : Int} (h : lo < z) : bfd e v lo z = bfd e v2 lo z := by
  have q : bfd e v lo z = bfd e v2 lo z ∨ (z = lo ∧ (bfd e v lo z).1 = -1) := by
    refine fd_ind (g := bst e) (s := (-1, v)) (lo := lo) (hi := z) (P := fun z p => p = bfd e v2 lo z ∨ (z = lo ∧ p.1 = -1)) (Or.inr ⟨rfl, rfl⟩) ?_ (by omega)
    intro y p y0 y1 ih
    left
    rw [bfd_s y0]
    rcases ih with ih | ⟨ez, ih⟩
    · rw [ih]
    · rw [ez, bfd_0]
      unfold bst
      rw [if_pos (Or.inl ih), if_pos (Or.inl rfl)]
  rcases q with q | q
  · exact q
  · omega
theorem bfd_r {e : Int → Int} {v lo z : Int} (hlo : 0 ≤ lo) (h : lo ≤ z) : (z = lo ∧ (bfd e v lo z).1 = -1) ∨ (lo ≤ (bfd e v lo z).1 ∧ (bfd e v lo z).1 < z) := by
  refine fd_ind (g := bst e) (s := (-1, v)) (lo := lo) (hi := z) (P := fun z p => (z = lo ∧ p.1 = -1) ∨ (lo ≤ p.1 ∧ p.1 < z)) (Or.inl ⟨rfl, rfl⟩) ?_ h
  intro y p y0 y1 ih
  right
  unfold bst
  by_cases c : p.1 = -1 ∨ lt32 p.2 (e y)
  · rw [if_pos c]
    exact ⟨y0, by show y < y + 1; omega⟩
  · rw [if_neg c]
    rcases ih with ⟨_, q⟩ | q
    · exact absurd (Or.inl q) c
    · omega
noncomputable def eOne (A : Int → Int) (l : lawT) (n k h t : Int) : Int → Int := fun w => earn (fOne A n k h t w) l (n + 1) k
noncomputable def bOf (A : Int → Int) (l : lawT) (n k h t v : Int) : Int × Int := bfd (eOne A l n k h t) v (A (10 + (4 * t + 1))) (A (10 + (4 * t + 2)) + 1)
/-- outside the row n -/
def outR (A B : Int → Int) (n : Int) : Prop := ∀ z, (z < 180 + 13 * n ∨ 180 + 13 * n + 13 ≤ z) → B z = A z
theorem cO_one {s : sg} {A : Int → Int} {n k h t w : Int} (h0 : s 56 (n * 12) = k) (h1 : s 56 (n * 12 + 1) = h) (h2 : s 56 (n * 12 + 2) = 1) (h3 : s 56 (n * 12 + 3) = t) (h4 : s 56 (n * 12 + 4) = w) (h5 : s 56 (n * 12 + 5) = 0) : cO 0 s (fOne A n k h t w) n := by
  have e0 : fOne A n k h t w (180 + 13 * n) = k := by
    have q := fOne_at (A := A) (n := n) (k := k) (t := t) (w := w) (h := h) (c := 0) (by omega)
    rw [Int.add_zero] at q
    exact q
  have e1 : fOne A n k h t w (180 + (13 * n + 1)) = h := fOne_at (c := 1) (by omega)
  have e2 : fOne A n k h t w (180 + (13 * n + 2)) = 1 := fOne_at (c := 2) (by omega)
  unfold cO
  rw [e0, e1, e2]
  refine ⟨h0, h1, h2, fun i i0 i1 => ?_⟩
  have ei : i = 0 := by omega
  subst ei
  have e3 : fOne A n k h t w (180 + (13 * n + (3 + 3 * 0))) = t := fOne_at (c := 3) (by omega)
  have e4 : fOne A n k h t w (180 + (13 * n + (3 + (3 * 0 + 1)))) = w := fOne_at (c := 4) (by omega)
  have e5 : fOne A n k h t w (180 + (13 * n + (3 + (3 * 0 + 2)))) = 0 := fOne_at (c := 5) (by omega)
  unfold cI
  rw [e3, e4, e5]
  exact ⟨h3, h4, h5⟩
section BS
variable {d : Nat} {X : hX} {s : sg} {Q : Option Value → aH → Prop} {n h k t : Int} {A : Int → Int} {l : lawT}
theorem curM_A {L : List Nat} {s s2 : sg} (f : Fr L s s2) (w : (nin 126 L && nin 127 L && nin 128 L && nin 129 L && nin 130 L) = true) (o : outR (s 123) (s2 123) n) (hn : 0 ≤ n) (hc : curM s l) : curM s2 l := curM_fr f w (o 5 (by omega)) hc
theorem m_bestOf (hA : s 123 = A) (hc : curM s l) (hl : lawOK l) (W : WF0 A) (hw : ∀ o, 0 ≤ o → o < A 3 → WO A o) (hk : 0 ≤ k ∧ k < A 1) (hh : 0 ≤ h ∧ h < 4) (ht : 0 ≤ t ∧ t < A 0) (kk : ∀ s', Fr [122047, 123, 139, 140, 141, 142, 143, 144, 145, 146, 147, 148, 149, 150, 151, 152] s s' → s' 122047 0 = (bOf A l (A 3) k h t 0).1 → outR A (s' 123) (A 3) → Q (some (.int (iI (bOf A l (A 3) k h t 0).2))) (hp X s')) : Wp (d + 8) 239 0 [.ref 122, .int (iI k), .int (iI t), .int (iI h), .float 0, .float 0, .float 0] [] (hp X s) Q := by
  have w0 := W.1
  unfold W0 at w0
  have wt := W.2.1 t ht.1 ht.2
  have wt2 := wt.2.1
  have loop : ∀ w s1, w ≤ A (10 + (4 * t + 2)) + 1 → (A (10 + (4 * t + 1)) ≤ w ∧ Fr [122047, 123, 139, 140, 141, 142, 143, 144, 145, 146, 147, 148, 149, 150, 151, 152] s s1 ∧ outR A (s1 123) (A 3) ∧ (∀ o, 0 ≤ o → o < A 3 → MO A l o s1) ∧ s1 122047 0 = (bfd (eOne A l (A 3) k h t) 0 (A (10 + (4 * t + 1))) w).1) → Wp (d + 8) 239 30 [.ref 122, .int (iI k), .int (iI t), .int (iI h), .int (iI (A 3)), .int (iI (bfd (eOne A l (A 3) k h t) 0 (A (10 + (4 * t + 1))) w).2), .int (iI w)] [] (hp X s1) Q := by
    refine lp ?_ ?_
    · intro w s1 hi ⟨w1, hf, ho, hm, hb⟩ kk2
      have eT : s1 123 (10 + (4 * t + 2)) = A (10 + (4 * t + 2)) := ho _ (by omega)
      have e1 := fOne_cg (A := A) (B := s1 123) (n := A 3) (k := k) (h := h) (t := t) (w := w) ho
      have e1' : fLays (fOpens (s1 123) (A 3) k h) (A 3) t w 0 = fOne A (A 3) k h t w := e1
      have z0 := fOne_0 (A := A) (n := A 3) (k := k) (h := h) (t := t) (w := w) (by omega)
      have zw : ∀ p, 0 ≤ p → p < A 3 + 1 → WO (fOne A (A 3) k h t w) p := by
        intro p p0 p1
        by_cases e : p = A 3
        · rw [e]; exact fOne_w (by omega) hk hh ht (by omega)
        · exact WO_cg z0 (fOne_o e) (hw p p0 (by omega))
      have o2 : fOpens (s1 123) (A 3) k h (180 + (13 * (A 3) + 2)) = 0 := fOpens_o2
      have ly := fun (d : Nat) (Q : Option Value → aH → Prop) => m_lays (d := d) (X := X) (Q := Q) (s := u s1 123 (fOpens (s1 123) (A 3) k h)) (o := A 3) (t := t) (a := w) (b := 0) (A := fOpens (s1 123) (A 3) k h) (u_eq _ _ _) (by omega) (by rw [o2]; omega)
      rw [S_239_30]
      repeat' (first | (with_reducible refine Br_i ?_ ?_ <;> (intro hbr; first | exact False.elim hbr | skip)) | (with_reducible refine Wl_i ?_) | (simp (disch := first | omega | exact okF _ | exact okI _ | exact okR _ | assumption | exact okN) only [u_at, iI_zero, iI_31, iI_add, iI_sub, iI_mul, iI_neg, ↓iI_max, ↓iI_min, iI_div, emod_f, iI_lt, iI_le, iI_inj, iI_toInt, ↓ii01, ↓ii11, ↓bI_b, bI_0, bI_1, Kt_s, Kt_n, cat0, cat1, cat2, cat3, cat4, rfV, Nat.reduceAdd, Nat.reduceMul, Nat.reduceEqDiff, Int.reduceAdd, Int.reduceSub, Int.reduceMul, Int.reduceNeg, Int.reduceLT, Int.reduceLE, Int.reduceEq, Int.reduceDiv, ↓reduceIte, ↓ite_ww, ↓ite_wi, Br_n, Br_TW, Br_FW, Br_FP, Br_FB, nn_p, and_true, true_and, and_self, true_or, or_true, not_true_eq_false, not_false_eq_true, le_T, le_F, lt_T, lt_F, eq_T, eq_F, Int.add_zero, Int.zero_add, Int.one_mul, Int.mul_one, up_eq, up_ne, Int.add_assoc, Int.add_sub_cancel, Int.sub_zero, Int.sub_self, S_239_0, S_239_1, S_239_4, S_239_5, S_239_6, S_239_8, S_239_9, S_239_11, S_239_12, S_239_13, S_239_16, S_239_17, S_239_19, S_239_22, S_239_23, S_239_24, S_239_25, S_239_28, S_239_32, S_239_33, S_239_34, S_239_35, S_239_38, S_239_41, S_239_42, S_239_44, S_239_45, S_239_46, S_239_49, S_239_50, S_239_52, S_239_53, S_239_55, S_239_56, S_239_59, S_239_60, S_239_62, S_239_65, S_239_66, S_239_68, S_239_69, S_239_70, S_239_73, S_239_74, S_239_77, S_239_78, S_239_81, S_239_82, S_239_85, S_239_86, S_239_87, S_239_89, S_239_92, S_239_93, S_239_96, S_239_97, S_239_98, S_239_100, S_239_101, S_239_103, S_239_106, S_239_109, S_239_112, S_239_114, H_122, H_123, m_thingOf, eT, m_opens rfl, ly, u_u, e1']))
      generalize es2 : u s1 123 _ = s2
      have f2 : Fr [123] s1 s2 := by rw [← es2]; exact (by repeat (first | exact Fr.rf _ | refine Fr.u ?_ rfl))
      have hA2 : s2 123 = fOne A (A 3) k h t w := by rw [← es2, u_eq]
      have ho2 : outR A (s2 123) (A 3) := by rw [hA2]; exact fun z hz => fOne_ne hz
      have hfs := hf.to f2 rfl
      refine m_laysOffer hA2 (curM_A hfs rfl (by rw [hA]; exact ho2) (by omega) hc) hl (WF0_cg z0 W) (zw _ (by omega) (by omega)) (by omega) ?_
      intro s3 f3 h3 h4
      have hA3 := (f3.g 123 rfl).trans hA2
      have hm3 : ∀ p, 0 ≤ p → p < A 3 + 1 → MO (fOne A (A 3) k h t w) l p s3 := by
        intro p p0 p1
        by_cases e : p = A 3
        · rw [e]; exact h3
        · refine MO_same (by rw [z0 2 (by omega)]; omega) (MO_cg W.1 z0 (fOne_o e) (hw p p0 (by omega)) (MO_fr f2 rfl (hm p p0 (by omega)))) (h4 p p0 e)
      repeat' (first | (with_reducible refine Br_i ?_ ?_ <;> (intro hbr; first | exact False.elim hbr | skip)) | (with_reducible refine Wl_i ?_) | (simp (disch := first | omega | exact okF _ | exact okI _ | exact okR _ | assumption | exact okN) only [u_at, iI_zero, iI_31, iI_add, iI_sub, iI_mul, iI_neg, ↓iI_max, ↓iI_min, iI_div, emod_f, iI_lt, iI_le, iI_inj, iI_toInt, ↓ii01, ↓ii11, ↓bI_b, bI_0, bI_1, Kt_s, Kt_n, cat0, cat1, cat2, cat3, cat4, rfV, Nat.reduceAdd, Nat.reduceMul, Nat.reduceEqDiff, Int.reduceAdd, Int.reduceSub, Int.reduceMul, Int.reduceNeg, Int.reduceLT, Int.reduceLE, Int.reduceEq, Int.reduceDiv, ↓reduceIte, ↓ite_ww, ↓ite_wi, Br_n, Br_TW, Br_FW, Br_FP, Br_FB, nn_p, and_true, true_and, and_self, true_or, or_true, not_true_eq_false, not_false_eq_true, le_T, le_F, lt_T, lt_F, eq_T, eq_F, Int.add_zero, Int.zero_add, Int.one_mul, Int.mul_one, up_eq, up_ne, Int.add_assoc, Int.add_sub_cancel, Int.sub_zero, Int.sub_self, S_239_0, S_239_1, S_239_4, S_239_5, S_239_6, S_239_8, S_239_9, S_239_11, S_239_12, S_239_13, S_239_16, S_239_17, S_239_19, S_239_22, S_239_23, S_239_24, S_239_25, S_239_28, S_239_32, S_239_33, S_239_34, S_239_35, S_239_38, S_239_41, S_239_42, S_239_44, S_239_45, S_239_46, S_239_49, S_239_50, S_239_52, S_239_53, S_239_55, S_239_56, S_239_59, S_239_60, S_239_62, S_239_65, S_239_66, S_239_68, S_239_69, S_239_70, S_239_73, S_239_74, S_239_77, S_239_78, S_239_81, S_239_82, S_239_85, S_239_86, S_239_87, S_239_89, S_239_92, S_239_93, S_239_96, S_239_97, S_239_98, S_239_100, S_239_101, S_239_103, S_239_106, S_239_109, S_239_112, S_239_114, H_122]))
      refine m_goes hA3 (WF0_cg z0 W) zw hm3 (by omega) ?_
      intro s4 f4 r4
      have e4 : s4 147 k = eOne A l (A 3) k h t w := (r4.1 k hk.1 (by rw [z0 1 (by omega)]; exact hk.2)).2
      have b4 : s4 122047 0 = (bfd (eOne A l (A 3) k h t) 0 (A (10 + (4 * t + 1))) w).1 := by
        rw [f4.g 122047 rfl, f3.g 122047 rfl, f2.g 122047 rfl]; exact hb
      have F : Fr [122047, 123, 139, 140, 141, 142, 143, 144, 145, 146, 147, 148, 149, 150, 151, 152] s s4 := (hfs.to f3 rfl).to f4 rfl
      have O : outR A (s4 123) (A 3) := by rw [f4.g 123 rfl, hA3]; exact fun z hz => fOne_ne hz
      have M4 : ∀ o, 0 ≤ o → o < A 3 → MO A l o s4 := by
        intro o o0 o1
        have q := hm3 o o0 (by omega)
        have z0' := z0.sy
        refine MO_fr f4 rfl (MO_cg (W0_cg z0 W.1) z0' (fOne_o (by omega)).sy (zw o o0 (by omega)) q)
      have rr := bfd_r (e := eOne A l (A 3) k h t) (v := 0) (by omega) w1
      have st := bfd_s (e := eOne A l (A 3) k h t) (v := 0) w1
      unfold bst at st
      generalize bfd (eOne A l (A 3) k h t) 0 (A (10 + (4 * t + 1))) w = B at *
      have rb : -1 ≤ B.1 ∧ B.1 ≤ 41 := by omega
      by_cases c : B.1 = -1 ∨ lt32 B.2 (eOne A l (A 3) k h t w)
      · rw [if_pos c] at st
        have kk2 := kk2 (u s4 122047 (fun _ => w)) ⟨by omega, F.u rfl, O, fun o o0 o1 => MO_fr ((by repeat (first | exact Fr.rf _ | refine Fr.u ?_ rfl)) : Fr [122047] s4 _) rfl (M4 o o0 o1), by rw [st, u_eq]⟩
        rw [st] at kk2
        by_cases c1 : B.1 = -1
        · repeat' (first | (with_reducible refine Br_i ?_ ?_ <;> (intro hbr; first | exact False.elim hbr | skip)) | (with_reducible refine Wl_i ?_) | (simp (disch := first | omega | exact okF _ | exact okI _ | exact okR _ | assumption | exact okN) only [u_at, iI_zero, iI_31, iI_add, iI_sub, iI_mul, iI_neg, ↓iI_max, ↓iI_min, iI_div, emod_f, iI_lt, iI_le, iI_inj, iI_toInt, ↓ii01, ↓ii11, ↓bI_b, bI_0, bI_1, Kt_s, Kt_n, cat0, cat1, cat2, cat3, cat4, rfV, Nat.reduceAdd, Nat.reduceMul, Nat.reduceEqDiff, Int.reduceAdd, Int.reduceSub, Int.reduceMul, Int.reduceNeg, Int.reduceLT, Int.reduceLE, Int.reduceEq, Int.reduceDiv, ↓reduceIte, ↓ite_ww, ↓ite_wi, Br_n, Br_TW, Br_FW, Br_FP, Br_FB, nn_p, and_true, true_and, and_self, true_or, or_true, not_true_eq_false, not_false_eq_true, le_T, le_F, lt_T, lt_F, eq_T, eq_F, Int.add_zero, Int.zero_add, Int.one_mul, Int.mul_one, up_eq, up_ne, Int.add_assoc, Int.add_sub_cancel, Int.sub_zero, Int.sub_self, S_239_0, S_239_1, S_239_4, S_239_5, S_239_6, S_239_8, S_239_9, S_239_11, S_239_12, S_239_13, S_239_16, S_239_17, S_239_19, S_239_22, S_239_23, S_239_24, S_239_25, S_239_28, S_239_32, S_239_33, S_239_34, S_239_35, S_239_38, S_239_41, S_239_42, S_239_44, S_239_45, S_239_46, S_239_49, S_239_50, S_239_52, S_239_53, S_239_55, S_239_56, S_239_59, S_239_60, S_239_62, S_239_65, S_239_66, S_239_68, S_239_69, S_239_70, S_239_73, S_239_74, S_239_77, S_239_78, S_239_81, S_239_82, S_239_85, S_239_86, S_239_87, S_239_89, S_239_92, S_239_93, S_239_96, S_239_97, S_239_98, S_239_100, S_239_101, S_239_103, S_239_106, S_239_109, S_239_112, S_239_114, H_122, H_147, b4, e4, c1]))
          exact kk2
        · have c2 := c.resolve_left c1
          unfold lt32 at c2
          repeat' (first | (with_reducible refine Br_i ?_ ?_ <;> (intro hbr; first | exact False.elim hbr | skip)) | (with_reducible refine Wl_i ?_) | (simp (disch := first | omega | exact okF _ | exact okI _ | exact okR _ | assumption | exact okN) only [u_at, iI_zero, iI_31, iI_add, iI_sub, iI_mul, iI_neg, ↓iI_max, ↓iI_min, iI_div, emod_f, iI_lt, iI_le, iI_inj, iI_toInt, ↓ii01, ↓ii11, ↓bI_b, bI_0, bI_1, Kt_s, Kt_n, cat0, cat1, cat2, cat3, cat4, rfV, Nat.reduceAdd, Nat.reduceMul, Nat.reduceEqDiff, Int.reduceAdd, Int.reduceSub, Int.reduceMul, Int.reduceNeg, Int.reduceLT, Int.reduceLE, Int.reduceEq, Int.reduceDiv, ↓reduceIte, ↓ite_ww, ↓ite_wi, Br_n, Br_TW, Br_FW, Br_FP, Br_FB, nn_p, and_true, true_and, and_self, true_or, or_true, not_true_eq_false, not_false_eq_true, le_T, le_F, lt_T, lt_F, eq_T, eq_F, Int.add_zero, Int.zero_add, Int.one_mul, Int.mul_one, up_eq, up_ne, Int.add_assoc, Int.add_sub_cancel, Int.sub_zero, Int.sub_self, S_239_0, S_239_1, S_239_4, S_239_5, S_239_6, S_239_8, S_239_9, S_239_11, S_239_12, S_239_13, S_239_16, S_239_17, S_239_19, S_239_22, S_239_23, S_239_24, S_239_25, S_239_28, S_239_32, S_239_33, S_239_34, S_239_35, S_239_38, S_239_41, S_239_42, S_239_44, S_239_45, S_239_46, S_239_49, S_239_50, S_239_52, S_239_53, S_239_55, S_239_56, S_239_59, S_239_60, S_239_62, S_239_65, S_239_66, S_239_68, S_239_69, S_239_70, S_239_73, S_239_74, S_239_77, S_239_78, S_239_81, S_239_82, S_239_85, S_239_86, S_239_87, S_239_89, S_239_92, S_239_93, S_239_96, S_239_97, S_239_98, S_239_100, S_239_101, S_239_103, S_239_106, S_239_109, S_239_112, S_239_114, H_122, H_147, b4, e4, c2]))
          exact kk2
      · rw [if_neg c] at st
        have kk2 := kk2 s4 ⟨by omega, F, O, M4, by rw [st]; exact b4⟩
        rw [st] at kk2
        have c1 : ¬ B.1 = -1 := fun q => c (Or.inl q)
        have c2 : iI (eOne A l (A 3) k h t w) ≤ iI B.2 := Classical.byContradiction fun q => c (Or.inr q)
        repeat' (first | (with_reducible refine Br_i ?_ ?_ <;> (intro hbr; first | exact False.elim hbr | skip)) | (with_reducible refine Wl_i ?_) | (simp (disch := first | omega | exact okF _ | exact okI _ | exact okR _ | assumption | exact okN) only [u_at, iI_zero, iI_31, iI_add, iI_sub, iI_mul, iI_neg, ↓iI_max, ↓iI_min, iI_div, emod_f, iI_lt, iI_le, iI_inj, iI_toInt, ↓ii01, ↓ii11, ↓bI_b, bI_0, bI_1, Kt_s, Kt_n, cat0, cat1, cat2, cat3, cat4, rfV, Nat.reduceAdd, Nat.reduceMul, Nat.reduceEqDiff, Int.reduceAdd, Int.reduceSub, Int.reduceMul, Int.reduceNeg, Int.reduceLT, Int.reduceLE, Int.reduceEq, Int.reduceDiv, ↓reduceIte, ↓ite_ww, ↓ite_wi, Br_n, Br_TW, Br_FW, Br_FP, Br_FB, nn_p, and_true, true_and, and_self, true_or, or_true, not_true_eq_false, not_false_eq_true, le_T, le_F, lt_T, lt_F, eq_T, eq_F, Int.add_zero, Int.zero_add, Int.one_mul, Int.mul_one, up_eq, up_ne, Int.add_assoc, Int.add_sub_cancel, Int.sub_zero, Int.sub_self, S_239_0, S_239_1, S_239_4, S_239_5, S_239_6, S_239_8, S_239_9, S_239_11, S_239_12, S_239_13, S_239_16, S_239_17, S_239_19, S_239_22, S_239_23, S_239_24, S_239_25, S_239_28, S_239_32, S_239_33, S_239_34, S_239_35, S_239_38, S_239_41, S_239_42, S_239_44, S_239_45, S_239_46, S_239_49, S_239_50, S_239_52, S_239_53, S_239_55, S_239_56, S_239_59, S_239_60, S_239_62, S_239_65, S_239_66, S_239_68, S_239_69, S_239_70, S_239_73, S_239_74, S_239_77, S_239_78, S_239_81, S_239_82, S_239_85, S_239_86, S_239_87, S_239_89, S_239_92, S_239_93, S_239_96, S_239_97, S_239_98, S_239_100, S_239_101, S_239_103, S_239_106, S_239_109, S_239_112, S_239_114, H_122, H_147, b4, e4, c1, c2]))
        exact kk2
    · intro s1 ⟨w1, hf, ho, hm, hb⟩
      have eT : s1 123 (10 + (4 * t + 2)) = A (10 + (4 * t + 2)) := ho _ (by omega)
      repeat' (first | (with_reducible refine Br_i ?_ ?_ <;> (intro hbr; first | exact False.elim hbr | skip)) | (with_reducible refine Wl_i ?_) | (simp (disch := first | omega | exact okF _ | exact okI _ | exact okR _ | assumption | exact okN) only [u_at, iI_zero, iI_31, iI_add, iI_sub, iI_mul, iI_neg, ↓iI_max, ↓iI_min, iI_div, emod_f, iI_lt, iI_le, iI_inj, iI_toInt, ↓ii01, ↓ii11, ↓bI_b, bI_0, bI_1, Kt_s, Kt_n, cat0, cat1, cat2, cat3, cat4, rfV, Nat.reduceAdd, Nat.reduceMul, Nat.reduceEqDiff, Int.reduceAdd, Int.reduceSub, Int.reduceMul, Int.reduceNeg, Int.reduceLT, Int.reduceLE, Int.reduceEq, Int.reduceDiv, ↓reduceIte, ↓ite_ww, ↓ite_wi, Br_n, Br_TW, Br_FW, Br_FP, Br_FB, nn_p, and_true, true_and, and_self, true_or, or_true, not_true_eq_false, not_false_eq_true, le_T, le_F, lt_T, lt_F, eq_T, eq_F, Int.add_zero, Int.zero_add, Int.one_mul, Int.mul_one, up_eq, up_ne, Int.add_assoc, Int.add_sub_cancel, Int.sub_zero, Int.sub_self, S_239_0, S_239_1, S_239_4, S_239_5, S_239_6, S_239_8, S_239_9, S_239_11, S_239_12, S_239_13, S_239_16, S_239_17, S_239_19, S_239_22, S_239_23, S_239_24, S_239_25, S_239_28, S_239_30, S_239_32, S_239_33, S_239_34, S_239_35, S_239_38, S_239_41, S_239_42, S_239_44, S_239_45, S_239_46, S_239_49, S_239_50, S_239_52, S_239_53, S_239_55, S_239_56, S_239_59, S_239_60, S_239_62, S_239_65, S_239_66, S_239_68, S_239_69, S_239_70, S_239_73, S_239_74, S_239_77, S_239_78, S_239_81, S_239_82, S_239_85, S_239_86, S_239_87, S_239_89, S_239_92, S_239_93, S_239_96, S_239_97, S_239_98, S_239_100, S_239_101, S_239_103, S_239_106, S_239_109, S_239_112, S_239_114, H_122, m_thingOf, eT]))
      exact kk s1 hf hb ho
  have fa : Fr [122047] s (u s 122047 (fun _ => -1)) := (by repeat (first | exact Fr.rf _ | refine Fr.u ?_ rfl))
  repeat' (first | (with_reducible refine Br_i ?_ ?_ <;> (intro hbr; first | exact False.elim hbr | skip)) | (with_reducible refine Wl_i ?_) | (simp (disch := first | omega | exact okF _ | exact okI _ | exact okR _ | assumption | exact okN) only [u_at, iI_zero, iI_31, iI_add, iI_sub, iI_mul, iI_neg, ↓iI_max, ↓iI_min, iI_div, emod_f, iI_lt, iI_le, iI_inj, iI_toInt, ↓ii01, ↓ii11, ↓bI_b, bI_0, bI_1, Kt_s, Kt_n, cat0, cat1, cat2, cat3, cat4, rfV, Nat.reduceAdd, Nat.reduceMul, Nat.reduceEqDiff, Int.reduceAdd, Int.reduceSub, Int.reduceMul, Int.reduceNeg, Int.reduceLT, Int.reduceLE, Int.reduceEq, Int.reduceDiv, ↓reduceIte, ↓ite_ww, ↓ite_wi, Br_n, Br_TW, Br_FW, Br_FP, Br_FB, nn_p, and_true, true_and, and_self, true_or, or_true, not_true_eq_false, not_false_eq_true, le_T, le_F, lt_T, lt_F, eq_T, eq_F, Int.add_zero, Int.zero_add, Int.one_mul, Int.mul_one, up_eq, up_ne, Int.add_assoc, Int.add_sub_cancel, Int.sub_zero, Int.sub_self, S_239_0, S_239_1, S_239_4, S_239_5, S_239_6, S_239_8, S_239_9, S_239_11, S_239_12, S_239_13, S_239_16, S_239_17, S_239_19, S_239_22, S_239_23, S_239_24, S_239_25, S_239_28, S_239_32, S_239_33, S_239_34, S_239_35, S_239_38, S_239_41, S_239_42, S_239_44, S_239_45, S_239_46, S_239_49, S_239_50, S_239_52, S_239_53, S_239_55, S_239_56, S_239_59, S_239_60, S_239_62, S_239_65, S_239_66, S_239_68, S_239_69, S_239_70, S_239_73, S_239_74, S_239_77, S_239_78, S_239_81, S_239_82, S_239_85, S_239_86, S_239_87, S_239_89, S_239_92, S_239_93, S_239_96, S_239_97, S_239_98, S_239_100, S_239_101, S_239_103, S_239_106, S_239_109, S_239_112, S_239_114, H_122, H_123, hA]))
  refine m_runs (s := u s 122047 (fun _ => -1)) hA (curM_fr fa rfl rfl hc) hl W hw (by omega) ?_
  intro s2 f2 hm2 r2
  have hA2 : s2 123 = A := (f2.g 123 rfl).trans hA
  have l0 := loop (A (10 + (4 * t + 1))) s2 (by omega) ⟨Int.le_refl _, (fa.up rfl).to f2 rfl, by rw [hA2]; exact fun _ _ => rfl, hm2, by rw [bfd_0, f2.g 122047 rfl, u_eq]⟩
  rw [bfd_0] at l0
  repeat' (first | (with_reducible refine Br_i ?_ ?_ <;> (intro hbr; first | exact False.elim hbr | skip)) | (with_reducible refine Wl_i ?_) | (simp (disch := first | omega | exact okF _ | exact okI _ | exact okR _ | assumption | exact okN) only [u_at, iI_zero, iI_31, iI_add, iI_sub, iI_mul, iI_neg, ↓iI_max, ↓iI_min, iI_div, emod_f, iI_lt, iI_le, iI_inj, iI_toInt, ↓ii01, ↓ii11, ↓bI_b, bI_0, bI_1, Kt_s, Kt_n, cat0, cat1, cat2, cat3, cat4, rfV, Nat.reduceAdd, Nat.reduceMul, Nat.reduceEqDiff, Int.reduceAdd, Int.reduceSub, Int.reduceMul, Int.reduceNeg, Int.reduceLT, Int.reduceLE, Int.reduceEq, Int.reduceDiv, ↓reduceIte, ↓ite_ww, ↓ite_wi, Br_n, Br_TW, Br_FW, Br_FP, Br_FB, nn_p, and_true, true_and, and_self, true_or, or_true, not_true_eq_false, not_false_eq_true, le_T, le_F, lt_T, lt_F, eq_T, eq_F, Int.add_zero, Int.zero_add, Int.one_mul, Int.mul_one, up_eq, up_ne, Int.add_assoc, Int.add_sub_cancel, Int.sub_zero, Int.sub_self, S_239_0, S_239_1, S_239_4, S_239_5, S_239_6, S_239_8, S_239_9, S_239_11, S_239_12, S_239_13, S_239_16, S_239_17, S_239_19, S_239_22, S_239_23, S_239_24, S_239_25, S_239_28, S_239_32, S_239_33, S_239_34, S_239_35, S_239_38, S_239_41, S_239_42, S_239_44, S_239_45, S_239_46, S_239_49, S_239_50, S_239_52, S_239_53, S_239_55, S_239_56, S_239_59, S_239_60, S_239_62, S_239_65, S_239_66, S_239_68, S_239_69, S_239_70, S_239_73, S_239_74, S_239_77, S_239_78, S_239_81, S_239_82, S_239_85, S_239_86, S_239_87, S_239_89, S_239_92, S_239_93, S_239_96, S_239_97, S_239_98, S_239_100, S_239_101, S_239_103, S_239_106, S_239_109, S_239_112, S_239_114, H_122, m_thingOf, hA2]))
  exact l0
end BS
