/-! BUYERS by a seed -/
def dr (x : Int) : Int := (x * 211 + 29) % 30071
def bG (p : Int × Int × (Int → Int)) : Int × Int × (Int → Int) := (dr (dr (dr (dr p.1))), p.2.1 + (1 + p.1 % 40), fAdds p.2.2 (1 + p.1 % 40) (dr p.1 % p.2.2 0) (dr (dr p.1) % 100) (1 + dr (dr (dr p.1)) % 99))
def bRun (A : Int → Int) (e j : Int) : Int × Int × (Int → Int) := fd (fun _ p => bG p) (e * 9 + 5, 0, up A 2 0) 0 j
noncomputable def fBuyers (A : Int → Int) (e n : Int) : Int × (Int → Int) := @ite _ ((0 ≤ e ∧ e ≤ 9999) ∧ (1 ≤ n ∧ n ≤ 10) ∧ ¬ A 0 = 0) (Classical.propDecidable _) ((bRun A e n).2.1, (bRun A e n).2.2) (-1, A)
section BU
variable {d : Nat} {X : hX} {s s1 : sg} {Q : Option Value → aH → Prop} {e n x m j : Int} {A B : Int → Int}
theorem cat5i {a b c e : Int32} {q : Nat} : (catOk [.int a, .int b, .int c, .int e, .ref q] = true) = True := eq_true rfl
theorem dr_rg (h : 0 ≤ x) : 0 ≤ dr x ∧ dr x ≤ 30070 := by unfold dr; omega
theorem bRun_0 : bRun A e 0 = (e * 9 + 5, 0, up A 2 0) := fd_0 (Int.le_refl 0)
theorem bRun_s (h : 0 ≤ j) : bRun A e (j + 1) = bG (bRun A e j) := fd_s h
theorem wf_none (W : WF A) (wy : WY A) : WF (up A 2 0) ∧ WY (up A 2 0) := by
  have w0 := W.1.1
  unfold W0 at w0
  obtain ⟨⟨_, k1, k2, k3, k4, k5⟩, k6⟩ := W
  refine ⟨⟨⟨?_, ?_, ?_, ?_, ?_, ?_⟩, ?_⟩, ?_⟩
  · unfold W0
    simp (disch := omega) only [up_eq, up_ne]
    omega
  · exact VT_cg (up_ne (by omega)) (by omega) (fun z _ _ => up_ne (by omega)) k1
  · exact VK_cg (up_ne (by omega)) (by omega) (fun k c a b g h => up_ne (by omega)) k2
  · intro t t0 t1
    rw [up_eq rfl] at t1
    omega
  · intro h h0 h1
    rw [up_ne (by omega)]
    exact k4 h h0 h1
  · exact VG_cg (up_ne (by omega)) (by omega) (fun z _ _ => up_ne (by omega)) k5
  · rw [show up A 2 0 3 = A 3 from up_ne (by omega)]
    exact VO_cg (by rw [up_ne (by omega)]; omega) (by rw [up_ne (by omega)]; omega) (fun o c a b g h => up_ne (by omega)) k6
  · intro o o0 o1
    rw [show up A 2 0 3 = A 3 from up_ne (by omega)] at o1
    rw [up_ne (by omega)]
    exact wy o o0 o1
theorem ic_none (hI : IC 0 s A) (W : WF A) (f : Fr [53004, 64, 65] s s1) (h0 : s1 53004 0 = 0) (hz : ∀ z, 0 ≤ z → z < 10 → s1 64 z = 0 ∧ s1 65 z = 0) : IC 0 s1 (up A 2 0) := by
  have w0 := W.1.1
  unfold W0 at w0
  obtain ⟨⟨⟨i1, i2, i3, i4, i5, i6⟩, k1, k2, k3, k4, k5⟩, k6, k7, k8, k9, k10⟩ := hI
  refine ⟨⟨⟨?_, ?_, ?_, ?_, ?_, ?_⟩, ?_, ?_, ?_, ?_, ?_⟩, ?_, ?_, ?_, ?_, ?_⟩
  · rw [up_ne (by omega)]; show s1 49004 0 = _; rw [f.g 49004 rfl]; exact i1
  · rw [up_ne (by omega)]; show s1 51004 0 = _; rw [f.g 51004 rfl]; exact i2
  · rw [up_eq rfl]; exact h0
  · rw [up_ne (by omega)]; show s1 55004 0 = _; rw [f.g 55004 rfl]; exact i4
  · rw [up_ne (by omega)]; show s1 57004 0 = _; rw [f.g 57004 rfl]; exact i5
  · rw [up_ne (by omega)]; show s1 48007 0 = _; rw [f.g 48007 rfl]; exact i6
  · exact PT_cg (q := 0) (q2 := 0) (up_ne (by omega)) (fun z _ _ => up_ne (by omega)) (fun z _ _ => congrFun (f.g 50 rfl) z) (by omega) k1
  · exact PK_cg (q := 0) (q2 := 0) (up_ne (by omega)) (fun z _ _ => up_ne (by omega)) (fun z _ _ => congrFun (f.g 52 rfl) z) (by omega) k2
  · intro t t0 t1
    rw [up_eq rfl] at t1
    omega
  · exact PG_cg (q := 0) (q2 := 0) (up_ne (by omega)) (fun z _ _ => up_ne (by omega)) (fun z _ _ => congrFun (f.g 58 rfl) z) (by omega) k4
  · exact PH_cg (q := 0) (q2 := 0) (fun z _ _ => up_ne (by omega)) (fun z _ _ => congrFun (f.g 59 rfl) z) k5
  · show s1 48008 0 = _
    rw [up_ne (by omega), f.g 48008 rfl]
    exact k6
  · exact PO_cg (q := 0) (q2 := 0) (up_ne (by omega)) (by omega) W.2 (fun z _ _ _ => up_ne (by omega)) (fun z _ _ => congrFun (f.g 56 rfl) z) k7
  · exact PY1_cg (q := 0) (q2 := 0) (up_ne (by omega)) (by omega) (fun o _ _ => up_ne (by omega)) (fun z _ _ => congrFun (f.g 61 rfl) z) k8
  · exact PY2_cg (q := 0) (q2 := 0) (up_ne (by omega)) (by omega) (fun z _ _ => up_ne (by omega)) (fun z _ _ => ⟨congrFun (f.g 62 rfl) z, congrFun (f.g 63 rfl) z⟩) k9
  · intro b b0 b1
    rw [up_eq rfl, if_neg (by omega), if_neg (by omega)]
    exact hz b b0 b1
/-- what holds of a row of draws -/
def bOK (A : Int → Int) (j : Int) (p : Int × Int × (Int → Int)) : Prop := (0 ≤ p.1 ∧ p.1 ≤ 100000) ∧ (0 ≤ p.2.1 ∧ p.2.1 ≤ 40 * j) ∧ p.2.2 0 = A 0 ∧ p.2.2 2 = j ∧ p.2.2 4 = A 4 ∧ WF p.2.2 ∧ WY p.2.2
theorem bG_ok {p : Int × Int × (Int → Int)} (h : bOK A j p) (n0 : 1 ≤ A 0 ∧ A 0 ≤ 10) (hj : 0 ≤ j ∧ j < 10) : bOK A (j + 1) (bG p) := by
  obtain ⟨h1, h2, h3, h4, h6, h5⟩ := h
  have r1 := dr_rg h1.1
  have r2 := dr_rg r1.1
  have r3 := dr_rg r2.1
  have r4 := dr_rg r3.1
  have d0 : 0 ≤ dr p.1 % p.2.2 0 ∧ dr p.1 % p.2.2 0 ≤ 9 := by
    have a := Int.emod_nonneg (dr p.1) (show p.2.2 0 ≠ 0 by omega)
    have b := Int.emod_lt_of_pos (dr p.1) (show 0 < p.2.2 0 by omega)
    omega
  refine ⟨⟨r4.1, by show dr (dr (dr (dr p.1))) ≤ 100000; omega⟩, ⟨?_, ?_⟩, ?_, ?_, ?_, ?_⟩
  · show 0 ≤ p.2.1 + (1 + p.1 % 40)
    omega
  · show p.2.1 + (1 + p.1 % 40) ≤ 40 * (j + 1)
    omega
  · show fAdds p.2.2 (1 + p.1 % 40) (dr p.1 % p.2.2 0) (dr (dr p.1) % 100) (1 + dr (dr (dr p.1)) % 99) 0 = A 0
    unfold fAdds
    simp (disch := omega) only [up_ne]
    exact h3
  · show fAdds p.2.2 (1 + p.1 % 40) (dr p.1 % p.2.2 0) (dr (dr p.1) % 100) (1 + dr (dr (dr p.1)) % 99) 2 = j + 1
    unfold fAdds
    rw [up_eq rfl, h4]
  · show fAdds p.2.2 (1 + p.1 % 40) (dr p.1 % p.2.2 0) (dr (dr p.1) % 100) (1 + dr (dr (dr p.1)) % 99) 4 = A 4
    unfold fAdds
    simp (disch := omega) only [up_ne]
    exact h6
  · exact wf_adds (a := 1 + p.1 % 40) (l := dr p.1 % p.2.2 0) (v := dr (dr p.1) % 100) (f := 1 + dr (dr (dr p.1)) % 99) h5.1 h5.2 (by omega) (by omega)
theorem bRun_ok (W : WF A) (wy : WY A) (he : 0 ≤ e ∧ e ≤ 9999) (n0 : 1 ≤ A 0 ∧ A 0 ≤ 10) (hj : 0 ≤ j) (h2 : j ≤ 10) : bOK A j (bRun A e j) := by
  refine i_ind (P := fun j => j ≤ 10 → bOK A j (bRun A e j)) hj ?_ ?_ h2
  · intro _
    rw [bRun_0]
    exact ⟨⟨by show 0 ≤ e * 9 + 5; omega, by show e * 9 + 5 ≤ 100000; omega⟩, ⟨Int.le_refl 0, by show (0 : Int) ≤ _; omega⟩, (show up A 2 0 0 = A 0 from up_ne (by omega)), (show up A 2 0 2 = 0 from up_eq rfl), (show up A 2 0 4 = A 4 from up_ne (by omega)), wf_none W wy⟩
  · intro z z0 z1 ih z2
    rw [bRun_s z0]
    exact bG_ok (ih (by omega)) n0 ⟨z0, by omega⟩
theorem m_draw (hx : 0 ≤ s 122051 0 ∧ s 122051 0 ≤ 100000) (hm : 1 ≤ m ∧ m ≤ 1000) : Wp d 260 0 [.ref 122, .int (iI m), .float 0] [] (hp X s) Q = Q (some (.int (iI (s 122051 0 % m)))) (hp X (u s 122051 (fun _ => dr (s 122051 0)))) := by
  unfold dr
  simp (disch := first | omega | exact okF _ | exact okI _ | exact okR _ | assumption | exact okN) only [S_260_0, S_260_1, S_260_4, S_260_5, S_260_6, S_260_7, S_260_8, S_260_9, S_260_12, S_260_15, S_260_16, S_260_18, S_260_19, S_260_22, S_260_23, S_260_26, S_260_27, u_at, iI_zero, iI_31, iI_add, iI_sub, iI_mul, iI_neg, ↓iI_max, ↓iI_min, iI_div, emod_f, iI_lt, iI_le, iI_inj, iI_toInt, ↓ii01, ↓ii11, ↓bI_b, bI_0, bI_1, Kt_s, Kt_n, cat0, cat1, cat2, cat3, cat4, rfV, Nat.reduceAdd, Nat.reduceMul, Nat.reduceEqDiff, Int.reduceAdd, Int.reduceSub, Int.reduceMul, Int.reduceNeg, Int.reduceLT, Int.reduceLE, Int.reduceEq, Int.reduceDiv, ↓reduceIte, ↓ite_ww, ↓ite_wi, Br_n, Br_TW, Br_FW, Br_FP, Br_FB, nn_p, and_true, true_and, and_self, true_or, or_true, not_true_eq_false, not_false_eq_true, le_T, le_F, lt_T, lt_F, eq_T, eq_F, Int.add_zero, Int.zero_add, Int.one_mul, Int.mul_one, up_eq, up_ne, Int.add_assoc, Int.add_sub_cancel, Int.sub_zero, Int.sub_self, H_122]
theorem c_drawn (hx : 0 ≤ x ∧ x ≤ 100000) : Wp d 79 0 [.int (iI x)] [] (hp X s) Q = Q (some (.int (iI (dr x)))) (hp X s) := by
  unfold dr
  simp (disch := first | omega | exact okF _ | exact okI _ | exact okR _ | assumption | exact okN) only [S_79_0, S_79_1, S_79_4, S_79_5, S_79_7, S_79_8, S_79_11, S_79_12, u_at, iI_zero, iI_31, iI_add, iI_sub, iI_mul, iI_neg, ↓iI_max, ↓iI_min, iI_div, emod_f, iI_lt, iI_le, iI_inj, iI_toInt, ↓ii01, ↓ii11, ↓bI_b, bI_0, bI_1, Kt_s, Kt_n, cat0, cat1, cat2, cat3, cat4, rfV, Nat.reduceAdd, Nat.reduceMul, Nat.reduceEqDiff, Int.reduceAdd, Int.reduceSub, Int.reduceMul, Int.reduceNeg, Int.reduceLT, Int.reduceLE, Int.reduceEq, Int.reduceDiv, ↓reduceIte, ↓ite_ww, ↓ite_wi, Br_n, Br_TW, Br_FW, Br_FP, Br_FB, nn_p, and_true, true_and, and_self, true_or, or_true, not_true_eq_false, not_false_eq_true, le_T, le_F, lt_T, lt_F, eq_T, eq_F, Int.add_zero, Int.zero_add, Int.one_mul, Int.mul_one, up_eq, up_ne, Int.add_assoc, Int.add_sub_cancel, Int.sub_zero, Int.sub_self]
theorem m_buyers (hA : s 123 = A) (W : WF A) (wy : WY A) (he : (-2147483648 ≤ e ∧ e < 2147483648)) (hn : (-2147483648 ≤ n ∧ n < 2147483648)) (kk : ∀ s', Fr [122051, 123] s s' → s' 123 = (fBuyers A e n).2 → Q (some (.int (iI (fBuyers A e n).1))) (hp X s')) : Wp (d + 1) 261 0 [.ref 122, .int (iI e), .int (iI n), .float 0, .float 0, .float 0, .float 0, .float 0, .float 0] [] (hp X s) Q := by
  have w0 := W.1.1
  unfold W0 at w0
  unfold fBuyers at kk
  by_cases c : (0 ≤ e ∧ e ≤ 9999) ∧ (1 ≤ n ∧ n ≤ 10) ∧ ¬ A 0 = 0
  · rw [if_pos c] at kk
    obtain ⟨c1, c2, c3⟩ := c
    have loop : ∀ j s1, j ≤ n → (0 ≤ j ∧ Fr [122051, 123] s s1 ∧ s1 123 = (bRun A e j).2.2 ∧ s1 122051 0 = (bRun A e j).1) → ∀ v5 v6 v7 v8, okO v5 = true → okO v6 = true → okO v7 = true → okO v8 = true → Wp (d + 1) 261 54 [.ref 122, .int (iI e), .int (iI n), .int (iI (bRun A e j).2.1), .int (iI j), v5, v6, v7, v8] [] (hp X s1) Q := by
      refine lp ?_ ?_
      · intro j s1 hj ⟨j0, hf, hA1, hx1⟩ kk2 v5 v6 v7 v8 o5 o6 o7 o8
        have ok := bRun_ok (e := e) W wy c1 (by omega) j0 (by omega)
        have rs := bRun_s (A := A) (e := e) j0
        generalize bRun A e j = p at *
        obtain ⟨h1, h2, h3, h4, h6, h5⟩ := ok
        have r1 := dr_rg h1.1
        have r2 := dr_rg r1.1
        have r3 := dr_rg r2.1
        have r4 := dr_rg r3.1
        have dw := fun (d : Nat) (Q : Option Value → aH → Prop) (s : sg) (m x : Int) (e : s 122051 0 = x) (hx : 0 ≤ x ∧ x ≤ 100000) (hm : 1 ≤ m ∧ m ≤ 1000) => m_draw (d := d) (X := X) (Q := Q) (s := s) (m := m) (by rw [e]; exact hx) hm
        have d1 := fun (d : Nat) (Q : Option Value → aH → Prop) => m_draw (d := d) (X := X) (Q := Q) (s := s1) (m := 40) (by rw [hx1]; exact h1) (by omega)
        have d2 := fun (d : Nat) (Q : Option Value → aH → Prop) => m_draw (d := d) (X := X) (Q := Q) (s := u s1 122051 (fun _ => dr p.1)) (m := A 0) (by rw [u_eq]; omega) (by omega)
        have d3 := fun (d : Nat) (Q : Option Value → aH → Prop) => m_draw (d := d) (X := X) (Q := Q) (s := u s1 122051 (fun _ => dr (dr p.1))) (m := 100) (by rw [u_eq]; omega) (by omega)
        have d4 := fun (d : Nat) (Q : Option Value → aH → Prop) => m_draw (d := d) (X := X) (Q := Q) (s := u s1 122051 (fun _ => dr (dr (dr p.1)))) (m := 99) (by rw [u_eq]; omega) (by omega)
        simp only [hx1, u_eq, u_u] at d1 d2 d3 d4
        have ad := fun (d : Nat) (Q : Option Value → aH → Prop) (a b c v : Int) => m_adds (d := d) (X := X) (Q := Q) (s := u s1 122051 (fun _ => dr (dr (dr (dr p.1))))) (A := p.2.2) (n := a) (a := b) (t := c) (c := v) (show s1 123 = _ from hA1) (by omega)
        have kk2 := kk2 (u (u s1 122051 (fun _ => dr (dr (dr (dr p.1))))) 123 (bG p).2.2) ⟨by omega, (hf.u rfl).u rfl, by rw [rs]; rfl, by rw [rs]; rfl⟩ (.int (iI (1 + p.1 % 40))) (.int (iI (dr p.1 % p.2.2 0))) (.int (iI (dr (dr p.1) % 100))) (.int (iI (p.2.2 2))) rfl rfl rfl rfl
        rw [rs] at kk2
        rw [h3] at kk2
        have eb : fAdds p.2.2 (1 + p.1 % 40) (dr p.1 % A 0) (dr (dr p.1) % 100) (1 + dr (dr (dr p.1)) % 99) = (bG p).2.2 := by rw [← h3]; rfl
        rw [S_261_54]
        repeat' (first | (with_reducible refine Br_i ?_ ?_ <;> (intro hbr; first | exact False.elim hbr | skip)) | (with_reducible refine Wl_i ?_) | (simp (disch := first | omega | exact okF _ | exact okI _ | exact okR _ | assumption | exact okN) only [u_at, iI_zero, iI_31, iI_add, iI_sub, iI_mul, iI_neg, ↓iI_max, ↓iI_min, iI_div, emod_f, iI_lt, iI_le, iI_inj, iI_toInt, ↓ii01, ↓ii11, ↓bI_b, bI_0, bI_1, Kt_s, Kt_n, cat0, cat1, cat2, cat3, cat4, rfV, Nat.reduceAdd, Nat.reduceMul, Nat.reduceEqDiff, Int.reduceAdd, Int.reduceSub, Int.reduceMul, Int.reduceNeg, Int.reduceLT, Int.reduceLE, Int.reduceEq, Int.reduceDiv, ↓reduceIte, ↓ite_ww, ↓ite_wi, Br_n, Br_TW, Br_FW, Br_FP, Br_FB, nn_p, and_true, true_and, and_self, true_or, or_true, not_true_eq_false, not_false_eq_true, le_T, le_F, lt_T, lt_F, eq_T, eq_F, Int.add_zero, Int.zero_add, Int.one_mul, Int.mul_one, up_eq, up_ne, Int.add_assoc, Int.add_sub_cancel, Int.sub_zero, Int.sub_self, S_261_0, S_261_1, S_261_2, S_261_5, S_261_8, S_261_11, S_261_12, S_261_13, S_261_15, S_261_18, S_261_21, S_261_22, S_261_25, S_261_26, S_261_27, S_261_30, S_261_31, S_261_32, S_261_33, S_261_34, S_261_36, S_261_37, S_261_38, S_261_39, S_261_42, S_261_43, S_261_46, S_261_47, S_261_48, S_261_49, S_261_50, S_261_51, S_261_52, S_261_56, S_261_57, S_261_60, S_261_61, S_261_62, S_261_64, S_261_67, S_261_68, S_261_70, S_261_71, S_261_72, S_261_75, S_261_76, S_261_77, S_261_80, S_261_82, S_261_83, S_261_85, S_261_88, S_261_90, S_261_91, S_261_93, S_261_95, S_261_97, S_261_98, S_261_99, S_261_101, S_261_104, S_261_105, S_261_108, S_261_110, S_261_111, S_261_113, S_261_114, S_261_115, S_261_118, S_261_121, S_261_122, H_122, H_123, hA1, h3, d1, d2, d3, d4, ad, eb, cat5i]))
        exact kk2
      · intro s1 ⟨j0, hf, hA1, hx1⟩ v5 v6 v7 v8 o5 o6 o7 o8
        have kk := kk s1 hf hA1
        rw [S_261_54]
        repeat' (first | (with_reducible refine Br_i ?_ ?_ <;> (intro hbr; first | exact False.elim hbr | skip)) | (with_reducible refine Wl_i ?_) | (simp (disch := first | omega | exact okF _ | exact okI _ | exact okR _ | assumption | exact okN) only [u_at, iI_zero, iI_31, iI_add, iI_sub, iI_mul, iI_neg, ↓iI_max, ↓iI_min, iI_div, emod_f, iI_lt, iI_le, iI_inj, iI_toInt, ↓ii01, ↓ii11, ↓bI_b, bI_0, bI_1, Kt_s, Kt_n, cat0, cat1, cat2, cat3, cat4, rfV, Nat.reduceAdd, Nat.reduceMul, Nat.reduceEqDiff, Int.reduceAdd, Int.reduceSub, Int.reduceMul, Int.reduceNeg, Int.reduceLT, Int.reduceLE, Int.reduceEq, Int.reduceDiv, ↓reduceIte, ↓ite_ww, ↓ite_wi, Br_n, Br_TW, Br_FW, Br_FP, Br_FB, nn_p, and_true, true_and, and_self, true_or, or_true, not_true_eq_false, not_false_eq_true, le_T, le_F, lt_T, lt_F, eq_T, eq_F, Int.add_zero, Int.zero_add, Int.one_mul, Int.mul_one, up_eq, up_ne, Int.add_assoc, Int.add_sub_cancel, Int.sub_zero, Int.sub_self, S_261_0, S_261_1, S_261_2, S_261_5, S_261_8, S_261_11, S_261_12, S_261_13, S_261_15, S_261_18, S_261_21, S_261_22, S_261_25, S_261_26, S_261_27, S_261_30, S_261_31, S_261_32, S_261_33, S_261_34, S_261_36, S_261_37, S_261_38, S_261_39, S_261_42, S_261_43, S_261_46, S_261_47, S_261_48, S_261_49, S_261_50, S_261_51, S_261_52, S_261_56, S_261_57, S_261_60, S_261_61, S_261_62, S_261_64, S_261_67, S_261_68, S_261_70, S_261_71, S_261_72, S_261_75, S_261_76, S_261_77, S_261_80, S_261_82, S_261_83, S_261_85, S_261_88, S_261_90, S_261_91, S_261_93, S_261_95, S_261_97, S_261_98, S_261_99, S_261_101, S_261_104, S_261_105, S_261_108, S_261_110, S_261_111, S_261_113, S_261_114, S_261_115, S_261_118, S_261_121, S_261_122]))
        exact kk
    have f0 : Fr [122051, 123] s (u (u s 122051 (fun _ => e * 9 + 5)) 123 (up A 2 0)) := (by repeat (first | exact Fr.rf _ | refine Fr.u ?_ rfl))
    have l0 := loop 0 _ (by omega) ⟨by omega, f0, by rw [bRun_0]; rfl, by rw [bRun_0]; rfl⟩ (.float 0) (.float 0) (.float 0) (.float 0) rfl rfl rfl rfl
    rw [bRun_0] at l0
    repeat' (first | (with_reducible refine Br_i ?_ ?_ <;> (intro hbr; first | exact False.elim hbr | skip)) | (with_reducible refine Wl_i ?_) | (simp (disch := first | omega | exact okF _ | exact okI _ | exact okR _ | assumption | exact okN) only [u_at, iI_zero, iI_31, iI_add, iI_sub, iI_mul, iI_neg, ↓iI_max, ↓iI_min, iI_div, emod_f, iI_lt, iI_le, iI_inj, iI_toInt, ↓ii01, ↓ii11, ↓bI_b, bI_0, bI_1, Kt_s, Kt_n, cat0, cat1, cat2, cat3, cat4, rfV, Nat.reduceAdd, Nat.reduceMul, Nat.reduceEqDiff, Int.reduceAdd, Int.reduceSub, Int.reduceMul, Int.reduceNeg, Int.reduceLT, Int.reduceLE, Int.reduceEq, Int.reduceDiv, ↓reduceIte, ↓ite_ww, ↓ite_wi, Br_n, Br_TW, Br_FW, Br_FP, Br_FB, nn_p, and_true, true_and, and_self, true_or, or_true, not_true_eq_false, not_false_eq_true, le_T, le_F, lt_T, lt_F, eq_T, eq_F, Int.add_zero, Int.zero_add, Int.one_mul, Int.mul_one, up_eq, up_ne, Int.add_assoc, Int.add_sub_cancel, Int.sub_zero, Int.sub_self, S_261_0, S_261_1, S_261_2, S_261_5, S_261_8, S_261_11, S_261_12, S_261_13, S_261_15, S_261_18, S_261_21, S_261_22, S_261_25, S_261_26, S_261_27, S_261_30, S_261_31, S_261_32, S_261_33, S_261_34, S_261_36, S_261_37, S_261_38, S_261_39, S_261_42, S_261_43, S_261_46, S_261_47, S_261_48, S_261_49, S_261_50, S_261_51, S_261_52, S_261_56, S_261_57, S_261_60, S_261_61, S_261_62, S_261_64, S_261_67, S_261_68, S_261_70, S_261_71, S_261_72, S_261_75, S_261_76, S_261_77, S_261_80, S_261_82, S_261_83, S_261_85, S_261_88, S_261_90, S_261_91, S_261_93, S_261_95, S_261_97, S_261_98, S_261_99, S_261_101, S_261_104, S_261_105, S_261_108, S_261_110, S_261_111, S_261_113, S_261_114, S_261_115, S_261_118, S_261_121, S_261_122, H_122, H_123, m_in, hA]))
    exact l0
  · rw [if_neg c] at kk
    have kk := kk s (Fr.rf s) hA
    replace c := Hd_i c
    repeat' (first | (with_reducible refine Br_i ?_ ?_ <;> (intro hbr; first | exact False.elim hbr | skip)) | (with_reducible refine Wl_i ?_) | (simp (disch := first | omega | exact okF _ | exact okI _ | exact okR _ | assumption | exact okN) only [u_at, iI_zero, iI_31, iI_add, iI_sub, iI_mul, iI_neg, ↓iI_max, ↓iI_min, iI_div, emod_f, iI_lt, iI_le, iI_inj, iI_toInt, ↓ii01, ↓ii11, ↓bI_b, bI_0, bI_1, Kt_s, Kt_n, cat0, cat1, cat2, cat3, cat4, rfV, Nat.reduceAdd, Nat.reduceMul, Nat.reduceEqDiff, Int.reduceAdd, Int.reduceSub, Int.reduceMul, Int.reduceNeg, Int.reduceLT, Int.reduceLE, Int.reduceEq, Int.reduceDiv, ↓reduceIte, ↓ite_ww, ↓ite_wi, Br_n, Br_TW, Br_FW, Br_FP, Br_FB, nn_p, and_true, true_and, and_self, true_or, or_true, not_true_eq_false, not_false_eq_true, le_T, le_F, lt_T, lt_F, eq_T, eq_F, Int.add_zero, Int.zero_add, Int.one_mul, Int.mul_one, up_eq, up_ne, Int.add_assoc, Int.add_sub_cancel, Int.sub_zero, Int.sub_self, S_261_0, S_261_1, S_261_2, S_261_5, S_261_8, S_261_11, S_261_12, S_261_13, S_261_15, S_261_18, S_261_21, S_261_22, S_261_25, S_261_26, S_261_27, S_261_30, S_261_31, S_261_32, S_261_33, S_261_34, S_261_36, S_261_37, S_261_38, S_261_39, S_261_42, S_261_43, S_261_46, S_261_47, S_261_48, S_261_49, S_261_50, S_261_51, S_261_52, S_261_56, S_261_57, S_261_60, S_261_61, S_261_62, S_261_64, S_261_67, S_261_68, S_261_70, S_261_71, S_261_72, S_261_75, S_261_76, S_261_77, S_261_80, S_261_82, S_261_83, S_261_85, S_261_88, S_261_90, S_261_91, S_261_93, S_261_95, S_261_97, S_261_98, S_261_99, S_261_101, S_261_104, S_261_105, S_261_108, S_261_110, S_261_111, S_261_113, S_261_114, S_261_115, S_261_118, S_261_121, S_261_122, H_122, H_123, m_in, hA]))
    all_goals first | exact kk | (exfalso; have c := Hd_o c; omega)
theorem c_buyers (hI : IC 0 s A) (W : WF A) (wy : WY A) (he : (-2147483648 ≤ e ∧ e < 2147483648)) (hn : (-2147483648 ≤ n ∧ n < 2147483648)) (kk : ∀ s', Fr [53004, 54, 64, 65] s s' → IC 0 s' (fBuyers A e n).2 → Q (some (.int (iI (fBuyers A e n).1))) (hp X s')) : Wp (d + 4) 151 0 [.ref 5, .int (iI e), .int (iI n)] [] (hp X s) Q := by
  have w0 := W.1.1
  unfold W0 at w0
  have e49 : s 49004 0 = A 0 := hI.1.1.1
  unfold fBuyers at kk
  by_cases c : (0 ≤ e ∧ e ≤ 9999) ∧ (1 ≤ n ∧ n ≤ 10) ∧ ¬ A 0 = 0
  · rw [if_pos c] at kk
    obtain ⟨c1, c2, c3⟩ := c
    have loop : ∀ j s1, j ≤ n → (0 ≤ j ∧ Fr [53004, 54, 64, 65] s s1 ∧ IC 0 s1 (bRun A e j).2.2) → ∀ v7 v8 v9 v10, okO v7 = true → okO v8 = true → okO v9 = true → okO v10 = true → Wp (d + 3) 78 41 [.ref 48, .int (iI e), .int (iI n), .int (iI (A 0)), .int (iI (bRun A e j).1), .int (iI (bRun A e j).2.1), .int (iI j), v7, v8, v9, v10] [] (hp X s1) (Kt (d + 4) 151 46 [.ref 5, .int (iI e), .int (iI n)] [] Q) := by
      refine lp ?_ ?_
      · intro j s1 hj ⟨j0, hf, hI1⟩ kk2 v7 v8 v9 v10 o7 o8 o9 o10
        have ok := bRun_ok (e := e) W wy c1 (by omega) j0 (by omega)
        have rs := bRun_s (A := A) (e := e) j0
        generalize bRun A e j = p at *
        obtain ⟨h1, h2, h3, h4, h6, h5⟩ := ok
        have r1 := dr_rg h1.1
        have r2 := dr_rg r1.1
        have r3 := dr_rg r2.1
        have r4 := dr_rg r3.1
        have e53 : s1 53004 0 = p.2.2 2 := hI1.1.1.2.2.1
        rw [S_78_41]
        repeat' (first | (with_reducible refine Br_i ?_ ?_ <;> (intro hbr; first | exact False.elim hbr | skip)) | (with_reducible refine Wl_i ?_) | (simp (disch := first | omega | exact okF _ | exact okI _ | exact okR _ | assumption | exact okN) only [u_at, iI_zero, iI_31, iI_add, iI_sub, iI_mul, iI_neg, ↓iI_max, ↓iI_min, iI_div, emod_f, iI_lt, iI_le, iI_inj, iI_toInt, ↓ii01, ↓ii11, ↓bI_b, bI_0, bI_1, Kt_s, Kt_n, cat0, cat1, cat2, cat3, cat4, rfV, Nat.reduceAdd, Nat.reduceMul, Nat.reduceEqDiff, Int.reduceAdd, Int.reduceSub, Int.reduceMul, Int.reduceNeg, Int.reduceLT, Int.reduceLE, Int.reduceEq, Int.reduceDiv, ↓reduceIte, ↓ite_ww, ↓ite_wi, Br_n, Br_TW, Br_FW, Br_FP, Br_FB, nn_p, and_true, true_and, and_self, true_or, or_true, not_true_eq_false, not_false_eq_true, le_T, le_F, lt_T, lt_F, eq_T, eq_F, Int.add_zero, Int.zero_add, Int.one_mul, Int.mul_one, up_eq, up_ne, Int.add_assoc, Int.add_sub_cancel, Int.sub_zero, Int.sub_self, S_78_0, S_78_1, S_78_2, S_78_5, S_78_8, S_78_11, S_78_12, S_78_13, S_78_15, S_78_16, S_78_17, S_78_18, S_78_20, S_78_21, S_78_23, S_78_24, S_78_27, S_78_28, S_78_31, S_78_32, S_78_35, S_78_38, S_78_39, S_78_43, S_78_44, S_78_47, S_78_48, S_78_50, S_78_52, S_78_53, S_78_54, S_78_56, S_78_58, S_78_61, S_78_63, S_78_65, S_78_66, S_78_67, S_78_69, S_78_71, S_78_74, S_78_76, S_78_78, S_78_80, S_78_81, S_78_83, S_78_85, S_78_88, S_78_90, S_78_91, S_78_93, S_78_95, S_78_96, S_78_97, S_78_99, S_78_101, S_78_104, S_78_106, S_78_107, S_78_110, S_78_112, S_78_114, S_78_116, S_78_118, S_78_121, S_78_122, S_78_124, S_78_126, S_78_127, S_78_129, S_78_132, S_78_135, S_78_137, H_48, H_53, c_drawn]))
        refine c_add_53 (by rw [e53, h4]; omega) (fun q => by omega) (fun q => ?_)
        have ic := ic_adds (a := 1 + p.1 % 40) (l := dr p.1 % p.2.2 0) (v := dr (dr p.1) % 100) (f := 1 + dr (dr (dr p.1)) % 99) hI1 h5.1 (by omega)
        have kk2 := kk2 _ ⟨by omega, (hf.u rfl).u rfl, by rw [rs]; exact ic⟩ (.int (iI (1 + p.1 % 40))) (.int (iI (dr p.1 % p.2.2 0))) (.int (iI (dr (dr p.1) % 100))) (.int (iI (1 + dr (dr (dr p.1)) % 99))) rfl rfl rfl rfl
        rw [rs] at kk2
        rw [h3] at kk2
        rw [e53]
        repeat' (first | (with_reducible refine Br_i ?_ ?_ <;> (intro hbr; first | exact False.elim hbr | skip)) | (with_reducible refine Wl_i ?_) | (simp (disch := first | omega | exact okF _ | exact okI _ | exact okR _ | assumption | exact okN) only [u_at, iI_zero, iI_31, iI_add, iI_sub, iI_mul, iI_neg, ↓iI_max, ↓iI_min, iI_div, emod_f, iI_lt, iI_le, iI_inj, iI_toInt, ↓ii01, ↓ii11, ↓bI_b, bI_0, bI_1, Kt_s, Kt_n, cat0, cat1, cat2, cat3, cat4, rfV, Nat.reduceAdd, Nat.reduceMul, Nat.reduceEqDiff, Int.reduceAdd, Int.reduceSub, Int.reduceMul, Int.reduceNeg, Int.reduceLT, Int.reduceLE, Int.reduceEq, Int.reduceDiv, ↓reduceIte, ↓ite_ww, ↓ite_wi, Br_n, Br_TW, Br_FW, Br_FP, Br_FB, nn_p, and_true, true_and, and_self, true_or, or_true, not_true_eq_false, not_false_eq_true, le_T, le_F, lt_T, lt_F, eq_T, eq_F, Int.add_zero, Int.zero_add, Int.one_mul, Int.mul_one, up_eq, up_ne, Int.add_assoc, Int.add_sub_cancel, Int.sub_zero, Int.sub_self, S_78_0, S_78_1, S_78_2, S_78_5, S_78_8, S_78_11, S_78_12, S_78_13, S_78_15, S_78_16, S_78_17, S_78_18, S_78_20, S_78_21, S_78_23, S_78_24, S_78_27, S_78_28, S_78_31, S_78_32, S_78_35, S_78_38, S_78_39, S_78_43, S_78_44, S_78_47, S_78_48, S_78_50, S_78_52, S_78_53, S_78_54, S_78_56, S_78_58, S_78_61, S_78_63, S_78_65, S_78_66, S_78_67, S_78_69, S_78_71, S_78_74, S_78_76, S_78_78, S_78_80, S_78_81, S_78_83, S_78_85, S_78_88, S_78_90, S_78_91, S_78_93, S_78_95, S_78_96, S_78_97, S_78_99, S_78_101, S_78_104, S_78_106, S_78_107, S_78_110, S_78_112, S_78_114, S_78_116, S_78_118, S_78_121, S_78_122, S_78_124, S_78_126, S_78_127, S_78_129, S_78_132, S_78_135, S_78_137]))
        exact kk2
      · intro s1 ⟨j0, hf, hI1⟩ v7 v8 v9 v10 o7 o8 o9 o10
        have kk := kk s1 hf hI1
        rw [S_78_41]
        repeat' (first | (with_reducible refine Br_i ?_ ?_ <;> (intro hbr; first | exact False.elim hbr | skip)) | (with_reducible refine Wl_i ?_) | (simp (disch := first | omega | exact okF _ | exact okI _ | exact okR _ | assumption | exact okN) only [u_at, iI_zero, iI_31, iI_add, iI_sub, iI_mul, iI_neg, ↓iI_max, ↓iI_min, iI_div, emod_f, iI_lt, iI_le, iI_inj, iI_toInt, ↓ii01, ↓ii11, ↓bI_b, bI_0, bI_1, Kt_s, Kt_n, cat0, cat1, cat2, cat3, cat4, rfV, Nat.reduceAdd, Nat.reduceMul, Nat.reduceEqDiff, Int.reduceAdd, Int.reduceSub, Int.reduceMul, Int.reduceNeg, Int.reduceLT, Int.reduceLE, Int.reduceEq, Int.reduceDiv, ↓reduceIte, ↓ite_ww, ↓ite_wi, Br_n, Br_TW, Br_FW, Br_FP, Br_FB, nn_p, and_true, true_and, and_self, true_or, or_true, not_true_eq_false, not_false_eq_true, le_T, le_F, lt_T, lt_F, eq_T, eq_F, Int.add_zero, Int.zero_add, Int.one_mul, Int.mul_one, up_eq, up_ne, Int.add_assoc, Int.add_sub_cancel, Int.sub_zero, Int.sub_self, S_78_0, S_78_1, S_78_2, S_78_5, S_78_8, S_78_11, S_78_12, S_78_13, S_78_15, S_78_16, S_78_17, S_78_18, S_78_20, S_78_21, S_78_23, S_78_24, S_78_27, S_78_28, S_78_31, S_78_32, S_78_35, S_78_38, S_78_39, S_78_43, S_78_44, S_78_47, S_78_48, S_78_50, S_78_52, S_78_53, S_78_54, S_78_56, S_78_58, S_78_61, S_78_63, S_78_65, S_78_66, S_78_67, S_78_69, S_78_71, S_78_74, S_78_76, S_78_78, S_78_80, S_78_81, S_78_83, S_78_85, S_78_88, S_78_90, S_78_91, S_78_93, S_78_95, S_78_96, S_78_97, S_78_99, S_78_101, S_78_104, S_78_106, S_78_107, S_78_110, S_78_112, S_78_114, S_78_116, S_78_118, S_78_121, S_78_122, S_78_124, S_78_126, S_78_127, S_78_129, S_78_132, S_78_135, S_78_137, S_151_0, S_151_1, S_151_2, S_151_5, S_151_8, S_151_11, S_151_12, S_151_13, S_151_15, S_151_18, S_151_21, S_151_22, S_151_25, S_151_28, S_151_31, S_151_32, S_151_35, S_151_36, S_151_37, S_151_38, S_151_41, S_151_42, S_151_43, S_151_46]))
        exact kk
    have f0 : Fr [53004, 64, 65] s (u (u (u s 53004 (fun _ => 0)) 64 (fillF (s 64) 0 10)) 65 (fillF (s 65) 0 10)) := (by repeat (first | exact Fr.rf _ | refine Fr.u ?_ rfl))
    have ic := ic_none hI W f0 rfl (fun z z0 z1 => ⟨fillF_i ⟨z0, z1⟩, fillF_i ⟨z0, z1⟩⟩)
    have l0 := loop 0 _ (by omega) ⟨by omega, f0.up rfl, by rw [bRun_0]; exact ic⟩ (.float 0) (.float 0) (.float 0) (.float 0) rfl rfl rfl rfl
    rw [bRun_0] at l0
    have mx : max 1 (A 0) = A 0 := by omega
    repeat' (first | (with_reducible refine Br_i ?_ ?_ <;> (intro hbr; first | exact False.elim hbr | skip)) | (with_reducible refine Wl_i ?_) | (simp (disch := first | omega | exact okF _ | exact okI _ | exact okR _ | assumption | exact okN) only [u_at, iI_zero, iI_31, iI_add, iI_sub, iI_mul, iI_neg, ↓iI_max, ↓iI_min, iI_div, emod_f, iI_lt, iI_le, iI_inj, iI_toInt, ↓ii01, ↓ii11, ↓bI_b, bI_0, bI_1, Kt_s, Kt_n, cat0, cat1, cat2, cat3, cat4, rfV, Nat.reduceAdd, Nat.reduceMul, Nat.reduceEqDiff, Int.reduceAdd, Int.reduceSub, Int.reduceMul, Int.reduceNeg, Int.reduceLT, Int.reduceLE, Int.reduceEq, Int.reduceDiv, ↓reduceIte, ↓ite_ww, ↓ite_wi, Br_n, Br_TW, Br_FW, Br_FP, Br_FB, nn_p, and_true, true_and, and_self, true_or, or_true, not_true_eq_false, not_false_eq_true, le_T, le_F, lt_T, lt_F, eq_T, eq_F, Int.add_zero, Int.zero_add, Int.one_mul, Int.mul_one, up_eq, up_ne, Int.add_assoc, Int.add_sub_cancel, Int.sub_zero, Int.sub_self, S_151_0, S_151_1, S_151_2, S_151_5, S_151_8, S_151_11, S_151_12, S_151_13, S_151_15, S_151_18, S_151_21, S_151_22, S_151_25, S_151_28, S_151_31, S_151_32, S_151_35, S_151_36, S_151_37, S_151_38, S_151_41, S_151_42, S_151_43, S_151_46, S_78_0, S_78_1, S_78_2, S_78_5, S_78_8, S_78_11, S_78_12, S_78_13, S_78_15, S_78_16, S_78_17, S_78_18, S_78_20, S_78_21, S_78_23, S_78_24, S_78_27, S_78_28, S_78_31, S_78_32, S_78_35, S_78_38, S_78_39, S_78_43, S_78_44, S_78_47, S_78_48, S_78_50, S_78_52, S_78_53, S_78_54, S_78_56, S_78_58, S_78_61, S_78_63, S_78_65, S_78_66, S_78_67, S_78_69, S_78_71, S_78_74, S_78_76, S_78_78, S_78_80, S_78_81, S_78_83, S_78_85, S_78_88, S_78_90, S_78_91, S_78_93, S_78_95, S_78_96, S_78_97, S_78_99, S_78_101, S_78_104, S_78_106, S_78_107, S_78_110, S_78_112, S_78_114, S_78_116, S_78_118, S_78_121, S_78_122, S_78_124, S_78_126, S_78_127, S_78_129, S_78_132, S_78_135, S_78_137, H_5, H_48, H_49, H_53, H_60, c_within, e49, mx, c_forget_60]))
    exact l0
  · rw [if_neg c] at kk
    have kk := kk s (Fr.rf s) hI
    replace c := Hd_i c
    repeat' (first | (with_reducible refine Br_i ?_ ?_ <;> (intro hbr; first | exact False.elim hbr | skip)) | (with_reducible refine Wl_i ?_) | (simp (disch := first | omega | exact okF _ | exact okI _ | exact okR _ | assumption | exact okN) only [u_at, iI_zero, iI_31, iI_add, iI_sub, iI_mul, iI_neg, ↓iI_max, ↓iI_min, iI_div, emod_f, iI_lt, iI_le, iI_inj, iI_toInt, ↓ii01, ↓ii11, ↓bI_b, bI_0, bI_1, Kt_s, Kt_n, cat0, cat1, cat2, cat3, cat4, rfV, Nat.reduceAdd, Nat.reduceMul, Nat.reduceEqDiff, Int.reduceAdd, Int.reduceSub, Int.reduceMul, Int.reduceNeg, Int.reduceLT, Int.reduceLE, Int.reduceEq, Int.reduceDiv, ↓reduceIte, ↓ite_ww, ↓ite_wi, Br_n, Br_TW, Br_FW, Br_FP, Br_FB, nn_p, and_true, true_and, and_self, true_or, or_true, not_true_eq_false, not_false_eq_true, le_T, le_F, lt_T, lt_F, eq_T, eq_F, Int.add_zero, Int.zero_add, Int.one_mul, Int.mul_one, up_eq, up_ne, Int.add_assoc, Int.add_sub_cancel, Int.sub_zero, Int.sub_self, S_151_0, S_151_1, S_151_2, S_151_5, S_151_8, S_151_11, S_151_12, S_151_13, S_151_15, S_151_18, S_151_21, S_151_22, S_151_25, S_151_28, S_151_31, S_151_32, S_151_35, S_151_36, S_151_37, S_151_38, S_151_41, S_151_42, S_151_43, S_151_46, H_5, H_48, H_49, c_within, e49]))
    all_goals first | exact kk | (exfalso; have c := Hd_o c; omega)
end BU
