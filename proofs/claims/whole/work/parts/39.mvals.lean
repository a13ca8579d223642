/-! THE REFERENCE: wet, hours, price, bars, worth, cost of an item */ -/
def nmF (f A : Int → Int) (t w n : Int) : Int → Int := up (up (up (up f 0 t) 1 w) 2 (A (10 + 4 * t))) 3 n
def nmW (f A : Int → Int) (t w n ta wa : Int) : Int → Int := up (up (nmF f A t w n) 4 ta) 5 wa
def nmV (A : Int → Int) (t w n ta wa : Int) : Int → Int := fun i => if i = 0 then t else if i = 1 then w else if i = 2 then A (10 + 4 * t) else if i = 3 then n else if i = 4 then ta else wa
theorem nmF_e {f A : Int → Int} {t w n ta wa i : Int} (h : 0 ≤ i ∧ i ≤ 3) : nmF f A t w n i = nmV A t w n ta wa i := by
  have e : i = 0 ∨ i = 1 ∨ i = 2 ∨ i = 3 := by omega
  unfold nmF nmV
  rcases e with e | e | e | e <;> subst e <;> rfl
theorem nmW_e {f A : Int → Int} {t w n ta wa i : Int} (h : 0 ≤ i ∧ i ≤ 5) : nmW f A t w n ta wa i = nmV A t w n ta wa i := by
  have e : i = 0 ∨ i = 1 ∨ i = 2 ∨ i = 3 ∨ i = 4 ∨ i = 5 := by omega
  unfold nmW nmF nmV
  rcases e with e | e | e | e | e | e <;> subst e <;> rfl
theorem nmV_r {A : Int → Int} {t w n ta wa : Int} (ht : WT A t) (h : (0 ≤ t ∧ t < 10) ∧ (-1000000 ≤ w ∧ w ≤ 1000000) ∧ (0 ≤ n ∧ n ≤ 3) ∧ (0 ≤ ta ∧ ta ≤ 99) ∧ 0 ≤ wa ∧ wa ≤ 1) (i : Int) : -1000000 ≤ nmV A t w n ta wa i ∧ nmV A t w n ta wa i ≤ 1000000 := by
  have := ht.1
  unfold nmV
  repeat' split
  all_goals omega
theorem nmF_ok {f A : Int → Int} {t w n : Int} (ht : WT A t) (h : (0 ≤ t ∧ t < 10) ∧ (-1000000 ≤ w ∧ w ≤ 1000000) ∧ (0 ≤ n ∧ n ≤ 3)) : nmOK (nmF f A t w n) false := by
  intro i i0 i1 i2
  have e : i ≤ 3 := i2.elim id (fun x => by cases x)
  rw [nmF_e (ta := 0) (wa := 0) ⟨i0, e⟩]
  exact nmV_r ht ⟨h.1, h.2.1, h.2.2, by omega, by omega⟩ i
theorem nmW_ok {f A : Int → Int} {t w n ta wa : Int} (ht : WT A t) (h : (0 ≤ t ∧ t < 10) ∧ (-1000000 ≤ w ∧ w ≤ 1000000) ∧ (0 ≤ n ∧ n ≤ 3) ∧ (0 ≤ ta ∧ ta ≤ 99) ∧ 0 ≤ wa ∧ wa ≤ 1) (b : Bool) : nmOK (nmW f A t w n ta wa) b := by
  intro i i0 i1 i2
  rw [nmW_e ⟨i0, i1⟩]
  exact nmV_r ht h i
theorem val_F {f A : Int → Int} {t w n : Int} {c : opl} {b : Bool} (h : tys false c [] [b]) : hd (evs (nmF f A t w n) c []) = val A c t w n 0 0 := by
  unfold val
  rw [evs_cg (w := false) (nm := fun i => if i = 0 then t else if i = 1 then w else if i = 2 then A (10 + 4 * t) else if i = 3 then n else if i = 4 then 0 else 0) (nm2 := nmF f A t w n) ?_ [] h]
  intro i i0 i1 i2
  have e : i ≤ 3 := i2.elim id (fun x => by cases x)
  exact nmF_e (ta := 0) (wa := 0) ⟨i0, e⟩
theorem val_W {f A : Int → Int} {t w n ta wa : Int} {c : opl} {b : Bool} (h : tys true c [] [b]) : hd (evs (nmW f A t w n ta wa) c []) = val A c t w n ta wa := by
  unfold val
  rw [evs_cg (w := true) (nm := fun i => if i = 0 then t else if i = 1 then w else if i = 2 then A (10 + 4 * t) else if i = 3 then n else if i = 4 then ta else wa) (nm2 := nmW f A t w n ta wa) ?_ [] h]
  intro i i0 i1 i2
  exact nmW_e ⟨i0, i1⟩
theorem clo_n {l : lawT} (hl : lawOK l) {w : Int} {c : opl} (h : (w, c) ∈ l) (n : ¬ w = 2) (n4 : ¬ w = 4) : tys false c [] [false] := by
  rcases (hl.2.1 _ h).2.1 with ⟨q, _⟩ | ⟨_, q⟩
  · exact absurd q n4
  · have e : decide (w = 2) = false := by simpa using n
    rw [show decide ((w, c).1 = 2) = false from e] at q
    exact q
theorem clo_w {l : lawT} (hl : lawOK l) {c : opl} (h : (2, c) ∈ l) : tys true c [] [false] := by
  rcases (hl.2.1 _ h).2.1 with ⟨q, _⟩ | ⟨_, q⟩
  · exact absurd (show (2 : Int) = 4 from q) (by decide)
  · exact q
theorem clo_b {l : lawT} (hl : lawOK l) {c : opl} (h : (4, c) ∈ l) : tys false c [] [true] := by
  rcases (hl.2.1 _ h).2.1 with ⟨_, q⟩ | ⟨q, _⟩
  · exact q
  · exact absurd rfl q
theorem sayW_F {f A : Int → Int} {t x n v w : Int} {l : lawT} (hl : lawOK l) (n2 : ¬ w = 2) (n4 : ¬ w = 4) : sayW (nmF f A t x n) l w v = match look l w with
  | none => v
  | some c => val A c t x n 0 0 := by
  unfold sayW
  cases e : look l w with
  | none => rfl
  | some c => exact val_F (clo_n hl (look_in e) n2 n4)
theorem barF_F {f A : Int → Int} {t x n : Int} {l : lawT} (hl : lawOK l) : barF (nmF f A t x n) l ↔ vBars A l t x n := by
  unfold barF vBars
  constructor
  · rintro ⟨c, h, q⟩
    rw [val_F (clo_b hl h)] at q
    exact ⟨c, h, q⟩
  · rintro ⟨c, h, q⟩
    rw [← val_F (f := f) (clo_b hl h)] at q
    exact ⟨c, h, q⟩
theorem val_b {A : Int → Int} {t w n ta wa : Int} {c : opl} {wb b : Bool} (ht : WT A t) (h : (0 ≤ t ∧ t < 10) ∧ (-1000000 ≤ w ∧ w ≤ 1000000) ∧ (0 ≤ n ∧ n ≤ 3) ∧ (0 ≤ ta ∧ ta ≤ 99) ∧ 0 ≤ wa ∧ wa ≤ 1) (k : tys wb c [] [b]) : vok b (val A c t w n ta wa) := hd_ok (w := wb) (fun i _ _ _ => nmV_r ht h i) k
theorem vHours_r {A : Int → Int} {l : lawT} {t w n : Int} (h : 0 ≤ w ∧ w ≤ 40) : 1 ≤ vHours A l t w n ∧ vHours A l t w n ≤ 999 := by
  unfold vHours
  split <;> omega
theorem vPrice_r {A : Int → Int} {l : lawT} {t w n : Int} (h : 0 ≤ w ∧ w ≤ 9999) : 0 ≤ vPrice A l t w n ∧ vPrice A l t w n ≤ 9999 := by
  unfold vPrice
  split <;> omega
theorem vWet_r {A : Int → Int} {l : lawT} {t w : Int} : 0 ≤ vWet A l t w ∧ vWet A l t w ≤ 9 := by
  unfold vWet
  split <;> omega
theorem vWant_r {A : Int → Int} {b t : Int} : vWant A b t = 0 ∨ vWant A b t = 1 := bZ_v _
theorem vWorth_r {A : Int → Int} {l : lawT} {b t w n : Int} (hb : WB A b) : -9999 ≤ vWorth A l b t w n ∧ vWorth A l b t w n ≤ 9999 := by
  have := hb.2.2.1
  unfold vWorth
  split
  · rcases vWant_r (A := A) (b := b) (t := t) with e | e <;> rw [e] <;> omega
  · omega
section MV
variable {d : Nat} {X : hX} {s : sg} {Q : Option Value → aH → Prop} {b t w n k : Int} {A : Int → Int} {l : lawT}
theorem m_names (hA : s 123 = A) (h : 0 ≤ t ∧ t < 10) : Wp (d + 1) 220 0 [.ref 122, .int (iI t), .int (iI w), .int (iI n)] [] (hp X s) Q = Q none (hp X (u s 139 (nmF (s 139) A t w n))) := by
  unfold nmF
  simp (disch := first | omega | exact okF _ | exact okI _ | exact okR _ | assumption | exact okN) only [S_220_0, S_220_1, S_220_4, S_220_5, S_220_6, S_220_7, S_220_8, S_220_11, S_220_12, S_220_13, S_220_14, S_220_15, S_220_18, S_220_19, S_220_20, S_220_21, S_220_22, S_220_25, S_220_26, S_220_27, S_220_30, S_220_31, S_220_32, S_220_33, u_at, iI_zero, iI_31, iI_add, iI_sub, iI_mul, iI_neg, ↓iI_max, ↓iI_min, iI_div, emod_f, iI_lt, iI_le, iI_inj, iI_toInt, ↓ii01, ↓ii11, ↓bI_b, bI_0, bI_1, Kt_s, Kt_n, cat0, cat1, cat2, cat3, cat4, rfV, Nat.reduceAdd, Nat.reduceMul, Nat.reduceEqDiff, Int.reduceAdd, Int.reduceSub, Int.reduceMul, Int.reduceNeg, Int.reduceLT, Int.reduceLE, Int.reduceEq, Int.reduceDiv, ↓reduceIte, ↓ite_ww, ↓ite_wi, Br_n, Br_TW, Br_FW, Br_FP, Br_FB, nn_p, and_true, true_and, and_self, true_or, or_true, not_true_eq_false, not_false_eq_true, le_T, le_F, lt_T, lt_F, eq_T, eq_F, Int.add_zero, Int.zero_add, Int.one_mul, Int.mul_one, up_eq, up_ne, Int.add_assoc, Int.add_sub_cancel, Int.sub_zero, Int.sub_self, H_122, H_139, m_thingOf, hA, u_u]
theorem m_wetOf (hA : s 123 = A) (hc : curM s l) (hl : lawOK l) (ht : WT A t) (h : (0 ≤ t ∧ t < 10) ∧ 0 ≤ w ∧ w ≤ 40) (k : ∀ s', Fr [139, 140] s s' → Q (some (.int (iI (vWet A l t w)))) (hp X s')) : Wp (d + 4) 221 0 [.ref 122, .int (iI t), .int (iI w)] [] (hp X s) Q := by
  have f0 : Fr [139, 140] s (u s 139 (nmF (s 139) A t w 1)) := (by repeat (first | exact Fr.rf _ | refine Fr.u ?_ rfl))
  repeat' (first | (with_reducible refine Br_i ?_ ?_ <;> (intro hbr; first | exact False.elim hbr | skip)) | (with_reducible refine Wl_i ?_) | (simp (disch := first | omega | exact okF _ | exact okI _ | exact okR _ | assumption | exact okN) only [u_at, iI_zero, iI_31, iI_add, iI_sub, iI_mul, iI_neg, ↓iI_max, ↓iI_min, iI_div, emod_f, iI_lt, iI_le, iI_inj, iI_toInt, ↓ii01, ↓ii11, ↓bI_b, bI_0, bI_1, Kt_s, Kt_n, cat0, cat1, cat2, cat3, cat4, rfV, Nat.reduceAdd, Nat.reduceMul, Nat.reduceEqDiff, Int.reduceAdd, Int.reduceSub, Int.reduceMul, Int.reduceNeg, Int.reduceLT, Int.reduceLE, Int.reduceEq, Int.reduceDiv, ↓reduceIte, ↓ite_ww, ↓ite_wi, Br_n, Br_TW, Br_FW, Br_FP, Br_FB, nn_p, and_true, true_and, and_self, true_or, or_true, not_true_eq_false, not_false_eq_true, le_T, le_F, lt_T, lt_F, eq_T, eq_F, Int.add_zero, Int.zero_add, Int.one_mul, Int.mul_one, up_eq, up_ne, Int.add_assoc, Int.add_sub_cancel, Int.sub_zero, Int.sub_self, S_221_0, S_221_1, S_221_2, S_221_3, S_221_4, S_221_7, S_221_8, S_221_9, S_221_10, S_221_11, S_221_13, S_221_16, H_122, m_names hA]))
  refine m_sumOf (curM_fr f0 rfl rfl hc) hl ?_ ?_ ?_ ?_
  · omega
  · rw [u_eq]
    exact nmF_ok ht (by omega)
  · omega
  · intro s' f1
    rw [u_eq, sayW_F hl (by decide) (by decide)]
    have q := k s' (f0.tr (f1.up rfl))
    unfold vWet at q
    repeat' (first | (with_reducible refine Br_i ?_ ?_ <;> (intro hbr; first | exact False.elim hbr | skip)) | (with_reducible refine Wl_i ?_) | (simp (disch := first | omega | exact okF _ | exact okI _ | exact okR _ | assumption | exact okN) only [u_at, iI_zero, iI_31, iI_add, iI_sub, iI_mul, iI_neg, ↓iI_max, ↓iI_min, iI_div, emod_f, iI_lt, iI_le, iI_inj, iI_toInt, ↓ii01, ↓ii11, ↓bI_b, bI_0, bI_1, Kt_s, Kt_n, cat0, cat1, cat2, cat3, cat4, rfV, Nat.reduceAdd, Nat.reduceMul, Nat.reduceEqDiff, Int.reduceAdd, Int.reduceSub, Int.reduceMul, Int.reduceNeg, Int.reduceLT, Int.reduceLE, Int.reduceEq, Int.reduceDiv, ↓reduceIte, ↓ite_ww, ↓ite_wi, Br_n, Br_TW, Br_FW, Br_FP, Br_FB, nn_p, and_true, true_and, and_self, true_or, or_true, not_true_eq_false, not_false_eq_true, le_T, le_F, lt_T, lt_F, eq_T, eq_F, Int.add_zero, Int.zero_add, Int.one_mul, Int.mul_one, up_eq, up_ne, Int.add_assoc, Int.add_sub_cancel, Int.sub_zero, Int.sub_self, S_221_0, S_221_1, S_221_2, S_221_3, S_221_4, S_221_7, S_221_8, S_221_9, S_221_10, S_221_11, S_221_13, S_221_16, H_122]))
    cases e : look l 3 with
    | none => rw [e] at q; exact q
    | some c => rw [e] at q; exact q
theorem m_hoursOf (hA : s 123 = A) (hc : curM s l) (hl : lawOK l) (ht : WT A t) (h : (0 ≤ t ∧ t < 10) ∧ (0 ≤ w ∧ w ≤ 40) ∧ 0 ≤ n ∧ n ≤ 3) (k : ∀ s', Fr [139, 140] s s' → Q (some (.int (iI (vHours A l t w n)))) (hp X s')) : Wp (d + 4) 222 0 [.ref 122, .int (iI t), .int (iI w), .int (iI n)] [] (hp X s) Q := by
  have f0 : Fr [139, 140] s (u s 139 (nmF (s 139) A t w n)) := (by repeat (first | exact Fr.rf _ | refine Fr.u ?_ rfl))
  have hc1 := curM_fr f0 rfl rfl hc
  unfold vHours at k
  cases e : look l 1 with
  | none =>
    rw [e] at k
    repeat' (first | (with_reducible refine Br_i ?_ ?_ <;> (intro hbr; first | exact False.elim hbr | skip)) | (with_reducible refine Wl_i ?_) | (simp (disch := first | omega | exact okF _ | exact okI _ | exact okR _ | assumption | exact okN) only [u_at, iI_zero, iI_31, iI_add, iI_sub, iI_mul, iI_neg, ↓iI_max, ↓iI_min, iI_div, emod_f, iI_lt, iI_le, iI_inj, iI_toInt, ↓ii01, ↓ii11, ↓bI_b, bI_0, bI_1, Kt_s, Kt_n, cat0, cat1, cat2, cat3, cat4, rfV, Nat.reduceAdd, Nat.reduceMul, Nat.reduceEqDiff, Int.reduceAdd, Int.reduceSub, Int.reduceMul, Int.reduceNeg, Int.reduceLT, Int.reduceLE, Int.reduceEq, Int.reduceDiv, ↓reduceIte, ↓ite_ww, ↓ite_wi, Br_n, Br_TW, Br_FW, Br_FP, Br_FB, nn_p, and_true, true_and, and_self, true_or, or_true, not_true_eq_false, not_false_eq_true, le_T, le_F, lt_T, lt_F, eq_T, eq_F, Int.add_zero, Int.zero_add, Int.one_mul, Int.mul_one, up_eq, up_ne, Int.add_assoc, Int.add_sub_cancel, Int.sub_zero, Int.sub_self, S_222_0, S_222_1, S_222_2, S_222_3, S_222_4, S_222_7, S_222_8, S_222_9, S_222_12, S_222_15, S_222_16, S_222_17, S_222_18, S_222_19, S_222_22, S_222_25, S_222_28, S_222_29, S_222_30, S_222_31, S_222_32, S_222_33, H_122, m_names hA, m_isTold hc1 hl, e]))
    exact k _ f0
  | some c =>
    rw [e] at k
    have ne : ¬ look l 1 = none := by rw [e]; simp
    repeat' (first | (with_reducible refine Br_i ?_ ?_ <;> (intro hbr; first | exact False.elim hbr | skip)) | (with_reducible refine Wl_i ?_) | (simp (disch := first | omega | exact okF _ | exact okI _ | exact okR _ | assumption | exact okN) only [u_at, iI_zero, iI_31, iI_add, iI_sub, iI_mul, iI_neg, ↓iI_max, ↓iI_min, iI_div, emod_f, iI_lt, iI_le, iI_inj, iI_toInt, ↓ii01, ↓ii11, ↓bI_b, bI_0, bI_1, Kt_s, Kt_n, cat0, cat1, cat2, cat3, cat4, rfV, Nat.reduceAdd, Nat.reduceMul, Nat.reduceEqDiff, Int.reduceAdd, Int.reduceSub, Int.reduceMul, Int.reduceNeg, Int.reduceLT, Int.reduceLE, Int.reduceEq, Int.reduceDiv, ↓reduceIte, ↓ite_ww, ↓ite_wi, Br_n, Br_TW, Br_FW, Br_FP, Br_FB, nn_p, and_true, true_and, and_self, true_or, or_true, not_true_eq_false, not_false_eq_true, le_T, le_F, lt_T, lt_F, eq_T, eq_F, Int.add_zero, Int.zero_add, Int.one_mul, Int.mul_one, up_eq, up_ne, Int.add_assoc, Int.add_sub_cancel, Int.sub_zero, Int.sub_self, S_222_0, S_222_1, S_222_2, S_222_3, S_222_4, S_222_7, S_222_8, S_222_9, S_222_12, S_222_15, S_222_16, S_222_17, S_222_18, S_222_19, S_222_22, S_222_25, S_222_28, S_222_29, S_222_30, S_222_31, S_222_32, S_222_33, H_122, m_names hA, m_isTold hc1 hl, ne]))
    refine m_sumOf hc1 hl ?_ ?_ ?_ ?_
    · omega
    · rw [u_eq]
      exact nmF_ok ht (by omega)
    · omega
    · intro s' f1
      rw [u_eq, sayW_F hl (by decide) (by decide), e]
      repeat' (first | (with_reducible refine Br_i ?_ ?_ <;> (intro hbr; first | exact False.elim hbr | skip)) | (with_reducible refine Wl_i ?_) | (simp (disch := first | omega | exact okF _ | exact okI _ | exact okR _ | assumption | exact okN) only [u_at, iI_zero, iI_31, iI_add, iI_sub, iI_mul, iI_neg, ↓iI_max, ↓iI_min, iI_div, emod_f, iI_lt, iI_le, iI_inj, iI_toInt, ↓ii01, ↓ii11, ↓bI_b, bI_0, bI_1, Kt_s, Kt_n, cat0, cat1, cat2, cat3, cat4, rfV, Nat.reduceAdd, Nat.reduceMul, Nat.reduceEqDiff, Int.reduceAdd, Int.reduceSub, Int.reduceMul, Int.reduceNeg, Int.reduceLT, Int.reduceLE, Int.reduceEq, Int.reduceDiv, ↓reduceIte, ↓ite_ww, ↓ite_wi, Br_n, Br_TW, Br_FW, Br_FP, Br_FB, nn_p, and_true, true_and, and_self, true_or, or_true, not_true_eq_false, not_false_eq_true, le_T, le_F, lt_T, lt_F, eq_T, eq_F, Int.add_zero, Int.zero_add, Int.one_mul, Int.mul_one, up_eq, up_ne, Int.add_assoc, Int.add_sub_cancel, Int.sub_zero, Int.sub_self, S_222_0, S_222_1, S_222_2, S_222_3, S_222_4, S_222_7, S_222_8, S_222_9, S_222_12, S_222_15, S_222_16, S_222_17, S_222_18, S_222_19, S_222_22, S_222_25, S_222_28, S_222_29, S_222_30, S_222_31, S_222_32, S_222_33, H_122]))
      exact k s' (f0.tr (f1.up rfl))
theorem m_priceOf (hA : s 123 = A) (hc : curM s l) (hl : lawOK l) (ht : WT A t) (h : (0 ≤ t ∧ t < 10) ∧ (0 ≤ w ∧ w ≤ 9999) ∧ 0 ≤ n ∧ n ≤ 3) (k : ∀ s', Fr [139, 140] s s' → Q (some (.int (iI (vPrice A l t w n)))) (hp X s')) : Wp (d + 4) 223 0 [.ref 122, .int (iI t), .int (iI w), .int (iI n)] [] (hp X s) Q := by
  have f0 : Fr [139, 140] s (u s 139 (nmF (s 139) A t w n)) := (by repeat (first | exact Fr.rf _ | refine Fr.u ?_ rfl))
  have hc1 := curM_fr f0 rfl rfl hc
  unfold vPrice at k
  repeat' (first | (with_reducible refine Br_i ?_ ?_ <;> (intro hbr; first | exact False.elim hbr | skip)) | (with_reducible refine Wl_i ?_) | (simp (disch := first | omega | exact okF _ | exact okI _ | exact okR _ | assumption | exact okN) only [u_at, iI_zero, iI_31, iI_add, iI_sub, iI_mul, iI_neg, ↓iI_max, ↓iI_min, iI_div, emod_f, iI_lt, iI_le, iI_inj, iI_toInt, ↓ii01, ↓ii11, ↓bI_b, bI_0, bI_1, Kt_s, Kt_n, cat0, cat1, cat2, cat3, cat4, rfV, Nat.reduceAdd, Nat.reduceMul, Nat.reduceEqDiff, Int.reduceAdd, Int.reduceSub, Int.reduceMul, Int.reduceNeg, Int.reduceLT, Int.reduceLE, Int.reduceEq, Int.reduceDiv, ↓reduceIte, ↓ite_ww, ↓ite_wi, Br_n, Br_TW, Br_FW, Br_FP, Br_FB, nn_p, and_true, true_and, and_self, true_or, or_true, not_true_eq_false, not_false_eq_true, le_T, le_F, lt_T, lt_F, eq_T, eq_F, Int.add_zero, Int.zero_add, Int.one_mul, Int.mul_one, up_eq, up_ne, Int.add_assoc, Int.add_sub_cancel, Int.sub_zero, Int.sub_self, S_223_0, S_223_1, S_223_2, S_223_3, S_223_4, S_223_7, S_223_8, S_223_9, S_223_10, S_223_11, S_223_14, S_223_17, H_122, m_names hA]))
  refine m_sumOf hc1 hl ?_ ?_ ?_ ?_
  · omega
  · rw [u_eq]
    exact nmF_ok ht (by omega)
  · omega
  · intro s' f1
    rw [u_eq, sayW_F hl (by decide) (by decide)]
    have q := k s' (f0.tr (f1.up rfl))
    repeat' (first | (with_reducible refine Br_i ?_ ?_ <;> (intro hbr; first | exact False.elim hbr | skip)) | (with_reducible refine Wl_i ?_) | (simp (disch := first | omega | exact okF _ | exact okI _ | exact okR _ | assumption | exact okN) only [u_at, iI_zero, iI_31, iI_add, iI_sub, iI_mul, iI_neg, ↓iI_max, ↓iI_min, iI_div, emod_f, iI_lt, iI_le, iI_inj, iI_toInt, ↓ii01, ↓ii11, ↓bI_b, bI_0, bI_1, Kt_s, Kt_n, cat0, cat1, cat2, cat3, cat4, rfV, Nat.reduceAdd, Nat.reduceMul, Nat.reduceEqDiff, Int.reduceAdd, Int.reduceSub, Int.reduceMul, Int.reduceNeg, Int.reduceLT, Int.reduceLE, Int.reduceEq, Int.reduceDiv, ↓reduceIte, ↓ite_ww, ↓ite_wi, Br_n, Br_TW, Br_FW, Br_FP, Br_FB, nn_p, and_true, true_and, and_self, true_or, or_true, not_true_eq_false, not_false_eq_true, le_T, le_F, lt_T, lt_F, eq_T, eq_F, Int.add_zero, Int.zero_add, Int.one_mul, Int.mul_one, up_eq, up_ne, Int.add_assoc, Int.add_sub_cancel, Int.sub_zero, Int.sub_self, S_223_0, S_223_1, S_223_2, S_223_3, S_223_4, S_223_7, S_223_8, S_223_9, S_223_10, S_223_11, S_223_14, S_223_17, H_122]))
    cases e : look l 0 with
    | none =>
      rw [e] at q
      simp only
      rw [show max 0 (min 9999 w) = w by omega]
      exact q
    | some c => rw [e] at q; exact q
theorem m_isBarred (hA : s 123 = A) (hc : curM s l) (hl : lawOK l) (ht : WT A t) (h : (0 ≤ t ∧ t < 10) ∧ (0 ≤ w ∧ w ≤ 9999) ∧ 0 ≤ n ∧ n ≤ 3) (k : ∀ s', Fr [139, 140] s s' → Q (some (.int (iI (bZ (vBars A l t w n))))) (hp X s')) : Wp (d + 3) 224 0 [.ref 122, .int (iI t), .int (iI w), .int (iI n), .float 0, .float 0] [] (hp X s) Q := by
  have f0 : Fr [139, 140] s (u s 139 (nmF (s 139) A t w n)) := (by repeat (first | exact Fr.rf _ | refine Fr.u ?_ rfl))
  have hc1 := curM_fr f0 rfl rfl hc
  have hlen := hl.1
  rcases hc1 with ⟨h1, h2⟩ | ⟨h1, h2⟩
  · have q := k _ f0
    rw [bZ_F (fun ⟨c, hc, _⟩ => by rw [h2] at hc; cases hc)] at q
    repeat' (first | (with_reducible refine Br_i ?_ ?_ <;> (intro hbr; first | exact False.elim hbr | skip)) | (with_reducible refine Wl_i ?_) | (simp (disch := first | omega | exact okF _ | exact okI _ | exact okR _ | assumption | exact okN) only [u_at, iI_zero, iI_31, iI_add, iI_sub, iI_mul, iI_neg, ↓iI_max, ↓iI_min, iI_div, emod_f, iI_lt, iI_le, iI_inj, iI_toInt, ↓ii01, ↓ii11, ↓bI_b, bI_0, bI_1, Kt_s, Kt_n, cat0, cat1, cat2, cat3, cat4, rfV, Nat.reduceAdd, Nat.reduceMul, Nat.reduceEqDiff, Int.reduceAdd, Int.reduceSub, Int.reduceMul, Int.reduceNeg, Int.reduceLT, Int.reduceLE, Int.reduceEq, Int.reduceDiv, ↓reduceIte, ↓ite_ww, ↓ite_wi, Br_n, Br_TW, Br_FW, Br_FP, Br_FB, nn_p, and_true, true_and, and_self, true_or, or_true, not_true_eq_false, not_false_eq_true, le_T, le_F, lt_T, lt_F, eq_T, eq_F, Int.add_zero, Int.zero_add, Int.one_mul, Int.mul_one, up_eq, up_ne, Int.add_assoc, Int.add_sub_cancel, Int.sub_zero, Int.sub_self, S_224_0, S_224_1, S_224_2, S_224_3, S_224_4, S_224_7, S_224_8, S_224_10, S_224_11, S_224_13, S_224_14, S_224_17, S_224_18, S_224_19, S_224_20, S_224_23, S_224_25, S_224_26, S_224_29, S_224_30, S_224_33, S_224_34, S_224_35, S_224_36, S_224_39, S_224_41, S_224_44, S_224_45, S_224_48, S_224_50, S_224_51, S_224_54, S_224_55, S_224_56, S_224_57, S_224_59, S_224_60, S_224_61, S_224_62, S_224_65, S_224_66, S_224_67, S_224_70, S_224_72, S_224_73, S_224_76, S_224_77, S_224_78, S_224_79, S_224_81, S_224_82, S_224_83, S_224_86, S_224_87, S_224_88, S_224_91, S_224_92, S_224_95, S_224_96, S_224_98, S_224_101, S_224_104, S_224_106, H_122, H_123, m_names hA, h1]))
    rw [u_ne (by decide)] at h1
    repeat' (first | (with_reducible refine Br_i ?_ ?_ <;> (intro hbr; first | exact False.elim hbr | skip)) | (with_reducible refine Wl_i ?_) | (simp (disch := first | omega | exact okF _ | exact okI _ | exact okR _ | assumption | exact okN) only [u_at, iI_zero, iI_31, iI_add, iI_sub, iI_mul, iI_neg, ↓iI_max, ↓iI_min, iI_div, emod_f, iI_lt, iI_le, iI_inj, iI_toInt, ↓ii01, ↓ii11, ↓bI_b, bI_0, bI_1, Kt_s, Kt_n, cat0, cat1, cat2, cat3, cat4, rfV, Nat.reduceAdd, Nat.reduceMul, Nat.reduceEqDiff, Int.reduceAdd, Int.reduceSub, Int.reduceMul, Int.reduceNeg, Int.reduceLT, Int.reduceLE, Int.reduceEq, Int.reduceDiv, ↓reduceIte, ↓ite_ww, ↓ite_wi, Br_n, Br_TW, Br_FW, Br_FP, Br_FB, nn_p, and_true, true_and, and_self, true_or, or_true, not_true_eq_false, not_false_eq_true, le_T, le_F, lt_T, lt_F, eq_T, eq_F, Int.add_zero, Int.zero_add, Int.one_mul, Int.mul_one, up_eq, up_ne, Int.add_assoc, Int.add_sub_cancel, Int.sub_zero, Int.sub_self, S_224_0, S_224_1, S_224_2, S_224_3, S_224_4, S_224_7, S_224_8, S_224_10, S_224_11, S_224_13, S_224_14, S_224_17, S_224_18, S_224_19, S_224_20, S_224_23, S_224_25, S_224_26, S_224_29, S_224_30, S_224_33, S_224_34, S_224_35, S_224_36, S_224_39, S_224_41, S_224_44, S_224_45, S_224_48, S_224_50, S_224_51, S_224_54, S_224_55, S_224_56, S_224_57, S_224_59, S_224_60, S_224_61, S_224_62, S_224_65, S_224_66, S_224_67, S_224_70, S_224_72, S_224_73, S_224_76, S_224_77, S_224_78, S_224_79, S_224_81, S_224_82, S_224_83, S_224_86, S_224_87, S_224_88, S_224_91, S_224_92, S_224_95, S_224_96, S_224_98, S_224_101, S_224_104, S_224_106, H_122, H_123, m_names hA, h1]))
    exact q
  · repeat' (first | (with_reducible refine Br_i ?_ ?_ <;> (intro hbr; first | exact False.elim hbr | skip)) | (with_reducible refine Wl_i ?_) | (simp (disch := first | omega | exact okF _ | exact okI _ | exact okR _ | assumption | exact okN) only [u_at, iI_zero, iI_31, iI_add, iI_sub, iI_mul, iI_neg, ↓iI_max, ↓iI_min, iI_div, emod_f, iI_lt, iI_le, iI_inj, iI_toInt, ↓ii01, ↓ii11, ↓bI_b, bI_0, bI_1, Kt_s, Kt_n, cat0, cat1, cat2, cat3, cat4, rfV, Nat.reduceAdd, Nat.reduceMul, Nat.reduceEqDiff, Int.reduceAdd, Int.reduceSub, Int.reduceMul, Int.reduceNeg, Int.reduceLT, Int.reduceLE, Int.reduceEq, Int.reduceDiv, ↓reduceIte, ↓ite_ww, ↓ite_wi, Br_n, Br_TW, Br_FW, Br_FP, Br_FB, nn_p, and_true, true_and, and_self, true_or, or_true, not_true_eq_false, not_false_eq_true, le_T, le_F, lt_T, lt_F, eq_T, eq_F, Int.add_zero, Int.zero_add, Int.one_mul, Int.mul_one, up_eq, up_ne, Int.add_assoc, Int.add_sub_cancel, Int.sub_zero, Int.sub_self, S_224_0, S_224_1, S_224_2, S_224_3, S_224_4, S_224_7, S_224_8, S_224_10, S_224_11, S_224_14, S_224_17, S_224_18, S_224_19, S_224_20, S_224_23, S_224_25, S_224_26, S_224_29, S_224_30, S_224_33, S_224_34, S_224_35, S_224_36, S_224_39, S_224_41, S_224_44, S_224_45, S_224_48, S_224_50, S_224_51, S_224_54, S_224_55, S_224_56, S_224_57, S_224_59, S_224_60, S_224_61, S_224_62, S_224_65, S_224_66, S_224_67, S_224_70, S_224_72, S_224_73, S_224_76, S_224_77, S_224_78, S_224_79, S_224_81, S_224_82, S_224_83, S_224_86, S_224_87, S_224_88, S_224_91, S_224_92, S_224_95, S_224_96, S_224_98, S_224_101, S_224_104, S_224_106, H_122, m_names hA]))
    have L := m_barred_l (d := d) (X := X) (Q := Q) (s0 := u s 139 (nmF (s 139) A t w n)) (v1 := .int (iI t)) (v2 := .int (iI w)) (v3 := .int (iI n)) (r := vBars A l t w n) (by rw [u_eq]; exact nmF_ok ht (by omega)) rfl h1 (fun s' f1 => k s' (f0.tr (f1.up rfl))) l 0 _ False (Fr.rf _) h2 hl.2.1 (by rw [u_eq, barF_F hl]; exact ⟨fun x => x.elim False.elim id, Or.inr⟩) (by omega)
    rw [bZ_F not_false] at L
    exact L
theorem m_worthOf (hA : s 123 = A) (hc : curM s l) (hl : lawOK l) (ht : WT A t) (hb : WB A b) (h : (0 ≤ t ∧ t < 10) ∧ (0 ≤ w ∧ w ≤ 40) ∧ (0 ≤ n ∧ n ≤ 3) ∧ 0 ≤ b ∧ b < 10) (k : ∀ s', Fr [139, 140] s s' → Q (some (.int (iI (vWorth A l b t w n)))) (hp X s')) : Wp (d + 4) 225 0 [.ref 122, .int (iI b), .int (iI t), .int (iI w), .int (iI n)] [] (hp X s) Q := by
  have f0 : ∀ wa, Fr [139, 140] s (u s 139 (nmW (s 139) A t w n (A (100 + (6 * b + 2))) wa)) := fun wa => (by repeat (first | exact Fr.rf _ | refine Fr.u ?_ rfl))
  have hb2 := hb.2.2.1
  have hb1 := hb.2.1
  have fin : ∀ wa wo, wa = vWant A b t → wo = A (100 + (6 * b + 2)) * wa → (0 ≤ wa ∧ wa ≤ 1) → (0 ≤ wo ∧ wo ≤ 99) → Wp (d + 3) 218 0 [.ref 122, .int (iI 2), .int (iI wo), .int (iI (-9999)), .int (iI 9999), .float 0, .float 0, .float 0] [] (hp X (u s 139 (nmW (s 139) A t w n (A (100 + (6 * b + 2))) wa))) (Kt (d + 4) 225 72 [.ref 122, .int (iI b), .int (iI t), .int (iI w), .int (iI n)] [] Q) := by
    intro wa wo ea eo rwa rwo
    refine m_sumOf (curM_fr (f0 wa) rfl rfl hc) hl ?_ ?_ ?_ ?_
    · omega
    · rw [u_eq]
      exact nmW_ok ht (by omega) _
    · omega
    · intro s' f1
      have q := k s' ((f0 wa).tr (f1.up rfl))
      rw [u_eq]
      unfold vWorth at q
      unfold sayW
      repeat' (first | (with_reducible refine Br_i ?_ ?_ <;> (intro hbr; first | exact False.elim hbr | skip)) | (with_reducible refine Wl_i ?_) | (simp (disch := first | omega | exact okF _ | exact okI _ | exact okR _ | assumption | exact okN) only [u_at, iI_zero, iI_31, iI_add, iI_sub, iI_mul, iI_neg, ↓iI_max, ↓iI_min, iI_div, emod_f, iI_lt, iI_le, iI_inj, iI_toInt, ↓ii01, ↓ii11, ↓bI_b, bI_0, bI_1, Kt_s, Kt_n, cat0, cat1, cat2, cat3, cat4, rfV, Nat.reduceAdd, Nat.reduceMul, Nat.reduceEqDiff, Int.reduceAdd, Int.reduceSub, Int.reduceMul, Int.reduceNeg, Int.reduceLT, Int.reduceLE, Int.reduceEq, Int.reduceDiv, ↓reduceIte, ↓ite_ww, ↓ite_wi, Br_n, Br_TW, Br_FW, Br_FP, Br_FB, nn_p, and_true, true_and, and_self, true_or, or_true, not_true_eq_false, not_false_eq_true, le_T, le_F, lt_T, lt_F, eq_T, eq_F, Int.add_zero, Int.zero_add, Int.one_mul, Int.mul_one, up_eq, up_ne, Int.add_assoc, Int.add_sub_cancel, Int.sub_zero, Int.sub_self, S_225_0, S_225_1, S_225_2, S_225_3, S_225_5, S_225_8, S_225_9, S_225_12, S_225_13, S_225_14, S_225_15, S_225_16, S_225_19, S_225_20, S_225_21, S_225_24, S_225_25, S_225_26, S_225_27, S_225_28, S_225_31, S_225_32, S_225_35, S_225_36, S_225_39, S_225_40, S_225_41, S_225_42, S_225_43, S_225_44, S_225_47, S_225_48, S_225_49, S_225_50, S_225_53, S_225_54, S_225_57, S_225_58, S_225_59, S_225_62, S_225_63, S_225_66, S_225_69, S_225_72, H_122]))
      cases e : look l 2 with
      | none =>
        rw [e] at q
        simp only at q ⊢
        rw [← ea, ← eo] at q
        rw [show max (-9999) (min 9999 wo) = wo by omega]
        exact q
      | some c =>
        rw [e] at q
        simp only at q ⊢
        rw [val_W (clo_w hl (look_in e)), ea]
        exact q
  by_cases e : A (100 + (6 * b + 1)) = t
  · have fin := fin 1 (A (100 + (6 * b + 2))) (by unfold vWant; rw [bZ_T e]) (by omega) (by omega) (by omega)
    unfold nmW at fin
    repeat' (first | (with_reducible refine Br_i ?_ ?_ <;> (intro hbr; first | exact False.elim hbr | skip)) | (with_reducible refine Wl_i ?_) | (simp (disch := first | omega | exact okF _ | exact okI _ | exact okR _ | assumption | exact okN) only [u_at, iI_zero, iI_31, iI_add, iI_sub, iI_mul, iI_neg, ↓iI_max, ↓iI_min, iI_div, emod_f, iI_lt, iI_le, iI_inj, iI_toInt, ↓ii01, ↓ii11, ↓bI_b, bI_0, bI_1, Kt_s, Kt_n, cat0, cat1, cat2, cat3, cat4, rfV, Nat.reduceAdd, Nat.reduceMul, Nat.reduceEqDiff, Int.reduceAdd, Int.reduceSub, Int.reduceMul, Int.reduceNeg, Int.reduceLT, Int.reduceLE, Int.reduceEq, Int.reduceDiv, ↓reduceIte, ↓ite_ww, ↓ite_wi, Br_n, Br_TW, Br_FW, Br_FP, Br_FB, nn_p, and_true, true_and, and_self, true_or, or_true, not_true_eq_false, not_false_eq_true, le_T, le_F, lt_T, lt_F, eq_T, eq_F, Int.add_zero, Int.zero_add, Int.one_mul, Int.mul_one, up_eq, up_ne, Int.add_assoc, Int.add_sub_cancel, Int.sub_zero, Int.sub_self, S_225_0, S_225_1, S_225_2, S_225_3, S_225_5, S_225_8, S_225_9, S_225_12, S_225_13, S_225_14, S_225_15, S_225_16, S_225_19, S_225_20, S_225_21, S_225_24, S_225_25, S_225_26, S_225_27, S_225_28, S_225_31, S_225_32, S_225_35, S_225_36, S_225_39, S_225_40, S_225_41, S_225_42, S_225_43, S_225_44, S_225_47, S_225_48, S_225_49, S_225_50, S_225_53, S_225_54, S_225_57, S_225_58, S_225_59, S_225_62, S_225_63, S_225_66, S_225_69, S_225_72, H_122, H_139, m_names hA, m_buyerOf, hA, u_u, e]))
    exact fin
  · have fin := fin 0 0 (by unfold vWant; rw [bZ_F e]) (by omega) (by omega) (by omega)
    unfold nmW at fin
    repeat' (first | (with_reducible refine Br_i ?_ ?_ <;> (intro hbr; first | exact False.elim hbr | skip)) | (with_reducible refine Wl_i ?_) | (simp (disch := first | omega | exact okF _ | exact okI _ | exact okR _ | assumption | exact okN) only [u_at, iI_zero, iI_31, iI_add, iI_sub, iI_mul, iI_neg, ↓iI_max, ↓iI_min, iI_div, emod_f, iI_lt, iI_le, iI_inj, iI_toInt, ↓ii01, ↓ii11, ↓bI_b, bI_0, bI_1, Kt_s, Kt_n, cat0, cat1, cat2, cat3, cat4, rfV, Nat.reduceAdd, Nat.reduceMul, Nat.reduceEqDiff, Int.reduceAdd, Int.reduceSub, Int.reduceMul, Int.reduceNeg, Int.reduceLT, Int.reduceLE, Int.reduceEq, Int.reduceDiv, ↓reduceIte, ↓ite_ww, ↓ite_wi, Br_n, Br_TW, Br_FW, Br_FP, Br_FB, nn_p, and_true, true_and, and_self, true_or, or_true, not_true_eq_false, not_false_eq_true, le_T, le_F, lt_T, lt_F, eq_T, eq_F, Int.add_zero, Int.zero_add, Int.one_mul, Int.mul_one, up_eq, up_ne, Int.add_assoc, Int.add_sub_cancel, Int.sub_zero, Int.sub_self, S_225_0, S_225_1, S_225_2, S_225_3, S_225_5, S_225_8, S_225_9, S_225_12, S_225_13, S_225_14, S_225_15, S_225_16, S_225_19, S_225_20, S_225_21, S_225_24, S_225_25, S_225_26, S_225_27, S_225_28, S_225_31, S_225_32, S_225_35, S_225_36, S_225_39, S_225_40, S_225_41, S_225_42, S_225_43, S_225_44, S_225_47, S_225_48, S_225_49, S_225_50, S_225_53, S_225_54, S_225_57, S_225_58, S_225_59, S_225_62, S_225_63, S_225_66, S_225_69, S_225_72, H_122, H_139, m_names hA, m_buyerOf, hA, u_u, e]))
    exact fin
theorem m_costOf (hA : s 123 = A) (hc : curM s l) (hl : lawOK l) (ht : WT A t) (h : (0 ≤ t ∧ t < 10) ∧ (0 ≤ w ∧ w ≤ 40) ∧ (0 ≤ n ∧ n ≤ 3) ∧ 0 ≤ b ∧ b < 6) (k : ∀ s', Fr [139, 140] s s' → Q (some (.int (iI (vCost A l b t w n)))) (hp X s')) : Wp (d + 5) 226 0 [.ref 122, .int (iI b), .int (iI t), .int (iI w), .int (iI n)] [] (hp X s) Q := by
  repeat' (first | (with_reducible refine Br_i ?_ ?_ <;> (intro hbr; first | exact False.elim hbr | skip)) | (with_reducible refine Wl_i ?_) | (simp (disch := first | omega | exact okF _ | exact okI _ | exact okR _ | assumption | exact okN) only [u_at, iI_zero, iI_31, iI_add, iI_sub, iI_mul, iI_neg, ↓iI_max, ↓iI_min, iI_div, emod_f, iI_lt, iI_le, iI_inj, iI_toInt, ↓ii01, ↓ii11, ↓bI_b, bI_0, bI_1, Kt_s, Kt_n, cat0, cat1, cat2, cat3, cat4, rfV, Nat.reduceAdd, Nat.reduceMul, Nat.reduceEqDiff, Int.reduceAdd, Int.reduceSub, Int.reduceMul, Int.reduceNeg, Int.reduceLT, Int.reduceLE, Int.reduceEq, Int.reduceDiv, ↓reduceIte, ↓ite_ww, ↓ite_wi, Br_n, Br_TW, Br_FW, Br_FP, Br_FB, nn_p, and_true, true_and, and_self, true_or, or_true, not_true_eq_false, not_false_eq_true, le_T, le_F, lt_T, lt_F, eq_T, eq_F, Int.add_zero, Int.zero_add, Int.one_mul, Int.mul_one, up_eq, up_ne, Int.add_assoc, Int.add_sub_cancel, Int.sub_zero, Int.sub_self, S_226_0, S_226_1, S_226_2, S_226_3, S_226_5, S_226_8, S_226_9, S_226_10, S_226_11, S_226_14, S_226_15, S_226_16, S_226_17, S_226_18, S_226_21, S_226_22, S_226_23, S_226_24, H_122]))
  refine m_hoursOf hA hc hl ht (by omega) ?_
  intro s' f1
  have hA1 : s' 123 = A := (f1.g 123 rfl).trans hA
  have q := k s' f1
  unfold vCost at q
  repeat' (first | (with_reducible refine Br_i ?_ ?_ <;> (intro hbr; first | exact False.elim hbr | skip)) | (with_reducible refine Wl_i ?_) | (simp (disch := first | omega | exact okF _ | exact okI _ | exact okR _ | assumption | exact okN) only [u_at, iI_zero, iI_31, iI_add, iI_sub, iI_mul, iI_neg, ↓iI_max, ↓iI_min, iI_div, emod_f, iI_lt, iI_le, iI_inj, iI_toInt, ↓ii01, ↓ii11, ↓bI_b, bI_0, bI_1, Kt_s, Kt_n, cat0, cat1, cat2, cat3, cat4, rfV, Nat.reduceAdd, Nat.reduceMul, Nat.reduceEqDiff, Int.reduceAdd, Int.reduceSub, Int.reduceMul, Int.reduceNeg, Int.reduceLT, Int.reduceLE, Int.reduceEq, Int.reduceDiv, ↓reduceIte, ↓ite_ww, ↓ite_wi, Br_n, Br_TW, Br_FW, Br_FP, Br_FB, nn_p, and_true, true_and, and_self, true_or, or_true, not_true_eq_false, not_false_eq_true, le_T, le_F, lt_T, lt_F, eq_T, eq_F, Int.add_zero, Int.zero_add, Int.one_mul, Int.mul_one, up_eq, up_ne, Int.add_assoc, Int.add_sub_cancel, Int.sub_zero, Int.sub_self, S_226_0, S_226_1, S_226_2, S_226_3, S_226_5, S_226_8, S_226_9, S_226_10, S_226_11, S_226_14, S_226_15, S_226_16, S_226_17, S_226_18, S_226_21, S_226_22, S_226_23, S_226_24, H_122, m_makerOf, m_thingOf, hA1]))
  exact q
end MV
