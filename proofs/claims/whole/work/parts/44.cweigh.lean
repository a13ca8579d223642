/-! THE CLASS: an offer as it is weighed -/
theorem H_ov {b : Int} (h : 0 ≤ b ∧ b < 10) {X : hX} {s : sg} : gR (hp X s) 94 (ix (iI b)) = some (95 + b.toNat) ∧ (∀ {z : Int}, 0 ≤ z ∧ z < 22 → iaOK (hp X s) (95 + b.toNat) (iI z) = True) ∧ (∀ {z : Int}, 0 ≤ z ∧ z < 22 → isOK (hp X s) (95 + b.toNat) (iI z) = True) ∧ (∀ {z : Int}, 0 ≤ z ∧ z < 2147483648 → gM (hp X s) (95 + b.toNat) (ix (iI z)) = iI (s (95 + b.toNat) z)) ∧ (∀ {z v : Int}, 0 ≤ z ∧ z < 2147483648 → pM (hp X s) (95 + b.toNat) (ix (iI z)) (iI v) = hp X (u s (95 + b.toNat) (up (s (95 + b.toNat)) z v))) := by
  rw [ix_iI (by omega)]
  have e : b = 0 ∨ b = 1 ∨ b = 2 ∨ b = 3 ∨ b = 4 ∨ b = 5 ∨ b = 6 ∨ b = 7 ∨ b = 8 ∨ b = 9 := by omega
  rcases e with e | e | e | e | e | e | e | e | e | e <;> subst e
  · have q := ok_1 (h := hp X s) (k := 95) (n := 22) rfl (by decide); exact ⟨rfl, q.1, q.2.1, gA_hp ⟨rfl, by decide⟩, pA_hp ⟨rfl, by decide⟩⟩
  · have q := ok_1 (h := hp X s) (k := 96) (n := 22) rfl (by decide); exact ⟨rfl, q.1, q.2.1, gA_hp ⟨rfl, by decide⟩, pA_hp ⟨rfl, by decide⟩⟩
  · have q := ok_1 (h := hp X s) (k := 97) (n := 22) rfl (by decide); exact ⟨rfl, q.1, q.2.1, gA_hp ⟨rfl, by decide⟩, pA_hp ⟨rfl, by decide⟩⟩
  · have q := ok_1 (h := hp X s) (k := 98) (n := 22) rfl (by decide); exact ⟨rfl, q.1, q.2.1, gA_hp ⟨rfl, by decide⟩, pA_hp ⟨rfl, by decide⟩⟩
  · have q := ok_1 (h := hp X s) (k := 99) (n := 22) rfl (by decide); exact ⟨rfl, q.1, q.2.1, gA_hp ⟨rfl, by decide⟩, pA_hp ⟨rfl, by decide⟩⟩
  · have q := ok_1 (h := hp X s) (k := 100) (n := 22) rfl (by decide); exact ⟨rfl, q.1, q.2.1, gA_hp ⟨rfl, by decide⟩, pA_hp ⟨rfl, by decide⟩⟩
  · have q := ok_1 (h := hp X s) (k := 101) (n := 22) rfl (by decide); exact ⟨rfl, q.1, q.2.1, gA_hp ⟨rfl, by decide⟩, pA_hp ⟨rfl, by decide⟩⟩
  · have q := ok_1 (h := hp X s) (k := 102) (n := 22) rfl (by decide); exact ⟨rfl, q.1, q.2.1, gA_hp ⟨rfl, by decide⟩, pA_hp ⟨rfl, by decide⟩⟩
  · have q := ok_1 (h := hp X s) (k := 103) (n := 22) rfl (by decide); exact ⟨rfl, q.1, q.2.1, gA_hp ⟨rfl, by decide⟩, pA_hp ⟨rfl, by decide⟩⟩
  · have q := ok_1 (h := hp X s) (k := 104) (n := 22) rfl (by decide); exact ⟨rfl, q.1, q.2.1, gA_hp ⟨rfl, by decide⟩, pA_hp ⟨rfl, by decide⟩⟩
theorem nbeq {a b : Nat} (h : ¬ a = b) : Nat.beq a b = false := by
  cases e : Nat.beq a b with
  | false => rfl
  | true => exact absurd (Nat.eq_of_beq_eq_true e) h
theorem nin_ov {b : Int} (h : 0 ≤ b ∧ b < 10) {L : List Nat} (w : sub [95, 96, 97, 98, 99, 100, 101, 102, 103, 104] L = true) : nin (95 + b.toNat) L = false := by
  cases e : nin (95 + b.toNat) L with
  | false => rfl
  | true =>
    have q := nin_sub w _ e
    have c : b = 0 ∨ b = 1 ∨ b = 2 ∨ b = 3 ∨ b = 4 ∨ b = 5 ∨ b = 6 ∨ b = 7 ∨ b = 8 ∨ b = 9 := by omega
    rcases c with c | c | c | c | c | c | c | c | c | c <;> subst c <;> exact absurd q (by decide)
/-- the class's rows hold the offer o -/
def CO (A : Int → Int) (l : lawT) (o : Int) (s : sg) : Prop := s 88 o = oHours A l o (oNum A o) ∧ s 89 o = oPrice A l o (oNum A o) ∧ s 90 o = oCost A l o (oNum A o) ∧ s 91 o = oLoad A o (oNum A o) ∧ s 92 o = bZ (oLaw A l o (oNum A o)) ∧ s 93 o = A (180 + 13 * o) ∧ ∀ b, 0 ≤ b → b < A 2 → s (95 + b.toNat) o = oOver A l b o
def sameC (s s2 : sg) (p : Int) : Prop := s2 88 p = s 88 p ∧ s2 89 p = s 89 p ∧ s2 90 p = s 90 p ∧ s2 91 p = s 91 p ∧ s2 92 p = s 92 p ∧ s2 93 p = s 93 p ∧ ∀ b : Int, 0 ≤ b → b < 10 → s2 (95 + b.toNat) p = s (95 + b.toNat) p
theorem CO_same {A : Int → Int} {l : lawT} {o : Int} {s s2 : sg} (h2 : A 2 ≤ 10) (h : CO A l o s) (k : sameC s s2 o) : CO A l o s2 := by
  obtain ⟨a, b, c, d, e, g, f⟩ := h
  obtain ⟨a2, b2, c2, d2, e2, g2, f2⟩ := k
  exact ⟨a2.trans a, b2.trans b, c2.trans c, d2.trans d, e2.trans e, g2.trans g, fun z z0 z1 => (f2 z z0 (by omega)).trans (f z z0 z1)⟩
theorem cO_fr {L : List Nat} {s s2 : sg} {A : Int → Int} {o : Int} (f : Fr L s s2) (w : nin 56 L = true) (h : cO 0 s A o) : cO 0 s2 A o := cO_cg (f 56 w) h
section CW
variable {d : Nat} {X : hX} {s : sg} {Q : Option Value → aH → Prop} {b t w n o : Int} {A : Int → Int} {l : lawT}
theorem c_worthTo2 (hI : IC0 0 s A) (hc : curC s l) (hl : lawOK l) (W : WF0 A) (hO : WO A o) (cO1 : cO 0 s A o) (ho : 0 ≤ o ∧ o < 22) (hb : 0 ≤ b ∧ b < A 2) (k : ∀ s', Fr [85, 86] s s' → Q (some (.int (iI (oWorth A l b o (oNum A o))))) (hp X s')) : Wp (d + 4) 33 0 [.ref 87, .int (iI b), .int (iI o), .float 0, .float 0, .float 0, .float 0] [] (hp X s) Q := by
  have w2 := W.1.2.2.1
  have w0 := W.1.1
  have w3 := hO.2.2.1
  have loop : ∀ i s1, i ≤ A (180 + (13 * o + 2)) → (0 ≤ i ∧ Fr [85, 86] s s1) → ∀ v6, okO v6 = true → Wp (d + 4) 33 15 [.ref 87, .int (iI b), .int (iI o), .int (iI (A (180 + (13 * o + 2)))), .int (iI (oWorth A l b o i)), .int (iI i), v6] [] (hp X s1) Q := by
    refine lp ?_ ?_
    · intro i s1 hi ⟨h0, hf⟩ kk v6 o6
      have wi := hO.2.2.2 i h0 hi
      have wt := W.2.1 _ wi.1.1 wi.1.2
      have wi1 := wi.1
      have wi2 := wi.2.1
      have ci := cO1.2.2.2 i h0 hi
      have e56 := hf.g 56 rfl
      have q0 : s 56 (o * 12 + (3 + 3 * i)) = A (180 + (13 * o + (3 + 3 * i))) := ci.1
      have q1 : s 56 (o * 12 + (3 + (3 * i + 1))) = A (180 + (13 * o + (3 + (3 * i + 1)))) := ci.2.1
      have hI1 := IC0_fr hf rfl hI
      rw [S_33_15]
      repeat' (first | (with_reducible refine Br_i ?_ ?_ <;> (intro hbr; first | exact False.elim hbr | skip)) | (with_reducible refine Wl_i ?_) | (simp (disch := first | omega | exact okF _ | exact okI _ | exact okR _ | assumption | exact okN) only [u_at, iI_zero, iI_31, iI_add, iI_sub, iI_mul, iI_neg, ↓iI_max, ↓iI_min, iI_div, emod_f, iI_lt, iI_le, iI_inj, iI_toInt, ↓ii01, ↓ii11, ↓bI_b, bI_0, bI_1, Kt_s, Kt_n, cat0, cat1, cat2, cat3, cat4, rfV, Nat.reduceAdd, Nat.reduceMul, Nat.reduceEqDiff, Int.reduceAdd, Int.reduceSub, Int.reduceMul, Int.reduceNeg, Int.reduceLT, Int.reduceLE, Int.reduceEq, Int.reduceDiv, ↓reduceIte, ↓ite_ww, ↓ite_wi, Br_n, Br_TW, Br_FW, Br_FP, Br_FB, nn_p, and_true, true_and, and_self, true_or, or_true, not_true_eq_false, not_false_eq_true, le_T, le_F, lt_T, lt_F, eq_T, eq_F, Int.add_zero, Int.zero_add, Int.one_mul, Int.mul_one, up_eq, up_ne, Int.add_assoc, Int.add_sub_cancel, Int.sub_zero, Int.sub_self, S_33_0, S_33_1, S_33_4, S_33_5, S_33_8, S_33_9, S_33_10, S_33_12, S_33_13, S_33_17, S_33_18, S_33_21, S_33_22, S_33_25, S_33_26, S_33_28, S_33_29, S_33_32, S_33_34, S_33_36, S_33_37, S_33_40, S_33_41, S_33_43, S_33_44, S_33_47, S_33_48, S_33_50, S_33_51, S_33_54, S_33_55, S_33_58, S_33_59, S_33_61, S_33_64, S_33_67, S_33_69, H_87, H_48, H_84, c_part, e56, q0, q1]))
      refine c_worthTo (curC_fr hf rfl hc) hl (hI1.2.1 _ wi.1.1 wi.1.2).1 wt (W.2.2.2.1 _ hb.1 hb.2) (hI1.2.2.2.1 _ hb.1 hb.2) ?_ ?_
      · omega
      intro s2 f2
      have hs : oWorth A l b o (i + 1) = oWorth A l b o i + vWorth A l b (A (180 + (13 * o + (3 + 3 * i)))) (A (180 + (13 * o + (3 + (3 * i + 1))))) (A (180 + (13 * o + 2))) := sm_s h0
      have kk := kk s2 ⟨by omega, hf.tr f2⟩
      rw [hs] at kk
      repeat' (first | (with_reducible refine Br_i ?_ ?_ <;> (intro hbr; first | exact False.elim hbr | skip)) | (with_reducible refine Wl_i ?_) | (simp (disch := first | omega | exact okF _ | exact okI _ | exact okR _ | assumption | exact okN) only [u_at, iI_zero, iI_31, iI_add, iI_sub, iI_mul, iI_neg, ↓iI_max, ↓iI_min, iI_div, emod_f, iI_lt, iI_le, iI_inj, iI_toInt, ↓ii01, ↓ii11, ↓bI_b, bI_0, bI_1, Kt_s, Kt_n, cat0, cat1, cat2, cat3, cat4, rfV, Nat.reduceAdd, Nat.reduceMul, Nat.reduceEqDiff, Int.reduceAdd, Int.reduceSub, Int.reduceMul, Int.reduceNeg, Int.reduceLT, Int.reduceLE, Int.reduceEq, Int.reduceDiv, ↓reduceIte, ↓ite_ww, ↓ite_wi, Br_n, Br_TW, Br_FW, Br_FP, Br_FB, nn_p, and_true, true_and, and_self, true_or, or_true, not_true_eq_false, not_false_eq_true, le_T, le_F, lt_T, lt_F, eq_T, eq_F, Int.add_zero, Int.zero_add, Int.one_mul, Int.mul_one, up_eq, up_ne, Int.add_assoc, Int.add_sub_cancel, Int.sub_zero, Int.sub_self, S_33_0, S_33_1, S_33_4, S_33_5, S_33_8, S_33_9, S_33_10, S_33_12, S_33_13, S_33_17, S_33_18, S_33_21, S_33_22, S_33_25, S_33_26, S_33_28, S_33_29, S_33_32, S_33_34, S_33_36, S_33_37, S_33_40, S_33_41, S_33_43, S_33_44, S_33_47, S_33_48, S_33_50, S_33_51, S_33_54, S_33_55, S_33_58, S_33_59, S_33_61, S_33_64, S_33_67, S_33_69]))
      exact kk _ rfl
    · intro s1 ⟨h0, hf⟩ v6 o6
      repeat' (first | (with_reducible refine Br_i ?_ ?_ <;> (intro hbr; first | exact False.elim hbr | skip)) | (with_reducible refine Wl_i ?_) | (simp (disch := first | omega | exact okF _ | exact okI _ | exact okR _ | assumption | exact okN) only [u_at, iI_zero, iI_31, iI_add, iI_sub, iI_mul, iI_neg, ↓iI_max, ↓iI_min, iI_div, emod_f, iI_lt, iI_le, iI_inj, iI_toInt, ↓ii01, ↓ii11, ↓bI_b, bI_0, bI_1, Kt_s, Kt_n, cat0, cat1, cat2, cat3, cat4, rfV, Nat.reduceAdd, Nat.reduceMul, Nat.reduceEqDiff, Int.reduceAdd, Int.reduceSub, Int.reduceMul, Int.reduceNeg, Int.reduceLT, Int.reduceLE, Int.reduceEq, Int.reduceDiv, ↓reduceIte, ↓ite_ww, ↓ite_wi, Br_n, Br_TW, Br_FW, Br_FP, Br_FB, nn_p, and_true, true_and, and_self, true_or, or_true, not_true_eq_false, not_false_eq_true, le_T, le_F, lt_T, lt_F, eq_T, eq_F, Int.add_zero, Int.zero_add, Int.one_mul, Int.mul_one, up_eq, up_ne, Int.add_assoc, Int.add_sub_cancel, Int.sub_zero, Int.sub_self, S_33_0, S_33_1, S_33_4, S_33_5, S_33_8, S_33_9, S_33_10, S_33_12, S_33_13, S_33_15, S_33_17, S_33_18, S_33_21, S_33_22, S_33_25, S_33_26, S_33_28, S_33_29, S_33_32, S_33_34, S_33_36, S_33_37, S_33_40, S_33_41, S_33_43, S_33_44, S_33_47, S_33_48, S_33_50, S_33_51, S_33_54, S_33_55, S_33_58, S_33_59, S_33_61, S_33_64, S_33_67, S_33_69]))
      exact k s1 hf
  have l0 := loop 0 s (by omega) ⟨by omega, Fr.rf s⟩ (.float 0) rfl
  have e0 : oWorth A l b o 0 = 0 := sm_0 _
  have q2 : s 56 (o * 12 + 2) = A (180 + (13 * o + 2)) := cO1.2.2.1
  rw [e0] at l0
  repeat' (first | (with_reducible refine Br_i ?_ ?_ <;> (intro hbr; first | exact False.elim hbr | skip)) | (with_reducible refine Wl_i ?_) | (simp (disch := first | omega | exact okF _ | exact okI _ | exact okR _ | assumption | exact okN) only [u_at, iI_zero, iI_31, iI_add, iI_sub, iI_mul, iI_neg, ↓iI_max, ↓iI_min, iI_div, emod_f, iI_lt, iI_le, iI_inj, iI_toInt, ↓ii01, ↓ii11, ↓bI_b, bI_0, bI_1, Kt_s, Kt_n, cat0, cat1, cat2, cat3, cat4, rfV, Nat.reduceAdd, Nat.reduceMul, Nat.reduceEqDiff, Int.reduceAdd, Int.reduceSub, Int.reduceMul, Int.reduceNeg, Int.reduceLT, Int.reduceLE, Int.reduceEq, Int.reduceDiv, ↓reduceIte, ↓ite_ww, ↓ite_wi, Br_n, Br_TW, Br_FW, Br_FP, Br_FB, nn_p, and_true, true_and, and_self, true_or, or_true, not_true_eq_false, not_false_eq_true, le_T, le_F, lt_T, lt_F, eq_T, eq_F, Int.add_zero, Int.zero_add, Int.one_mul, Int.mul_one, up_eq, up_ne, Int.add_assoc, Int.add_sub_cancel, Int.sub_zero, Int.sub_self, S_33_0, S_33_1, S_33_4, S_33_5, S_33_8, S_33_9, S_33_10, S_33_12, S_33_13, S_33_17, S_33_18, S_33_21, S_33_22, S_33_25, S_33_26, S_33_28, S_33_29, S_33_32, S_33_34, S_33_36, S_33_37, S_33_40, S_33_41, S_33_43, S_33_44, S_33_47, S_33_48, S_33_50, S_33_51, S_33_54, S_33_55, S_33_58, S_33_59, S_33_61, S_33_64, S_33_67, S_33_69, H_87, H_48, c_items, q2]))
  exact l0
theorem c_measure (hI : IC0 0 s A) (hc : curC s l) (hl : lawOK l) (W : WF0 A) (hO : WO A o) (cO1 : cO 0 s A o) (ho : 0 ≤ o ∧ o < 22) (k : ∀ s', Fr [85, 86, 88, 89, 90, 91, 92, 93] s s' → s' 88 = up (s 88) o (oHours A l o (oNum A o)) → s' 89 = up (s 89) o (oPrice A l o (oNum A o)) → s' 90 = up (s 90) o (oCost A l o (oNum A o)) → s' 91 = up (s 91) o (oLoad A o (oNum A o)) → s' 92 = up (s 92) o (bZ (oLaw A l o (oNum A o))) → s' 93 = up (s 93) o (A (180 + 13 * o)) → Q none (hp X s')) : Wp (d + 4) 31 0 [.ref 87, .int (iI o), .float 0, .float 0, .float 0, .float 0, .float 0, .float 0, .float 0, .float 0, .float 0, .float 0] [] (hp X s) Q := by
  have w2 := W.1.2.2.1
  have w0 := W.1.1
  have w1 := W.1.2.1
  have wO0 := hO.1
  have wO1 := hO.2.1
  have w3 := hO.2.2.1
  have pc := W.2.2.2.2.1 _ wO1.1 wO1.2
  have wk := W.2.2.1 _ wO0.1 wO0.2
  have p0 : s 56 (o * 12) = A (180 + 13 * o) := cO1.1
  have p1 : s 56 (o * 12 + 1) = A (180 + (13 * o + 1)) := cO1.2.1
  have p2 : s 56 (o * 12 + 2) = A (180 + (13 * o + 2)) := cO1.2.2.1
  have p3 : s 59 (A (180 + (13 * o + 1))) = A (170 + A (180 + (13 * o + 1))) := hI.2.2.2.2.2 _ wO1.1 wO1.2
  have p4 : s 52 (A (180 + 13 * o) * 4 + 2) = A (60 + (5 * (A (180 + 13 * o)) + 2)) := (hI.2.2.1 _ wO0.1 wO0.2).2.2
  have loop : ∀ i s1, i ≤ A (180 + (13 * o + 2)) → (0 ≤ i ∧ Fr [85, 86, 88, 89, 90, 91, 92, 93] s s1 ∧ s1 88 = up (s 88) o (oHours A l o i) ∧ s1 89 = up (s 89) o (oPrice A l o i) ∧ s1 90 = up (s 90) o (oCost A l o i) ∧ s1 91 = up (s 91) o (oLoad A o i) ∧ s1 92 = up (s 92) o (bZ (oLaw A l o i)) ∧ s1 93 = up (s 93) o (A (180 + 13 * o))) → ∀ v7 v8 v9 v10 v11, okO v7 = true → okO v8 = true → okO v9 = true → okO v10 = true → okO v11 = true → Wp (d + 4) 31 111 [.ref 87, .int (iI o), .int (iI (A (180 + (13 * o + 2)))), .int (iI (A (180 + 13 * o))), .int (iI (A (170 + A (180 + (13 * o + 1))))), .int (iI (A (60 + (5 * (A (180 + 13 * o)) + 2)))), .int (iI i), v7, v8, v9, v10, v11] [] (hp X s1) Q := by
    refine lp ?_ ?_
    · intro i s1 hi ⟨h0, hf, g1, g2, g3, g4, g5, g6⟩ kk v7 v8 v9 v10 v11 o7 o8 o9 o10 o11
      have wi := hO.2.2.2 i h0 hi
      have wt := W.2.1 _ wi.1.1 wi.1.2
      have wi1 := wi.1
      have wi2 := wi.2
      have ci := cO1.2.2.2 i h0 hi
      have e56 := hf.g 56 rfl
      have e50 := hf.g 50 rfl
      have q0 : s 56 (o * 12 + (3 + 3 * i)) = A (180 + (13 * o + (3 + 3 * i))) := ci.1
      have q1 : s 56 (o * 12 + (3 + (3 * i + 1))) = A (180 + (13 * o + (3 + (3 * i + 1)))) := ci.2.1
      have q2 : s 56 (o * 12 + (3 + (3 * i + 2))) = A (180 + (13 * o + (3 + (3 * i + 2)))) := ci.2.2
      have ct := hI.2.1 _ wi.1.1 wi.1.2
      have t0 : s 50 (A (180 + (13 * o + (3 + 3 * i))) * 4) = A (10 + 4 * (A (180 + (13 * o + (3 + 3 * i))))) := ct.1
      have t3 : s 50 (A (180 + (13 * o + (3 + 3 * i))) * 4 + 3) = A (10 + (4 * (A (180 + (13 * o + (3 + 3 * i)))) + 3)) := ct.2.2.2
      have wg := wghd_r W hO ⟨h0, hi⟩
      have wdef : (A (180 + (13 * o + (3 + (3 * i + 1)))) + A (180 + (13 * o + (3 + (3 * i + 2))))) * A (170 + A (180 + (13 * o + 1))) / 100 = wghd A o i := rfl
      have r1 := (oHours_r (l := l) hO (j := i) (by omega)).1
      have r2 := oPrice_r (l := l) W hO (j := i) (by omega)
      have r3 := oCost_r (l := l) W hO (j := i) (by omega)
      have r4 := oLoad_r hO (j := i) (by omega)
      have b2 := vHours_r (A := A) (l := l) (t := A (180 + (13 * o + (3 + 3 * i)))) (w := A (180 + (13 * o + (3 + (3 * i + 1))))) (n := A (180 + (13 * o + 2))) (by omega)
      have hcs := curC_fr hf rfl hc
      rw [S_31_111]
      repeat' (first | (with_reducible refine Br_i ?_ ?_ <;> (intro hbr; first | exact False.elim hbr | skip)) | (with_reducible refine Wl_i ?_) | (simp (disch := first | omega | exact okF _ | exact okI _ | exact okR _ | assumption | exact okN) only [u_at, iI_zero, iI_31, iI_add, iI_sub, iI_mul, iI_neg, ↓iI_max, ↓iI_min, iI_div, emod_f, iI_lt, iI_le, iI_inj, iI_toInt, ↓ii01, ↓ii11, ↓bI_b, bI_0, bI_1, Kt_s, Kt_n, cat0, cat1, cat2, cat3, cat4, rfV, Nat.reduceAdd, Nat.reduceMul, Nat.reduceEqDiff, Int.reduceAdd, Int.reduceSub, Int.reduceMul, Int.reduceNeg, Int.reduceLT, Int.reduceLE, Int.reduceEq, Int.reduceDiv, ↓reduceIte, ↓ite_ww, ↓ite_wi, Br_n, Br_TW, Br_FW, Br_FP, Br_FB, nn_p, and_true, true_and, and_self, true_or, or_true, not_true_eq_false, not_false_eq_true, le_T, le_F, lt_T, lt_F, eq_T, eq_F, Int.add_zero, Int.zero_add, Int.one_mul, Int.mul_one, up_eq, up_ne, Int.add_assoc, Int.add_sub_cancel, Int.sub_zero, Int.sub_self, S_31_0, S_31_1, S_31_2, S_31_5, S_31_8, S_31_9, S_31_10, S_31_13, S_31_14, S_31_17, S_31_18, S_31_19, S_31_22, S_31_25, S_31_26, S_31_27, S_31_30, S_31_31, S_31_32, S_31_35, S_31_36, S_31_39, S_31_42, S_31_43, S_31_44, S_31_47, S_31_50, S_31_52, S_31_53, S_31_56, S_31_59, S_31_60, S_31_61, S_31_64, S_31_66, S_31_67, S_31_70, S_31_71, S_31_72, S_31_73, S_31_74, S_31_77, S_31_78, S_31_79, S_31_80, S_31_81, S_31_84, S_31_85, S_31_86, S_31_87, S_31_88, S_31_91, S_31_92, S_31_93, S_31_94, S_31_95, S_31_98, S_31_99, S_31_100, S_31_101, S_31_102, S_31_105, S_31_106, S_31_107, S_31_108, S_31_109, S_31_113, S_31_114, S_31_117, S_31_118, S_31_121, S_31_122, S_31_124, S_31_125, S_31_128, S_31_130, S_31_131, S_31_134, S_31_135, S_31_137, S_31_138, S_31_141, S_31_143, S_31_145, S_31_146, S_31_149, S_31_150, S_31_152, S_31_153, S_31_156, S_31_157, S_31_159, S_31_161, S_31_163, S_31_164, S_31_166, S_31_167, S_31_169, S_31_170, S_31_173, S_31_175, S_31_177, S_31_178, S_31_181, S_31_183, S_31_184, S_31_187, S_31_188, S_31_189, S_31_190, S_31_192, S_31_193, S_31_194, S_31_195, S_31_198, S_31_199, S_31_200, S_31_201, S_31_202, S_31_205, S_31_207, S_31_209, S_31_210, S_31_213, S_31_214, S_31_215, S_31_216, S_31_219, S_31_220, S_31_221, S_31_222, S_31_224, S_31_226, S_31_227, S_31_228, S_31_231, S_31_234, S_31_236, S_31_237, S_31_240, S_31_242, S_31_243, S_31_244, S_31_245, S_31_246, S_31_247, S_31_250, S_31_251, S_31_252, S_31_253, S_31_255, S_31_256, S_31_257, S_31_258, S_31_261, S_31_263, S_31_265, S_31_266, S_31_269, S_31_272, S_31_273, S_31_276, S_31_277, S_31_278, S_31_279, S_31_282, S_31_285, H_87, H_48, H_84, c_part, e56, q0, q1, q2, wdef]))
      refine c_hoursOf hcs hl (by rw [e50]; exact t0) wt (by omega) ?_
      intro s2 f2
      have hf2 := hf.to f2 rfl
      have e1 := (f2.g 88 rfl).trans g1
      have e2 := (f2.g 89 rfl).trans g2
      repeat' (first | (with_reducible refine Br_i ?_ ?_ <;> (intro hbr; first | exact False.elim hbr | skip)) | (with_reducible refine Wl_i ?_) | (simp (disch := first | omega | exact okF _ | exact okI _ | exact okR _ | assumption | exact okN) only [u_at, iI_zero, iI_31, iI_add, iI_sub, iI_mul, iI_neg, ↓iI_max, ↓iI_min, iI_div, emod_f, iI_lt, iI_le, iI_inj, iI_toInt, ↓ii01, ↓ii11, ↓bI_b, bI_0, bI_1, Kt_s, Kt_n, cat0, cat1, cat2, cat3, cat4, rfV, Nat.reduceAdd, Nat.reduceMul, Nat.reduceEqDiff, Int.reduceAdd, Int.reduceSub, Int.reduceMul, Int.reduceNeg, Int.reduceLT, Int.reduceLE, Int.reduceEq, Int.reduceDiv, ↓reduceIte, ↓ite_ww, ↓ite_wi, Br_n, Br_TW, Br_FW, Br_FP, Br_FB, nn_p, and_true, true_and, and_self, true_or, or_true, not_true_eq_false, not_false_eq_true, le_T, le_F, lt_T, lt_F, eq_T, eq_F, Int.add_zero, Int.zero_add, Int.one_mul, Int.mul_one, up_eq, up_ne, Int.add_assoc, Int.add_sub_cancel, Int.sub_zero, Int.sub_self, S_31_0, S_31_1, S_31_2, S_31_5, S_31_8, S_31_9, S_31_10, S_31_13, S_31_14, S_31_17, S_31_18, S_31_19, S_31_22, S_31_25, S_31_26, S_31_27, S_31_30, S_31_31, S_31_32, S_31_35, S_31_36, S_31_39, S_31_42, S_31_43, S_31_44, S_31_47, S_31_50, S_31_52, S_31_53, S_31_56, S_31_59, S_31_60, S_31_61, S_31_64, S_31_66, S_31_67, S_31_70, S_31_71, S_31_72, S_31_73, S_31_74, S_31_77, S_31_78, S_31_79, S_31_80, S_31_81, S_31_84, S_31_85, S_31_86, S_31_87, S_31_88, S_31_91, S_31_92, S_31_93, S_31_94, S_31_95, S_31_98, S_31_99, S_31_100, S_31_101, S_31_102, S_31_105, S_31_106, S_31_107, S_31_108, S_31_109, S_31_113, S_31_114, S_31_117, S_31_118, S_31_121, S_31_122, S_31_124, S_31_125, S_31_128, S_31_130, S_31_131, S_31_134, S_31_135, S_31_137, S_31_138, S_31_141, S_31_143, S_31_145, S_31_146, S_31_149, S_31_150, S_31_152, S_31_153, S_31_156, S_31_157, S_31_159, S_31_161, S_31_163, S_31_164, S_31_166, S_31_167, S_31_169, S_31_170, S_31_173, S_31_175, S_31_177, S_31_178, S_31_181, S_31_183, S_31_184, S_31_187, S_31_188, S_31_189, S_31_190, S_31_192, S_31_193, S_31_194, S_31_195, S_31_198, S_31_199, S_31_200, S_31_201, S_31_202, S_31_205, S_31_207, S_31_209, S_31_210, S_31_213, S_31_214, S_31_215, S_31_216, S_31_219, S_31_220, S_31_221, S_31_222, S_31_224, S_31_226, S_31_227, S_31_228, S_31_231, S_31_234, S_31_236, S_31_237, S_31_240, S_31_242, S_31_243, S_31_244, S_31_245, S_31_246, S_31_247, S_31_250, S_31_251, S_31_252, S_31_253, S_31_255, S_31_256, S_31_257, S_31_258, S_31_261, S_31_263, S_31_265, S_31_266, S_31_269, S_31_272, S_31_273, S_31_276, S_31_277, S_31_278, S_31_279, S_31_282, S_31_285, H_87, H_48, H_84, H_88, H_89, e1, e2]))
      generalize es2 : u s2 88 _ = t2
      have ft2 : Fr [85, 86, 88] s1 t2 := by rw [← es2]; exact (f2.up (L2 := [85, 86, 88]) rfl).u (K := 88) rfl
      have h88 : t2 88 = up (s 88) o (oHours A l o (i + 1)) := by
        rw [← es2, u_eq]
        show _ = up (s 88) o (oHours A l o (i + 1))
        rw [show oHours A l o (i + 1) = _ from sm_s h0]
        funext z
        simp only [up_at]
        split <;> rfl
      have hft2 := hf.to ft2 rfl
      refine c_priceOf (s := t2) (curC_fr ft2 rfl hcs) hl (by rw [hft2.g 50 rfl]; exact t0) wt (by omega) ?_
      intro s3 f3
      have hft3 := hft2.to f3 rfl
      have e50 := hft3.g 50 rfl
      have e2 := ((f3.g 89 rfl).trans (ft2.g 89 rfl)).trans g2
      have e3 := ((f3.g 90 rfl).trans (ft2.g 90 rfl)).trans g3
      have e4 := ((f3.g 91 rfl).trans (ft2.g 91 rfl)).trans g4
      have e5 := ((f3.g 92 rfl).trans (ft2.g 92 rfl)).trans g5
      have c0 : up (up (s 89) o (oPrice A l o i)) o (oPrice A l o i + vPrice A l (A (180 + (13 * o + (3 + 3 * i)))) (wghd A o i) (A (180 + (13 * o + 2)))) = up (s 89) o (oPrice A l o (i + 1)) := by
        rw [show oPrice A l o (i + 1) = _ from sm_s h0]
        funext z
        simp only [up_at]
        split <;> rfl
      have c1 : up (up (s 90) o (oCost A l o i)) o (oCost A l o i + (vHours A l (A (180 + (13 * o + (3 + 3 * i)))) (A (180 + (13 * o + (3 + (3 * i + 1))))) (A (180 + (13 * o + 2))) * A (60 + (5 * (A (180 + 13 * o)) + 2)) + A (10 + (4 * (A (180 + (13 * o + (3 + 3 * i)))) + 3)) * A (180 + (13 * o + (3 + (3 * i + 1)))))) = up (s 90) o (oCost A l o (i + 1)) := by
        rw [show oCost A l o (i + 1) = _ from sm_s h0]
        funext z
        simp only [up_at]
        split <;> rfl
      have c2 : up (up (s 91) o (oLoad A o i)) o (oLoad A o i + (A (180 + (13 * o + (3 + (3 * i + 1)))) + A (180 + (13 * o + (3 + (3 * i + 2)))))) = up (s 91) o (oLoad A o (i + 1)) := by
        rw [show oLoad A o (i + 1) = _ from sm_s h0]
        funext z
        simp only [up_at]
        split <;> rfl
      have c3 : ∀ a b : Int, up (up (s 92) o a) o b = up (s 92) o b := by
        intro a b
        funext z
        simp only [up_at]
        split <;> rfl
      repeat' (first | (with_reducible refine Br_i ?_ ?_ <;> (intro hbr; first | exact False.elim hbr | skip)) | (with_reducible refine Wl_i ?_) | (simp (disch := first | omega | exact okF _ | exact okI _ | exact okR _ | assumption | exact okN) only [u_at, iI_zero, iI_31, iI_add, iI_sub, iI_mul, iI_neg, ↓iI_max, ↓iI_min, iI_div, emod_f, iI_lt, iI_le, iI_inj, iI_toInt, ↓ii01, ↓ii11, ↓bI_b, bI_0, bI_1, Kt_s, Kt_n, cat0, cat1, cat2, cat3, cat4, rfV, Nat.reduceAdd, Nat.reduceMul, Nat.reduceEqDiff, Int.reduceAdd, Int.reduceSub, Int.reduceMul, Int.reduceNeg, Int.reduceLT, Int.reduceLE, Int.reduceEq, Int.reduceDiv, ↓reduceIte, ↓ite_ww, ↓ite_wi, Br_n, Br_TW, Br_FW, Br_FP, Br_FB, nn_p, and_true, true_and, and_self, true_or, or_true, not_true_eq_false, not_false_eq_true, le_T, le_F, lt_T, lt_F, eq_T, eq_F, Int.add_zero, Int.zero_add, Int.one_mul, Int.mul_one, up_eq, up_ne, Int.add_assoc, Int.add_sub_cancel, Int.sub_zero, Int.sub_self, S_31_0, S_31_1, S_31_2, S_31_5, S_31_8, S_31_9, S_31_10, S_31_13, S_31_14, S_31_17, S_31_18, S_31_19, S_31_22, S_31_25, S_31_26, S_31_27, S_31_30, S_31_31, S_31_32, S_31_35, S_31_36, S_31_39, S_31_42, S_31_43, S_31_44, S_31_47, S_31_50, S_31_52, S_31_53, S_31_56, S_31_59, S_31_60, S_31_61, S_31_64, S_31_66, S_31_67, S_31_70, S_31_71, S_31_72, S_31_73, S_31_74, S_31_77, S_31_78, S_31_79, S_31_80, S_31_81, S_31_84, S_31_85, S_31_86, S_31_87, S_31_88, S_31_91, S_31_92, S_31_93, S_31_94, S_31_95, S_31_98, S_31_99, S_31_100, S_31_101, S_31_102, S_31_105, S_31_106, S_31_107, S_31_108, S_31_109, S_31_113, S_31_114, S_31_117, S_31_118, S_31_121, S_31_122, S_31_124, S_31_125, S_31_128, S_31_130, S_31_131, S_31_134, S_31_135, S_31_137, S_31_138, S_31_141, S_31_143, S_31_145, S_31_146, S_31_149, S_31_150, S_31_152, S_31_153, S_31_156, S_31_157, S_31_159, S_31_161, S_31_163, S_31_164, S_31_166, S_31_167, S_31_169, S_31_170, S_31_173, S_31_175, S_31_177, S_31_178, S_31_181, S_31_183, S_31_184, S_31_187, S_31_188, S_31_189, S_31_190, S_31_192, S_31_193, S_31_194, S_31_195, S_31_198, S_31_199, S_31_200, S_31_201, S_31_202, S_31_205, S_31_207, S_31_209, S_31_210, S_31_213, S_31_214, S_31_215, S_31_216, S_31_219, S_31_220, S_31_221, S_31_222, S_31_224, S_31_226, S_31_227, S_31_228, S_31_231, S_31_234, S_31_236, S_31_237, S_31_240, S_31_242, S_31_243, S_31_244, S_31_245, S_31_246, S_31_247, S_31_250, S_31_251, S_31_252, S_31_253, S_31_255, S_31_256, S_31_257, S_31_258, S_31_261, S_31_263, S_31_265, S_31_266, S_31_269, S_31_272, S_31_273, S_31_276, S_31_277, S_31_278, S_31_279, S_31_282, S_31_285, H_87, H_48, H_49, H_84, H_89, H_90, H_91, c_at_49, e50, t3, e2, e3, e4, c0, c1, c2]))
      generalize es4 : u (u (u s3 89 _) 90 _) 91 _ = t4
      have ft4 : Fr [85, 86, 88, 89, 90, 91, 92, 93] s t4 := by rw [← es4]; exact ((hft3.u (K := 89) rfl).u (K := 90) rfl).u (K := 91) rfl
      have k1 : t4 88 = up (s 88) o (oHours A l o (i + 1)) := by rw [← es4, ← h88, ← f3.g 88 rfl]; rfl
      have k2 : t4 89 = up (s 89) o (oPrice A l o (i + 1)) := by rw [← es4]; rfl
      have k3 : t4 90 = up (s 90) o (oCost A l o (i + 1)) := by rw [← es4]; rfl
      have k4 : t4 91 = up (s 91) o (oLoad A o (i + 1)) := by rw [← es4]; rfl
      have k5 : t4 92 = up (s 92) o (bZ (oLaw A l o i)) := by rw [← es4]; exact e5
      have k6 : t4 93 = up (s 93) o (A (180 + 13 * o)) := by rw [← es4, ← g6, ← ft2.g 93 rfl, ← f3.g 93 rfl]; rfl
      refine c_isBarred (s := t4) (curC_fr ft4 rfl hc) hl (by rw [ft4.g 50 rfl]; exact t0) wt (by omega) ?_
      intro s5 f5
      have k5' := (f5.g 92 rfl).trans k5
      have ft5 := ft4.to f5 rfl
      by_cases hB : vBars A l (A (180 + (13 * o + (3 + 3 * i)))) (wghd A o i) (A (180 + (13 * o + 2)))
      · rw [bZ_T hB]
        repeat' (first | (with_reducible refine Br_i ?_ ?_ <;> (intro hbr; first | exact False.elim hbr | skip)) | (with_reducible refine Wl_i ?_) | (simp (disch := first | omega | exact okF _ | exact okI _ | exact okR _ | assumption | exact okN) only [u_at, iI_zero, iI_31, iI_add, iI_sub, iI_mul, iI_neg, ↓iI_max, ↓iI_min, iI_div, emod_f, iI_lt, iI_le, iI_inj, iI_toInt, ↓ii01, ↓ii11, ↓bI_b, bI_0, bI_1, Kt_s, Kt_n, cat0, cat1, cat2, cat3, cat4, rfV, Nat.reduceAdd, Nat.reduceMul, Nat.reduceEqDiff, Int.reduceAdd, Int.reduceSub, Int.reduceMul, Int.reduceNeg, Int.reduceLT, Int.reduceLE, Int.reduceEq, Int.reduceDiv, ↓reduceIte, ↓ite_ww, ↓ite_wi, Br_n, Br_TW, Br_FW, Br_FP, Br_FB, nn_p, and_true, true_and, and_self, true_or, or_true, not_true_eq_false, not_false_eq_true, le_T, le_F, lt_T, lt_F, eq_T, eq_F, Int.add_zero, Int.zero_add, Int.one_mul, Int.mul_one, up_eq, up_ne, Int.add_assoc, Int.add_sub_cancel, Int.sub_zero, Int.sub_self, S_31_0, S_31_1, S_31_2, S_31_5, S_31_8, S_31_9, S_31_10, S_31_13, S_31_14, S_31_17, S_31_18, S_31_19, S_31_22, S_31_25, S_31_26, S_31_27, S_31_30, S_31_31, S_31_32, S_31_35, S_31_36, S_31_39, S_31_42, S_31_43, S_31_44, S_31_47, S_31_50, S_31_52, S_31_53, S_31_56, S_31_59, S_31_60, S_31_61, S_31_64, S_31_66, S_31_67, S_31_70, S_31_71, S_31_72, S_31_73, S_31_74, S_31_77, S_31_78, S_31_79, S_31_80, S_31_81, S_31_84, S_31_85, S_31_86, S_31_87, S_31_88, S_31_91, S_31_92, S_31_93, S_31_94, S_31_95, S_31_98, S_31_99, S_31_100, S_31_101, S_31_102, S_31_105, S_31_106, S_31_107, S_31_108, S_31_109, S_31_113, S_31_114, S_31_117, S_31_118, S_31_121, S_31_122, S_31_124, S_31_125, S_31_128, S_31_130, S_31_131, S_31_134, S_31_135, S_31_137, S_31_138, S_31_141, S_31_143, S_31_145, S_31_146, S_31_149, S_31_150, S_31_152, S_31_153, S_31_156, S_31_157, S_31_159, S_31_161, S_31_163, S_31_164, S_31_166, S_31_167, S_31_169, S_31_170, S_31_173, S_31_175, S_31_177, S_31_178, S_31_181, S_31_183, S_31_184, S_31_187, S_31_188, S_31_189, S_31_190, S_31_192, S_31_193, S_31_194, S_31_195, S_31_198, S_31_199, S_31_200, S_31_201, S_31_202, S_31_205, S_31_207, S_31_209, S_31_210, S_31_213, S_31_214, S_31_215, S_31_216, S_31_219, S_31_220, S_31_221, S_31_222, S_31_224, S_31_226, S_31_227, S_31_228, S_31_231, S_31_234, S_31_236, S_31_237, S_31_240, S_31_242, S_31_243, S_31_244, S_31_245, S_31_246, S_31_247, S_31_250, S_31_251, S_31_252, S_31_253, S_31_255, S_31_256, S_31_257, S_31_258, S_31_261, S_31_263, S_31_265, S_31_266, S_31_269, S_31_272, S_31_273, S_31_276, S_31_277, S_31_278, S_31_279, S_31_282, S_31_285, H_87, H_92, k5', c3]))
        refine kk (u s5 92 (up (s 92) o 0)) ⟨by omega, ft5.u rfl, (f5.g 88 rfl).trans k1, (f5.g 89 rfl).trans k2, (f5.g 90 rfl).trans k3, (f5.g 91 rfl).trans k4, ?_, (f5.g 93 rfl).trans k6⟩ _ _ _ _ _ rfl rfl rfl rfl rfl
        rw [u_eq, bZ_F (fun q => (((oLaw_s h0).mp q).2) hB)]
      · rw [bZ_F hB]
        repeat' (first | (with_reducible refine Br_i ?_ ?_ <;> (intro hbr; first | exact False.elim hbr | skip)) | (with_reducible refine Wl_i ?_) | (simp (disch := first | omega | exact okF _ | exact okI _ | exact okR _ | assumption | exact okN) only [u_at, iI_zero, iI_31, iI_add, iI_sub, iI_mul, iI_neg, ↓iI_max, ↓iI_min, iI_div, emod_f, iI_lt, iI_le, iI_inj, iI_toInt, ↓ii01, ↓ii11, ↓bI_b, bI_0, bI_1, Kt_s, Kt_n, cat0, cat1, cat2, cat3, cat4, rfV, Nat.reduceAdd, Nat.reduceMul, Nat.reduceEqDiff, Int.reduceAdd, Int.reduceSub, Int.reduceMul, Int.reduceNeg, Int.reduceLT, Int.reduceLE, Int.reduceEq, Int.reduceDiv, ↓reduceIte, ↓ite_ww, ↓ite_wi, Br_n, Br_TW, Br_FW, Br_FP, Br_FB, nn_p, and_true, true_and, and_self, true_or, or_true, not_true_eq_false, not_false_eq_true, le_T, le_F, lt_T, lt_F, eq_T, eq_F, Int.add_zero, Int.zero_add, Int.one_mul, Int.mul_one, up_eq, up_ne, Int.add_assoc, Int.add_sub_cancel, Int.sub_zero, Int.sub_self, S_31_0, S_31_1, S_31_2, S_31_5, S_31_8, S_31_9, S_31_10, S_31_13, S_31_14, S_31_17, S_31_18, S_31_19, S_31_22, S_31_25, S_31_26, S_31_27, S_31_30, S_31_31, S_31_32, S_31_35, S_31_36, S_31_39, S_31_42, S_31_43, S_31_44, S_31_47, S_31_50, S_31_52, S_31_53, S_31_56, S_31_59, S_31_60, S_31_61, S_31_64, S_31_66, S_31_67, S_31_70, S_31_71, S_31_72, S_31_73, S_31_74, S_31_77, S_31_78, S_31_79, S_31_80, S_31_81, S_31_84, S_31_85, S_31_86, S_31_87, S_31_88, S_31_91, S_31_92, S_31_93, S_31_94, S_31_95, S_31_98, S_31_99, S_31_100, S_31_101, S_31_102, S_31_105, S_31_106, S_31_107, S_31_108, S_31_109, S_31_113, S_31_114, S_31_117, S_31_118, S_31_121, S_31_122, S_31_124, S_31_125, S_31_128, S_31_130, S_31_131, S_31_134, S_31_135, S_31_137, S_31_138, S_31_141, S_31_143, S_31_145, S_31_146, S_31_149, S_31_150, S_31_152, S_31_153, S_31_156, S_31_157, S_31_159, S_31_161, S_31_163, S_31_164, S_31_166, S_31_167, S_31_169, S_31_170, S_31_173, S_31_175, S_31_177, S_31_178, S_31_181, S_31_183, S_31_184, S_31_187, S_31_188, S_31_189, S_31_190, S_31_192, S_31_193, S_31_194, S_31_195, S_31_198, S_31_199, S_31_200, S_31_201, S_31_202, S_31_205, S_31_207, S_31_209, S_31_210, S_31_213, S_31_214, S_31_215, S_31_216, S_31_219, S_31_220, S_31_221, S_31_222, S_31_224, S_31_226, S_31_227, S_31_228, S_31_231, S_31_234, S_31_236, S_31_237, S_31_240, S_31_242, S_31_243, S_31_244, S_31_245, S_31_246, S_31_247, S_31_250, S_31_251, S_31_252, S_31_253, S_31_255, S_31_256, S_31_257, S_31_258, S_31_261, S_31_263, S_31_265, S_31_266, S_31_269, S_31_272, S_31_273, S_31_276, S_31_277, S_31_278, S_31_279, S_31_282, S_31_285, H_87, H_92, k5', c3]))
        refine kk _ ⟨by omega, ft5, (f5.g 88 rfl).trans k1, (f5.g 89 rfl).trans k2, (f5.g 90 rfl).trans k3, (f5.g 91 rfl).trans k4, ?_, (f5.g 93 rfl).trans k6⟩ _ _ _ _ _ rfl rfl rfl rfl rfl
        rw [k5']
        by_cases hL : oLaw A l o i
        · rw [bZ_T hL, bZ_T ((oLaw_s h0).mpr ⟨hL, hB⟩)]
        · rw [bZ_F hL, bZ_F (fun q => hL ((oLaw_s h0).mp q).1)]
    · intro s1 ⟨h0, hf, g1, g2, g3, g4, g5, g6⟩ v7 v8 v9 v10 v11 o7 o8 o9 o10 o11
      repeat' (first | (with_reducible refine Br_i ?_ ?_ <;> (intro hbr; first | exact False.elim hbr | skip)) | (with_reducible refine Wl_i ?_) | (simp (disch := first | omega | exact okF _ | exact okI _ | exact okR _ | assumption | exact okN) only [u_at, iI_zero, iI_31, iI_add, iI_sub, iI_mul, iI_neg, ↓iI_max, ↓iI_min, iI_div, emod_f, iI_lt, iI_le, iI_inj, iI_toInt, ↓ii01, ↓ii11, ↓bI_b, bI_0, bI_1, Kt_s, Kt_n, cat0, cat1, cat2, cat3, cat4, rfV, Nat.reduceAdd, Nat.reduceMul, Nat.reduceEqDiff, Int.reduceAdd, Int.reduceSub, Int.reduceMul, Int.reduceNeg, Int.reduceLT, Int.reduceLE, Int.reduceEq, Int.reduceDiv, ↓reduceIte, ↓ite_ww, ↓ite_wi, Br_n, Br_TW, Br_FW, Br_FP, Br_FB, nn_p, and_true, true_and, and_self, true_or, or_true, not_true_eq_false, not_false_eq_true, le_T, le_F, lt_T, lt_F, eq_T, eq_F, Int.add_zero, Int.zero_add, Int.one_mul, Int.mul_one, up_eq, up_ne, Int.add_assoc, Int.add_sub_cancel, Int.sub_zero, Int.sub_self, S_31_0, S_31_1, S_31_2, S_31_5, S_31_8, S_31_9, S_31_10, S_31_13, S_31_14, S_31_17, S_31_18, S_31_19, S_31_22, S_31_25, S_31_26, S_31_27, S_31_30, S_31_31, S_31_32, S_31_35, S_31_36, S_31_39, S_31_42, S_31_43, S_31_44, S_31_47, S_31_50, S_31_52, S_31_53, S_31_56, S_31_59, S_31_60, S_31_61, S_31_64, S_31_66, S_31_67, S_31_70, S_31_71, S_31_72, S_31_73, S_31_74, S_31_77, S_31_78, S_31_79, S_31_80, S_31_81, S_31_84, S_31_85, S_31_86, S_31_87, S_31_88, S_31_91, S_31_92, S_31_93, S_31_94, S_31_95, S_31_98, S_31_99, S_31_100, S_31_101, S_31_102, S_31_105, S_31_106, S_31_107, S_31_108, S_31_109, S_31_111, S_31_113, S_31_114, S_31_117, S_31_118, S_31_121, S_31_122, S_31_124, S_31_125, S_31_128, S_31_130, S_31_131, S_31_134, S_31_135, S_31_137, S_31_138, S_31_141, S_31_143, S_31_145, S_31_146, S_31_149, S_31_150, S_31_152, S_31_153, S_31_156, S_31_157, S_31_159, S_31_161, S_31_163, S_31_164, S_31_166, S_31_167, S_31_169, S_31_170, S_31_173, S_31_175, S_31_177, S_31_178, S_31_181, S_31_183, S_31_184, S_31_187, S_31_188, S_31_189, S_31_190, S_31_192, S_31_193, S_31_194, S_31_195, S_31_198, S_31_199, S_31_200, S_31_201, S_31_202, S_31_205, S_31_207, S_31_209, S_31_210, S_31_213, S_31_214, S_31_215, S_31_216, S_31_219, S_31_220, S_31_221, S_31_222, S_31_224, S_31_226, S_31_227, S_31_228, S_31_231, S_31_234, S_31_236, S_31_237, S_31_240, S_31_242, S_31_243, S_31_244, S_31_245, S_31_246, S_31_247, S_31_250, S_31_251, S_31_252, S_31_253, S_31_255, S_31_256, S_31_257, S_31_258, S_31_261, S_31_263, S_31_265, S_31_266, S_31_269, S_31_272, S_31_273, S_31_276, S_31_277, S_31_278, S_31_279, S_31_282, S_31_285]))
      exact k s1 hf g1 g2 g3 g4 g5 g6
  have l0 := loop 0 (u (u (u (u (u (u s 93 (up (s 93) o (A (180 + 13 * o)))) 88 (up (s 88) o 0)) 89 (up (s 89) o 0)) 90 (up (s 90) o 0)) 91 (up (s 91) o 0)) 92 (up (s 92) o 1)) (by omega) ⟨by omega, (by repeat (first | exact Fr.rf _ | refine Fr.u ?_ rfl)), by rw [show oHours A l o 0 = 0 from sm_0 _]; rfl, by rw [show oPrice A l o 0 = 0 from sm_0 _]; rfl, by rw [show oCost A l o 0 = 0 from sm_0 _]; rfl, by rw [show oLoad A o 0 = 0 from sm_0 _]; rfl, by rw [bZ_T oLaw_0]; rfl, rfl⟩ (.float 0) (.float 0) (.float 0) (.float 0) (.float 0) rfl rfl rfl rfl rfl
  repeat' (first | (with_reducible refine Br_i ?_ ?_ <;> (intro hbr; first | exact False.elim hbr | skip)) | (with_reducible refine Wl_i ?_) | (simp (disch := first | omega | exact okF _ | exact okI _ | exact okR _ | assumption | exact okN) only [u_at, iI_zero, iI_31, iI_add, iI_sub, iI_mul, iI_neg, ↓iI_max, ↓iI_min, iI_div, emod_f, iI_lt, iI_le, iI_inj, iI_toInt, ↓ii01, ↓ii11, ↓bI_b, bI_0, bI_1, Kt_s, Kt_n, cat0, cat1, cat2, cat3, cat4, rfV, Nat.reduceAdd, Nat.reduceMul, Nat.reduceEqDiff, Int.reduceAdd, Int.reduceSub, Int.reduceMul, Int.reduceNeg, Int.reduceLT, Int.reduceLE, Int.reduceEq, Int.reduceDiv, ↓reduceIte, ↓ite_ww, ↓ite_wi, Br_n, Br_TW, Br_FW, Br_FP, Br_FB, nn_p, and_true, true_and, and_self, true_or, or_true, not_true_eq_false, not_false_eq_true, le_T, le_F, lt_T, lt_F, eq_T, eq_F, Int.add_zero, Int.zero_add, Int.one_mul, Int.mul_one, up_eq, up_ne, Int.add_assoc, Int.add_sub_cancel, Int.sub_zero, Int.sub_self, S_31_0, S_31_1, S_31_2, S_31_5, S_31_8, S_31_9, S_31_10, S_31_13, S_31_14, S_31_17, S_31_18, S_31_19, S_31_22, S_31_25, S_31_26, S_31_27, S_31_30, S_31_31, S_31_32, S_31_35, S_31_36, S_31_39, S_31_42, S_31_43, S_31_44, S_31_47, S_31_50, S_31_52, S_31_53, S_31_56, S_31_59, S_31_60, S_31_61, S_31_64, S_31_66, S_31_67, S_31_70, S_31_71, S_31_72, S_31_73, S_31_74, S_31_77, S_31_78, S_31_79, S_31_80, S_31_81, S_31_84, S_31_85, S_31_86, S_31_87, S_31_88, S_31_91, S_31_92, S_31_93, S_31_94, S_31_95, S_31_98, S_31_99, S_31_100, S_31_101, S_31_102, S_31_105, S_31_106, S_31_107, S_31_108, S_31_109, S_31_113, S_31_114, S_31_117, S_31_118, S_31_121, S_31_122, S_31_124, S_31_125, S_31_128, S_31_130, S_31_131, S_31_134, S_31_135, S_31_137, S_31_138, S_31_141, S_31_143, S_31_145, S_31_146, S_31_149, S_31_150, S_31_152, S_31_153, S_31_156, S_31_157, S_31_159, S_31_161, S_31_163, S_31_164, S_31_166, S_31_167, S_31_169, S_31_170, S_31_173, S_31_175, S_31_177, S_31_178, S_31_181, S_31_183, S_31_184, S_31_187, S_31_188, S_31_189, S_31_190, S_31_192, S_31_193, S_31_194, S_31_195, S_31_198, S_31_199, S_31_200, S_31_201, S_31_202, S_31_205, S_31_207, S_31_209, S_31_210, S_31_213, S_31_214, S_31_215, S_31_216, S_31_219, S_31_220, S_31_221, S_31_222, S_31_224, S_31_226, S_31_227, S_31_228, S_31_231, S_31_234, S_31_236, S_31_237, S_31_240, S_31_242, S_31_243, S_31_244, S_31_245, S_31_246, S_31_247, S_31_250, S_31_251, S_31_252, S_31_253, S_31_255, S_31_256, S_31_257, S_31_258, S_31_261, S_31_263, S_31_265, S_31_266, S_31_269, S_31_272, S_31_273, S_31_276, S_31_277, S_31_278, S_31_279, S_31_282, S_31_285, S_32_0, S_32_1, S_32_4, S_32_5, S_32_6, S_32_9, S_32_10, S_32_13, S_32_14, S_32_17, S_32_18, H_87, H_88, H_89, H_90, H_91, H_92, H_93, H_48, H_55, H_51, H_59, c_items, c_at_55, c_at_51, c_percentOf, p0, p1, p2, p3, p4]))
  exact l0
theorem c_weigh (hI : IC0 0 s A) (hc : curC s l) (hl : lawOK l) (W : WF0 A) (hO : WO A o) (cO1 : cO 0 s A o) (ho : 0 ≤ o ∧ o < 22) (k : ∀ s', Fr [85, 86, 88, 89, 90, 91, 92, 93, 95, 96, 97, 98, 99, 100, 101, 102, 103, 104] s s' → CO A l o s' → (∀ p, 0 ≤ p → ¬ p = o → sameC s s' p) → Q none (hp X s')) : Wp (d + 6) 30 0 [.ref 87, .int (iI o), .float 0, .float 0, .float 0] [] (hp X s) Q := by
  have w2 := W.1.2.2.1
  have w3 := hO.2.2.1
  have n2 : s 53004 0 = A 2 := hI.1.2.2.1
  have nm : oNum A o = A (180 + (13 * o + 2)) := rfl
  repeat' (first | (with_reducible refine Br_i ?_ ?_ <;> (intro hbr; first | exact False.elim hbr | skip)) | (with_reducible refine Wl_i ?_) | (simp (disch := first | omega | exact okF _ | exact okI _ | exact okR _ | assumption | exact okN) only [u_at, iI_zero, iI_31, iI_add, iI_sub, iI_mul, iI_neg, ↓iI_max, ↓iI_min, iI_div, emod_f, iI_lt, iI_le, iI_inj, iI_toInt, ↓ii01, ↓ii11, ↓bI_b, bI_0, bI_1, Kt_s, Kt_n, cat0, cat1, cat2, cat3, cat4, rfV, Nat.reduceAdd, Nat.reduceMul, Nat.reduceEqDiff, Int.reduceAdd, Int.reduceSub, Int.reduceMul, Int.reduceNeg, Int.reduceLT, Int.reduceLE, Int.reduceEq, Int.reduceDiv, ↓reduceIte, ↓ite_ww, ↓ite_wi, Br_n, Br_TW, Br_FW, Br_FP, Br_FB, nn_p, and_true, true_and, and_self, true_or, or_true, not_true_eq_false, not_false_eq_true, le_T, le_F, lt_T, lt_F, eq_T, eq_F, Int.add_zero, Int.zero_add, Int.one_mul, Int.mul_one, up_eq, up_ne, Int.add_assoc, Int.add_sub_cancel, Int.sub_zero, Int.sub_self, S_30_0, S_30_1, S_30_2, S_30_5, S_30_8, S_30_9, S_30_10, S_30_11, S_30_14, S_30_15, S_30_18, S_30_19, S_30_22, S_30_25, S_30_26, S_30_29, S_30_30, S_30_31, S_30_34, S_30_35, S_30_38, S_30_39, S_30_40, S_30_41, S_30_43, S_30_44, S_30_47, S_30_50, S_30_53, S_30_56, S_30_57, S_30_58, S_30_61, S_30_62, S_30_65, S_30_66, S_30_69, S_30_70, S_30_73, S_30_74, S_30_75, S_30_76, S_30_79, S_30_82, S_30_83, S_30_84, S_30_87, S_30_90, S_30_91, S_30_94, S_30_95, S_30_97, S_30_98, S_30_101, S_30_102, S_30_103, S_30_104, S_30_106, S_30_109, S_30_110, S_30_111, S_30_112, S_30_113, S_30_116, S_30_117, S_30_120, S_30_121, S_30_122, S_30_123, S_30_126, S_30_129, S_30_130, S_30_131, S_30_134, S_30_137, S_32_0, S_32_1, S_32_4, S_32_5, S_32_6, S_32_9, S_32_10, S_32_13, S_32_14, S_32_17, S_32_18, H_87, H_88]))
  refine c_measure hI hc hl W hO cO1 ho ?_
  intro s0 hf0 g1 g2 g3 g4 g5 g6
  have r4 := oLoad_r hO (j := A (180 + (13 * o + 2))) (by omega)
  have r2 := oPrice_r (l := l) W hO (j := A (180 + (13 * o + 2))) (by omega)
  have loop : ∀ F : Int, F = bZ (0 < oNum A o ∧ oLaw A l o (oNum A o)) → ∀ i s1, i ≤ A 2 → (0 ≤ i ∧ Fr [85, 86, 95, 96, 97, 98, 99, 100, 101, 102, 103, 104] s0 s1 ∧ (∀ b : Int, 0 ≤ b → b < i → s1 (95 + b.toNat) o = oOver A l b o) ∧ ∀ p b : Int, 0 ≤ p → ¬ p = o → 0 ≤ b → b < 10 → s1 (95 + b.toNat) p = s (95 + b.toNat) p) → ∀ v4, okO v4 = true → Wp (d + 6) 30 42 [.ref 87, .int (iI o), .int (iI F), .int (iI i), v4] [] (hp X s1) Q := by
    intro F hF
    refine lp ?_ ?_
    · intro i s1 hi ⟨h0, hf, h1, h2⟩ kk v4 o4
      have hfs : Fr [85, 86, 88, 89, 90, 91, 92, 93, 95, 96, 97, 98, 99, 100, 101, 102, 103, 104] s s1 := (hf0.up rfl).to hf rfl
      have HO := H_ov (b := i) (by omega) (X := X) (s := s1)
      have e53 : s1 53004 0 = A 2 := by rw [hfs.g 53004 rfl]; exact n2
      have cb := hI.2.2.2.1 _ h0 hi
      have wb := W.2.2.2.1 _ h0 hi
      have wb3 := wb.2.2.2
      have q3 : s1 54 (i * 4 + 3) = A (100 + (6 * i + 3)) := by rw [hfs.g 54 rfl]; exact cb.2.2.2
      have e91 : s1 91 o = oLoad A o (oNum A o) := by rw [hf.g 91 rfl, g4, up_eq rfl]
      have r5 := oWorth_r (l := l) W hO ⟨h0, hi⟩ (j := A (180 + (13 * o + 2))) (by omega)
      rw [nm] at e91
      have fin : ∀ (s2 : sg) (v : Int), (∀ b : Int, 0 ≤ b → s2 (95 + b.toNat) = s1 (95 + b.toNat)) → Fr [85, 86, 95, 96, 97, 98, 99, 100, 101, 102, 103, 104] s0 s2 → v = oOver A l i o → ∀ v4, okO v4 = true → Wp (d + 6) 30 42 [.ref 87, .int (iI o), .int (iI F), .int (iI (i + 1)), v4] [] (hp X (u s2 (95 + i.toNat) (up (s2 (95 + i.toNat)) o v))) Q := by
        intro s2 v ek hf2 ev v4 o4
        subst ev
        refine kk _ ⟨by omega, hf2.u (nin_ov (by omega) rfl), ?_, ?_⟩ _ o4
        · intro b b0 b1
          by_cases e : b = i
          · subst e
            rw [u_eq, up_eq rfl]
          · rw [u_ne (by omega), ek b b0]
            exact h1 b b0 (by omega)
        · intro p b q0 q1 b0 b1
          by_cases e : b = i
          · subst e
            rw [u_eq, up_ne q1, ek b b0]
            exact h2 p b q0 q1 b0 b1
          · rw [u_ne (by omega), ek b b0]
            exact h2 p b q0 q1 b0 b1
      clear kk
      rw [S_30_42]
      by_cases c : 0 < oNum A o ∧ oLaw A l o (oNum A o) ∧ oLoad A o (oNum A o) ≤ A (100 + (6 * i + 3))
      · have ov : oOver A l i o = max (-1) (oWorth A l i o (A (180 + (13 * o + 2))) - oPrice A l o (A (180 + (13 * o + 2)))) := by
          unfold oOver
          rw [if_pos c]
          rfl
        have F1 : F = 1 := hF.trans (bZ_T ⟨c.1, c.2.1⟩)
        subst F1
        have c3 := c.2.2
        rw [nm] at c3
        repeat' (first | (with_reducible refine Br_i ?_ ?_ <;> (intro hbr; first | exact False.elim hbr | skip)) | (with_reducible refine Wl_i ?_) | (simp (disch := first | omega | exact okF _ | exact okI _ | exact okR _ | assumption | exact okN) only [u_at, iI_zero, iI_31, iI_add, iI_sub, iI_mul, iI_neg, ↓iI_max, ↓iI_min, iI_div, emod_f, iI_lt, iI_le, iI_inj, iI_toInt, ↓ii01, ↓ii11, ↓bI_b, bI_0, bI_1, Kt_s, Kt_n, cat0, cat1, cat2, cat3, cat4, rfV, Nat.reduceAdd, Nat.reduceMul, Nat.reduceEqDiff, Int.reduceAdd, Int.reduceSub, Int.reduceMul, Int.reduceNeg, Int.reduceLT, Int.reduceLE, Int.reduceEq, Int.reduceDiv, ↓reduceIte, ↓ite_ww, ↓ite_wi, Br_n, Br_TW, Br_FW, Br_FP, Br_FB, nn_p, and_true, true_and, and_self, true_or, or_true, not_true_eq_false, not_false_eq_true, le_T, le_F, lt_T, lt_F, eq_T, eq_F, Int.add_zero, Int.zero_add, Int.one_mul, Int.mul_one, up_eq, up_ne, Int.add_assoc, Int.add_sub_cancel, Int.sub_zero, Int.sub_self, S_30_0, S_30_1, S_30_2, S_30_5, S_30_8, S_30_9, S_30_10, S_30_11, S_30_14, S_30_15, S_30_18, S_30_19, S_30_22, S_30_25, S_30_26, S_30_29, S_30_30, S_30_31, S_30_34, S_30_35, S_30_38, S_30_39, S_30_40, S_30_41, S_30_43, S_30_44, S_30_47, S_30_50, S_30_53, S_30_56, S_30_57, S_30_58, S_30_61, S_30_62, S_30_65, S_30_66, S_30_69, S_30_70, S_30_73, S_30_74, S_30_75, S_30_76, S_30_79, S_30_82, S_30_83, S_30_84, S_30_87, S_30_90, S_30_91, S_30_94, S_30_95, S_30_97, S_30_98, S_30_101, S_30_102, S_30_103, S_30_104, S_30_106, S_30_109, S_30_110, S_30_111, S_30_112, S_30_113, S_30_116, S_30_117, S_30_120, S_30_121, S_30_122, S_30_123, S_30_126, S_30_129, S_30_130, S_30_131, S_30_134, S_30_137, H_87, H_48, H_53, H_91, H_94, c_at_53, e53, e91, q3, HO]))
        refine c_worthTo2 (IC0_fr hfs rfl hI) (curC_fr hfs rfl hc) hl W hO (cO_fr hfs rfl cO1) ho ⟨h0, hi⟩ ?_
        intro s2 f2
        have HO2 := H_ov (b := i) (by omega) (X := X) (s := s2)
        have ek : ∀ b : Int, 0 ≤ b → s2 (95 + b.toNat) = s1 (95 + b.toNat) := by
          intro b b0
          refine f2 _ ?_
          simp only [nin, Bool.and_true, Bool.and_eq_true, Bool.not_eq_true']
          exact ⟨nbeq (by omega), nbeq (by omega)⟩
        have e89 : s2 89 o = oPrice A l o (oNum A o) := by rw [f2.g 89 rfl, hf.g 89 rfl, g2, up_eq rfl]
        rw [nm] at e89
        rw [nm]
        have fin := fin s2 _ ek (hf.to f2 rfl) ov.symm
        repeat' (first | (with_reducible refine Br_i ?_ ?_ <;> (intro hbr; first | exact False.elim hbr | skip)) | (with_reducible refine Wl_i ?_) | (simp (disch := first | omega | exact okF _ | exact okI _ | exact okR _ | assumption | exact okN) only [u_at, iI_zero, iI_31, iI_add, iI_sub, iI_mul, iI_neg, ↓iI_max, ↓iI_min, iI_div, emod_f, iI_lt, iI_le, iI_inj, iI_toInt, ↓ii01, ↓ii11, ↓bI_b, bI_0, bI_1, Kt_s, Kt_n, cat0, cat1, cat2, cat3, cat4, rfV, Nat.reduceAdd, Nat.reduceMul, Nat.reduceEqDiff, Int.reduceAdd, Int.reduceSub, Int.reduceMul, Int.reduceNeg, Int.reduceLT, Int.reduceLE, Int.reduceEq, Int.reduceDiv, ↓reduceIte, ↓ite_ww, ↓ite_wi, Br_n, Br_TW, Br_FW, Br_FP, Br_FB, nn_p, and_true, true_and, and_self, true_or, or_true, not_true_eq_false, not_false_eq_true, le_T, le_F, lt_T, lt_F, eq_T, eq_F, Int.add_zero, Int.zero_add, Int.one_mul, Int.mul_one, up_eq, up_ne, Int.add_assoc, Int.add_sub_cancel, Int.sub_zero, Int.sub_self, S_30_0, S_30_1, S_30_2, S_30_5, S_30_8, S_30_9, S_30_10, S_30_11, S_30_14, S_30_15, S_30_18, S_30_19, S_30_22, S_30_25, S_30_26, S_30_29, S_30_30, S_30_31, S_30_34, S_30_35, S_30_38, S_30_39, S_30_40, S_30_41, S_30_43, S_30_44, S_30_47, S_30_50, S_30_53, S_30_56, S_30_57, S_30_58, S_30_61, S_30_62, S_30_65, S_30_66, S_30_69, S_30_70, S_30_73, S_30_74, S_30_75, S_30_76, S_30_79, S_30_82, S_30_83, S_30_84, S_30_87, S_30_90, S_30_91, S_30_94, S_30_95, S_30_97, S_30_98, S_30_101, S_30_102, S_30_103, S_30_104, S_30_106, S_30_109, S_30_110, S_30_111, S_30_112, S_30_113, S_30_116, S_30_117, S_30_120, S_30_121, S_30_122, S_30_123, S_30_126, S_30_129, S_30_130, S_30_131, S_30_134, S_30_137, H_87, H_89, e89, HO2]))
        exact fin _ rfl
      · have ov : oOver A l i o = -1 := by
          unfold oOver
          rw [if_neg c]
        have fin := fin s1 _ (fun _ _ => rfl) hf ov.symm
        by_cases c2 : 0 < oNum A o ∧ oLaw A l o (oNum A o)
        · have F1 : F = 1 := hF.trans (bZ_T c2)
          subst F1
          have c3 : ¬ oLoad A o (A (180 + (13 * o + 2))) ≤ A (100 + (6 * i + 3)) := fun q => c ⟨c2.1, c2.2, q⟩
          repeat' (first | (with_reducible refine Br_i ?_ ?_ <;> (intro hbr; first | exact False.elim hbr | skip)) | (with_reducible refine Wl_i ?_) | (simp (disch := first | omega | exact okF _ | exact okI _ | exact okR _ | assumption | exact okN) only [u_at, iI_zero, iI_31, iI_add, iI_sub, iI_mul, iI_neg, ↓iI_max, ↓iI_min, iI_div, emod_f, iI_lt, iI_le, iI_inj, iI_toInt, ↓ii01, ↓ii11, ↓bI_b, bI_0, bI_1, Kt_s, Kt_n, cat0, cat1, cat2, cat3, cat4, rfV, Nat.reduceAdd, Nat.reduceMul, Nat.reduceEqDiff, Int.reduceAdd, Int.reduceSub, Int.reduceMul, Int.reduceNeg, Int.reduceLT, Int.reduceLE, Int.reduceEq, Int.reduceDiv, ↓reduceIte, ↓ite_ww, ↓ite_wi, Br_n, Br_TW, Br_FW, Br_FP, Br_FB, nn_p, and_true, true_and, and_self, true_or, or_true, not_true_eq_false, not_false_eq_true, le_T, le_F, lt_T, lt_F, eq_T, eq_F, Int.add_zero, Int.zero_add, Int.one_mul, Int.mul_one, up_eq, up_ne, Int.add_assoc, Int.add_sub_cancel, Int.sub_zero, Int.sub_self, S_30_0, S_30_1, S_30_2, S_30_5, S_30_8, S_30_9, S_30_10, S_30_11, S_30_14, S_30_15, S_30_18, S_30_19, S_30_22, S_30_25, S_30_26, S_30_29, S_30_30, S_30_31, S_30_34, S_30_35, S_30_38, S_30_39, S_30_40, S_30_41, S_30_43, S_30_44, S_30_47, S_30_50, S_30_53, S_30_56, S_30_57, S_30_58, S_30_61, S_30_62, S_30_65, S_30_66, S_30_69, S_30_70, S_30_73, S_30_74, S_30_75, S_30_76, S_30_79, S_30_82, S_30_83, S_30_84, S_30_87, S_30_90, S_30_91, S_30_94, S_30_95, S_30_97, S_30_98, S_30_101, S_30_102, S_30_103, S_30_104, S_30_106, S_30_109, S_30_110, S_30_111, S_30_112, S_30_113, S_30_116, S_30_117, S_30_120, S_30_121, S_30_122, S_30_123, S_30_126, S_30_129, S_30_130, S_30_131, S_30_134, S_30_137, H_87, H_48, H_53, H_91, H_94, c_at_53, e53, e91, q3, HO]))
          exact fin _ rfl
        · have F0 : F = 0 := hF.trans (bZ_F c2)
          subst F0
          repeat' (first | (with_reducible refine Br_i ?_ ?_ <;> (intro hbr; first | exact False.elim hbr | skip)) | (with_reducible refine Wl_i ?_) | (simp (disch := first | omega | exact okF _ | exact okI _ | exact okR _ | assumption | exact okN) only [u_at, iI_zero, iI_31, iI_add, iI_sub, iI_mul, iI_neg, ↓iI_max, ↓iI_min, iI_div, emod_f, iI_lt, iI_le, iI_inj, iI_toInt, ↓ii01, ↓ii11, ↓bI_b, bI_0, bI_1, Kt_s, Kt_n, cat0, cat1, cat2, cat3, cat4, rfV, Nat.reduceAdd, Nat.reduceMul, Nat.reduceEqDiff, Int.reduceAdd, Int.reduceSub, Int.reduceMul, Int.reduceNeg, Int.reduceLT, Int.reduceLE, Int.reduceEq, Int.reduceDiv, ↓reduceIte, ↓ite_ww, ↓ite_wi, Br_n, Br_TW, Br_FW, Br_FP, Br_FB, nn_p, and_true, true_and, and_self, true_or, or_true, not_true_eq_false, not_false_eq_true, le_T, le_F, lt_T, lt_F, eq_T, eq_F, Int.add_zero, Int.zero_add, Int.one_mul, Int.mul_one, up_eq, up_ne, Int.add_assoc, Int.add_sub_cancel, Int.sub_zero, Int.sub_self, S_30_0, S_30_1, S_30_2, S_30_5, S_30_8, S_30_9, S_30_10, S_30_11, S_30_14, S_30_15, S_30_18, S_30_19, S_30_22, S_30_25, S_30_26, S_30_29, S_30_30, S_30_31, S_30_34, S_30_35, S_30_38, S_30_39, S_30_40, S_30_41, S_30_43, S_30_44, S_30_47, S_30_50, S_30_53, S_30_56, S_30_57, S_30_58, S_30_61, S_30_62, S_30_65, S_30_66, S_30_69, S_30_70, S_30_73, S_30_74, S_30_75, S_30_76, S_30_79, S_30_82, S_30_83, S_30_84, S_30_87, S_30_90, S_30_91, S_30_94, S_30_95, S_30_97, S_30_98, S_30_101, S_30_102, S_30_103, S_30_104, S_30_106, S_30_109, S_30_110, S_30_111, S_30_112, S_30_113, S_30_116, S_30_117, S_30_120, S_30_121, S_30_122, S_30_123, S_30_126, S_30_129, S_30_130, S_30_131, S_30_134, S_30_137, H_87, H_48, H_53, H_91, H_94, c_at_53, e53, e91, q3, HO]))
          exact fin _ rfl
    · intro s1 ⟨h0, hf, h1, h2⟩ v4 o4
      have hfs : Fr [85, 86, 88, 89, 90, 91, 92, 93, 95, 96, 97, 98, 99, 100, 101, 102, 103, 104] s s1 := (hf0.up rfl).to hf rfl
      have e53 : s1 53004 0 = A 2 := by rw [hfs.g 53004 rfl]; exact n2
      repeat' (first | (with_reducible refine Br_i ?_ ?_ <;> (intro hbr; first | exact False.elim hbr | skip)) | (with_reducible refine Wl_i ?_) | (simp (disch := first | omega | exact okF _ | exact okI _ | exact okR _ | assumption | exact okN) only [u_at, iI_zero, iI_31, iI_add, iI_sub, iI_mul, iI_neg, ↓iI_max, ↓iI_min, iI_div, emod_f, iI_lt, iI_le, iI_inj, iI_toInt, ↓ii01, ↓ii11, ↓bI_b, bI_0, bI_1, Kt_s, Kt_n, cat0, cat1, cat2, cat3, cat4, rfV, Nat.reduceAdd, Nat.reduceMul, Nat.reduceEqDiff, Int.reduceAdd, Int.reduceSub, Int.reduceMul, Int.reduceNeg, Int.reduceLT, Int.reduceLE, Int.reduceEq, Int.reduceDiv, ↓reduceIte, ↓ite_ww, ↓ite_wi, Br_n, Br_TW, Br_FW, Br_FP, Br_FB, nn_p, and_true, true_and, and_self, true_or, or_true, not_true_eq_false, not_false_eq_true, le_T, le_F, lt_T, lt_F, eq_T, eq_F, Int.add_zero, Int.zero_add, Int.one_mul, Int.mul_one, up_eq, up_ne, Int.add_assoc, Int.add_sub_cancel, Int.sub_zero, Int.sub_self, S_30_0, S_30_1, S_30_2, S_30_5, S_30_8, S_30_9, S_30_10, S_30_11, S_30_14, S_30_15, S_30_18, S_30_19, S_30_22, S_30_25, S_30_26, S_30_29, S_30_30, S_30_31, S_30_34, S_30_35, S_30_38, S_30_39, S_30_40, S_30_41, S_30_42, S_30_43, S_30_44, S_30_47, S_30_50, S_30_53, S_30_56, S_30_57, S_30_58, S_30_61, S_30_62, S_30_65, S_30_66, S_30_69, S_30_70, S_30_73, S_30_74, S_30_75, S_30_76, S_30_79, S_30_82, S_30_83, S_30_84, S_30_87, S_30_90, S_30_91, S_30_94, S_30_95, S_30_97, S_30_98, S_30_101, S_30_102, S_30_103, S_30_104, S_30_106, S_30_109, S_30_110, S_30_111, S_30_112, S_30_113, S_30_116, S_30_117, S_30_120, S_30_121, S_30_122, S_30_123, S_30_126, S_30_129, S_30_130, S_30_131, S_30_134, S_30_137, H_87, H_48, H_53, e53]))
      refine k s1 hfs ?_ ?_
      · unfold CO
        rw [hf.g 88 rfl, hf.g 89 rfl, hf.g 90 rfl, hf.g 91 rfl, hf.g 92 rfl, hf.g 93 rfl, g1, g2, g3, g4, g5, g6, up_eq rfl, up_eq rfl, up_eq rfl, up_eq rfl, up_eq rfl, up_eq rfl]
        exact ⟨rfl, rfl, rfl, rfl, rfl, rfl, h1⟩
      · intro p p0 p1
        unfold sameC
        rw [hf.g 88 rfl, hf.g 89 rfl, hf.g 90 rfl, hf.g 91 rfl, hf.g 92 rfl, hf.g 93 rfl, g1, g2, g3, g4, g5, g6, up_ne p1, up_ne p1, up_ne p1, up_ne p1, up_ne p1, up_ne p1]
        exact ⟨rfl, rfl, rfl, rfl, rfl, rfl, fun b b0 b1 => h2 p b p0 p1 b0 b1⟩
  have q2 : s0 56 (o * 12 + 2) = A (180 + (13 * o + 2)) := by rw [hf0.g 56 rfl]; exact cO1.2.2.1
  have e92 : s0 92 o = bZ (oLaw A l o (oNum A o)) := by rw [g5, up_eq rfl]
  have go : ∀ F : Int, F = bZ (0 < oNum A o ∧ oLaw A l o (oNum A o)) → Wp (d + 6) 30 42 [.ref 87, .int (iI o), .int (iI F), .int (iI 0), .float 0] [] (hp X s0) Q := fun F hF => loop F hF 0 s0 (by omega) ⟨by omega, Fr.rf s0, fun b b0 b1 => by omega, fun p b _ _ b0 b1 => by
    rw [hf0 _ ?_]
    simp only [nin, Bool.and_true, Bool.and_eq_true, Bool.not_eq_true']
    refine ⟨?_, ?_, ?_, ?_, ?_, ?_, ?_, ?_⟩ <;> exact nbeq (by omega)⟩ (.float 0) rfl
  clear loop
  by_cases cL : oLaw A l o (oNum A o)
  · rw [bZ_T cL] at e92
    repeat' (first | (with_reducible refine Br_i ?_ ?_ <;> (intro hbr; first | exact False.elim hbr | skip)) | (with_reducible refine Wl_i ?_) | (simp (disch := first | omega | exact okF _ | exact okI _ | exact okR _ | assumption | exact okN) only [u_at, iI_zero, iI_31, iI_add, iI_sub, iI_mul, iI_neg, ↓iI_max, ↓iI_min, iI_div, emod_f, iI_lt, iI_le, iI_inj, iI_toInt, ↓ii01, ↓ii11, ↓bI_b, bI_0, bI_1, Kt_s, Kt_n, cat0, cat1, cat2, cat3, cat4, rfV, Nat.reduceAdd, Nat.reduceMul, Nat.reduceEqDiff, Int.reduceAdd, Int.reduceSub, Int.reduceMul, Int.reduceNeg, Int.reduceLT, Int.reduceLE, Int.reduceEq, Int.reduceDiv, ↓reduceIte, ↓ite_ww, ↓ite_wi, Br_n, Br_TW, Br_FW, Br_FP, Br_FB, nn_p, and_true, true_and, and_self, true_or, or_true, not_true_eq_false, not_false_eq_true, le_T, le_F, lt_T, lt_F, eq_T, eq_F, Int.add_zero, Int.zero_add, Int.one_mul, Int.mul_one, up_eq, up_ne, Int.add_assoc, Int.add_sub_cancel, Int.sub_zero, Int.sub_self, S_30_0, S_30_1, S_30_2, S_30_5, S_30_8, S_30_9, S_30_10, S_30_11, S_30_14, S_30_15, S_30_18, S_30_19, S_30_22, S_30_25, S_30_26, S_30_29, S_30_30, S_30_31, S_30_34, S_30_35, S_30_38, S_30_39, S_30_40, S_30_41, S_30_43, S_30_44, S_30_47, S_30_50, S_30_53, S_30_56, S_30_57, S_30_58, S_30_61, S_30_62, S_30_65, S_30_66, S_30_69, S_30_70, S_30_73, S_30_74, S_30_75, S_30_76, S_30_79, S_30_82, S_30_83, S_30_84, S_30_87, S_30_90, S_30_91, S_30_94, S_30_95, S_30_97, S_30_98, S_30_101, S_30_102, S_30_103, S_30_104, S_30_106, S_30_109, S_30_110, S_30_111, S_30_112, S_30_113, S_30_116, S_30_117, S_30_120, S_30_121, S_30_122, S_30_123, S_30_126, S_30_129, S_30_130, S_30_131, S_30_134, S_30_137, H_87, H_92, H_48, c_items, q2, e92]))
    all_goals first | exact go 1 (bZ_T ⟨by rw [nm]; omega, cL⟩).symm | exact go 0 (bZ_F (fun q => absurd q.1 (by rw [nm]; omega))).symm
  · rw [bZ_F cL] at e92
    repeat' (first | (with_reducible refine Br_i ?_ ?_ <;> (intro hbr; first | exact False.elim hbr | skip)) | (with_reducible refine Wl_i ?_) | (simp (disch := first | omega | exact okF _ | exact okI _ | exact okR _ | assumption | exact okN) only [u_at, iI_zero, iI_31, iI_add, iI_sub, iI_mul, iI_neg, ↓iI_max, ↓iI_min, iI_div, emod_f, iI_lt, iI_le, iI_inj, iI_toInt, ↓ii01, ↓ii11, ↓bI_b, bI_0, bI_1, Kt_s, Kt_n, cat0, cat1, cat2, cat3, cat4, rfV, Nat.reduceAdd, Nat.reduceMul, Nat.reduceEqDiff, Int.reduceAdd, Int.reduceSub, Int.reduceMul, Int.reduceNeg, Int.reduceLT, Int.reduceLE, Int.reduceEq, Int.reduceDiv, ↓reduceIte, ↓ite_ww, ↓ite_wi, Br_n, Br_TW, Br_FW, Br_FP, Br_FB, nn_p, and_true, true_and, and_self, true_or, or_true, not_true_eq_false, not_false_eq_true, le_T, le_F, lt_T, lt_F, eq_T, eq_F, Int.add_zero, Int.zero_add, Int.one_mul, Int.mul_one, up_eq, up_ne, Int.add_assoc, Int.add_sub_cancel, Int.sub_zero, Int.sub_self, S_30_0, S_30_1, S_30_2, S_30_5, S_30_8, S_30_9, S_30_10, S_30_11, S_30_14, S_30_15, S_30_18, S_30_19, S_30_22, S_30_25, S_30_26, S_30_29, S_30_30, S_30_31, S_30_34, S_30_35, S_30_38, S_30_39, S_30_40, S_30_41, S_30_43, S_30_44, S_30_47, S_30_50, S_30_53, S_30_56, S_30_57, S_30_58, S_30_61, S_30_62, S_30_65, S_30_66, S_30_69, S_30_70, S_30_73, S_30_74, S_30_75, S_30_76, S_30_79, S_30_82, S_30_83, S_30_84, S_30_87, S_30_90, S_30_91, S_30_94, S_30_95, S_30_97, S_30_98, S_30_101, S_30_102, S_30_103, S_30_104, S_30_106, S_30_109, S_30_110, S_30_111, S_30_112, S_30_113, S_30_116, S_30_117, S_30_120, S_30_121, S_30_122, S_30_123, S_30_126, S_30_129, S_30_130, S_30_131, S_30_134, S_30_137, H_87, H_92, H_48, c_items, q2, e92]))
    all_goals exact go 0 (bZ_F (fun q => cL q.2)).symm
end CW
