/-! THE CLASS: Table.cell, Table.raise: a place of a row looked at, raised -/
section CELL
variable {d : Nat} {X : hX} {s : sg} {Q : Option Value → aH → Prop} {z v : Int} {k n : Nat}
theorem c_cellG (e : sS X.1 k = (1, n)) (ho : isO k = false ∧ ¬ k = 0 ∧ ¬ k = 2 ∧ ¬ k = 4 ∧ k < 156 ∧ ¬ k = 140) (hn : n < 100000) (h : 0 ≤ z ∧ z < n) : Wp d 268 0 [.ref k, .int (iI z)] [] (hp X s) Q = Q (some (.int (iI (s k z)))) (hp X s) := by
  have e1 : gS (hp X s) k = (1, n) := e
  have o := ok_1 (h := hp X s) e1 hn
  have g := gA_hp (X := X) (s := s) (z := z) ho (by omega)
  simp (disch := first | omega | exact okF _ | exact okI _ | exact okR _ | assumption | exact okN) only [S_268_0, S_268_1, S_268_4, S_268_5, S_268_6, S_268_7, S_268_10, S_268_11, S_268_12, S_268_13, S_268_16, S_268_17, u_at, iI_zero, iI_31, iI_add, iI_sub, iI_mul, iI_neg, ↓iI_max, ↓iI_min, iI_div, emod_f, iI_lt, iI_le, iI_inj, iI_toInt, ↓ii01, ↓ii11, ↓bI_b, bI_0, bI_1, Kt_s, Kt_n, cat0, cat1, cat2, cat3, cat4, rfV, Nat.reduceAdd, Nat.reduceMul, Nat.reduceEqDiff, Int.reduceAdd, Int.reduceSub, Int.reduceMul, Int.reduceNeg, Int.reduceLT, Int.reduceLE, Int.reduceEq, Int.reduceDiv, ↓reduceIte, ↓ite_ww, ↓ite_wi, Br_n, Br_TW, Br_FW, Br_FP, Br_FB, nn_p, and_true, true_and, and_self, true_or, or_true, not_true_eq_false, not_false_eq_true, le_T, le_F, lt_T, lt_F, eq_T, eq_F, Int.add_zero, Int.zero_add, Int.one_mul, Int.mul_one, up_eq, up_ne, Int.add_assoc, Int.add_sub_cancel, Int.sub_zero, Int.sub_self, e1, o, g]
theorem c_cellO (e : sS X.1 k = (1, n)) (hn : n < 100000) (h : (-2147483648 ≤ z ∧ z < 2147483648) ∧ (z < 0 ∨ n ≤ z)) : Wp d 268 0 [.ref k, .int (iI z)] [] (hp X s) Q = Q (some (.int (iI 0))) (hp X s) := by
  have e1 : gS (hp X s) k = (1, n) := e
  have o := ok_1 (h := hp X s) e1 hn
  rcases h.2 with q | q
  · simp (disch := first | omega | exact okF _ | exact okI _ | exact okR _ | assumption | exact okN) only [S_268_0, S_268_1, S_268_4, S_268_5, S_268_6, S_268_7, S_268_10, S_268_11, S_268_12, S_268_13, S_268_16, S_268_17, u_at, iI_zero, iI_31, iI_add, iI_sub, iI_mul, iI_neg, ↓iI_max, ↓iI_min, iI_div, emod_f, iI_lt, iI_le, iI_inj, iI_toInt, ↓ii01, ↓ii11, ↓bI_b, bI_0, bI_1, Kt_s, Kt_n, cat0, cat1, cat2, cat3, cat4, rfV, Nat.reduceAdd, Nat.reduceMul, Nat.reduceEqDiff, Int.reduceAdd, Int.reduceSub, Int.reduceMul, Int.reduceNeg, Int.reduceLT, Int.reduceLE, Int.reduceEq, Int.reduceDiv, ↓reduceIte, ↓ite_ww, ↓ite_wi, Br_n, Br_TW, Br_FW, Br_FP, Br_FB, nn_p, and_true, true_and, and_self, true_or, or_true, not_true_eq_false, not_false_eq_true, le_T, le_F, lt_T, lt_F, eq_T, eq_F, Int.add_zero, Int.zero_add, Int.one_mul, Int.mul_one, up_eq, up_ne, Int.add_assoc, Int.add_sub_cancel, Int.sub_zero, Int.sub_self, e1, o]
  · simp (disch := first | omega | exact okF _ | exact okI _ | exact okR _ | assumption | exact okN) only [S_268_0, S_268_1, S_268_4, S_268_5, S_268_6, S_268_7, S_268_10, S_268_11, S_268_12, S_268_13, S_268_16, S_268_17, u_at, iI_zero, iI_31, iI_add, iI_sub, iI_mul, iI_neg, ↓iI_max, ↓iI_min, iI_div, emod_f, iI_lt, iI_le, iI_inj, iI_toInt, ↓ii01, ↓ii11, ↓bI_b, bI_0, bI_1, Kt_s, Kt_n, cat0, cat1, cat2, cat3, cat4, rfV, Nat.reduceAdd, Nat.reduceMul, Nat.reduceEqDiff, Int.reduceAdd, Int.reduceSub, Int.reduceMul, Int.reduceNeg, Int.reduceLT, Int.reduceLE, Int.reduceEq, Int.reduceDiv, ↓reduceIte, ↓ite_ww, ↓ite_wi, Br_n, Br_TW, Br_FW, Br_FP, Br_FB, nn_p, and_true, true_and, and_self, true_or, or_true, not_true_eq_false, not_false_eq_true, le_T, le_F, lt_T, lt_F, eq_T, eq_F, Int.add_zero, Int.zero_add, Int.one_mul, Int.mul_one, up_eq, up_ne, Int.add_assoc, Int.add_sub_cancel, Int.sub_zero, Int.sub_self, e1, o]
theorem c_raiseG (e : sS X.1 k = (1, n)) (ho : isO k = false ∧ ¬ k = 0 ∧ ¬ k = 2 ∧ ¬ k = 4 ∧ k < 156 ∧ ¬ k = 140) (hn : n < 100000) (h : 0 ≤ z ∧ z < n) : Wp d 269 0 [.ref k, .int (iI z), .int (iI v)] [] (hp X s) Q = Q none (hp X (u s k (up (s k) z (s k z + v)))) := by
  have e1 : gS (hp X s) k = (1, n) := e
  have o := ok_1 (h := hp X s) e1 hn
  have g := gA_hp (X := X) (s := s) (z := z) ho (by omega)
  have q := pA_hp (X := X) (s := s) (z := z) (v := s k z + v) ho (by omega)
  simp (disch := first | omega | exact okF _ | exact okI _ | exact okR _ | assumption | exact okN) only [S_269_0, S_269_1, S_269_4, S_269_5, S_269_6, S_269_7, S_269_10, S_269_11, S_269_12, S_269_13, S_269_14, S_269_15, S_269_16, S_269_17, u_at, iI_zero, iI_31, iI_add, iI_sub, iI_mul, iI_neg, ↓iI_max, ↓iI_min, iI_div, emod_f, iI_lt, iI_le, iI_inj, iI_toInt, ↓ii01, ↓ii11, ↓bI_b, bI_0, bI_1, Kt_s, Kt_n, cat0, cat1, cat2, cat3, cat4, rfV, Nat.reduceAdd, Nat.reduceMul, Nat.reduceEqDiff, Int.reduceAdd, Int.reduceSub, Int.reduceMul, Int.reduceNeg, Int.reduceLT, Int.reduceLE, Int.reduceEq, Int.reduceDiv, ↓reduceIte, ↓ite_ww, ↓ite_wi, Br_n, Br_TW, Br_FW, Br_FP, Br_FB, nn_p, and_true, true_and, and_self, true_or, or_true, not_true_eq_false, not_false_eq_true, le_T, le_F, lt_T, lt_F, eq_T, eq_F, Int.add_zero, Int.zero_add, Int.one_mul, Int.mul_one, up_eq, up_ne, Int.add_assoc, Int.add_sub_cancel, Int.sub_zero, Int.sub_self, e1, o, g, q]
/-- the class's rows that are looked at so -/
theorem c_cell_88 (h : 0 ≤ z ∧ z < 22) : Wp d 268 0 [.ref 88, .int (iI z)] [] (hp X s) Q = Q (some (.int (iI (s 88 z)))) (hp X s) := c_cellG rfl ⟨rfl, by decide⟩ (by decide) h
theorem c_cell_89 (h : 0 ≤ z ∧ z < 22) : Wp d 268 0 [.ref 89, .int (iI z)] [] (hp X s) Q = Q (some (.int (iI (s 89 z)))) (hp X s) := c_cellG rfl ⟨rfl, by decide⟩ (by decide) h
theorem c_cell_90 (h : 0 ≤ z ∧ z < 22) : Wp d 268 0 [.ref 90, .int (iI z)] [] (hp X s) Q = Q (some (.int (iI (s 90 z)))) (hp X s) := c_cellG rfl ⟨rfl, by decide⟩ (by decide) h
theorem c_cell_91 (h : 0 ≤ z ∧ z < 22) : Wp d 268 0 [.ref 91, .int (iI z)] [] (hp X s) Q = Q (some (.int (iI (s 91 z)))) (hp X s) := c_cellG rfl ⟨rfl, by decide⟩ (by decide) h
theorem c_cell_93 (h : 0 ≤ z ∧ z < 22) : Wp d 268 0 [.ref 93, .int (iI z)] [] (hp X s) Q = Q (some (.int (iI (s 93 z)))) (hp X s) := c_cellG rfl ⟨rfl, by decide⟩ (by decide) h
theorem c_cell_61 (h : 0 ≤ z ∧ z < 22) : Wp d 268 0 [.ref 61, .int (iI z)] [] (hp X s) Q = Q (some (.int (iI (s 61 z)))) (hp X s) := c_cellG rfl ⟨rfl, by decide⟩ (by decide) h
theorem c_cell_107 (h : 0 ≤ z ∧ z < 22) : Wp d 268 0 [.ref 107, .int (iI z)] [] (hp X s) Q = Q (some (.int (iI (s 107 z)))) (hp X s) := c_cellG rfl ⟨rfl, by decide⟩ (by decide) h
theorem c_cell_113 (h : 0 ≤ z ∧ z < 22) : Wp d 268 0 [.ref 113, .int (iI z)] [] (hp X s) Q = Q (some (.int (iI (s 113 z)))) (hp X s) := c_cellG rfl ⟨rfl, by decide⟩ (by decide) h
theorem c_cell_62 (h : 0 ≤ z ∧ z < 6) : Wp d 268 0 [.ref 62, .int (iI z)] [] (hp X s) Q = Q (some (.int (iI (s 62 z)))) (hp X s) := c_cellG rfl ⟨rfl, by decide⟩ (by decide) h
theorem c_cell_63 (h : 0 ≤ z ∧ z < 6) : Wp d 268 0 [.ref 63, .int (iI z)] [] (hp X s) Q = Q (some (.int (iI (s 63 z)))) (hp X s) := c_cellG rfl ⟨rfl, by decide⟩ (by decide) h
theorem c_cell_108 (h : 0 ≤ z ∧ z < 6) : Wp d 268 0 [.ref 108, .int (iI z)] [] (hp X s) Q = Q (some (.int (iI (s 108 z)))) (hp X s) := c_cellG rfl ⟨rfl, by decide⟩ (by decide) h
theorem c_cell_109 (h : 0 ≤ z ∧ z < 6) : Wp d 268 0 [.ref 109, .int (iI z)] [] (hp X s) Q = Q (some (.int (iI (s 109 z)))) (hp X s) := c_cellG rfl ⟨rfl, by decide⟩ (by decide) h
theorem c_cell_114 (h : 0 ≤ z ∧ z < 6) : Wp d 268 0 [.ref 114, .int (iI z)] [] (hp X s) Q = Q (some (.int (iI (s 114 z)))) (hp X s) := c_cellG rfl ⟨rfl, by decide⟩ (by decide) h
theorem c_cell_115 (h : 0 ≤ z ∧ z < 6) : Wp d 268 0 [.ref 115, .int (iI z)] [] (hp X s) Q = Q (some (.int (iI (s 115 z)))) (hp X s) := c_cellG rfl ⟨rfl, by decide⟩ (by decide) h
theorem c_cell_64 (h : 0 ≤ z ∧ z < 10) : Wp d 268 0 [.ref 64, .int (iI z)] [] (hp X s) Q = Q (some (.int (iI (s 64 z)))) (hp X s) := c_cellG rfl ⟨rfl, by decide⟩ (by decide) h
theorem c_cell_65 (h : 0 ≤ z ∧ z < 10) : Wp d 268 0 [.ref 65, .int (iI z)] [] (hp X s) Q = Q (some (.int (iI (s 65 z)))) (hp X s) := c_cellG rfl ⟨rfl, by decide⟩ (by decide) h
theorem c_cell_110 (h : 0 ≤ z ∧ z < 10) : Wp d 268 0 [.ref 110, .int (iI z)] [] (hp X s) Q = Q (some (.int (iI (s 110 z)))) (hp X s) := c_cellG rfl ⟨rfl, by decide⟩ (by decide) h
theorem c_cell_111 (h : 0 ≤ z ∧ z < 10) : Wp d 268 0 [.ref 111, .int (iI z)] [] (hp X s) Q = Q (some (.int (iI (s 111 z)))) (hp X s) := c_cellG rfl ⟨rfl, by decide⟩ (by decide) h
theorem c_cell_116 (h : 0 ≤ z ∧ z < 10) : Wp d 268 0 [.ref 116, .int (iI z)] [] (hp X s) Q = Q (some (.int (iI (s 116 z)))) (hp X s) := c_cellG rfl ⟨rfl, by decide⟩ (by decide) h
theorem c_cell_117 (h : 0 ≤ z ∧ z < 10) : Wp d 268 0 [.ref 117, .int (iI z)] [] (hp X s) Q = Q (some (.int (iI (s 117 z)))) (hp X s) := c_cellG rfl ⟨rfl, by decide⟩ (by decide) h
theorem c_cell_118 (h : 0 ≤ z ∧ z < 10) : Wp d 268 0 [.ref 118, .int (iI z)] [] (hp X s) Q = Q (some (.int (iI (s 118 z)))) (hp X s) := c_cellG rfl ⟨rfl, by decide⟩ (by decide) h
theorem c_cell_120 (h : 0 ≤ z ∧ z < 8) : Wp d 268 0 [.ref 120, .int (iI z)] [] (hp X s) Q = Q (some (.int (iI (s 120 z)))) (hp X s) := c_cellG rfl ⟨rfl, by decide⟩ (by decide) h
theorem c_raise_61 (h : 0 ≤ z ∧ z < 22) : Wp d 269 0 [.ref 61, .int (iI z), .int (iI v)] [] (hp X s) Q = Q none (hp X (u s 61 (up (s 61) z (s 61 z + v)))) := c_raiseG rfl ⟨rfl, by decide⟩ (by decide) h
theorem c_raise_107 (h : 0 ≤ z ∧ z < 22) : Wp d 269 0 [.ref 107, .int (iI z), .int (iI v)] [] (hp X s) Q = Q none (hp X (u s 107 (up (s 107) z (s 107 z + v)))) := c_raiseG rfl ⟨rfl, by decide⟩ (by decide) h
theorem c_raise_113 (h : 0 ≤ z ∧ z < 22) : Wp d 269 0 [.ref 113, .int (iI z), .int (iI v)] [] (hp X s) Q = Q none (hp X (u s 113 (up (s 113) z (s 113 z + v)))) := c_raiseG rfl ⟨rfl, by decide⟩ (by decide) h
theorem c_raise_62 (h : 0 ≤ z ∧ z < 6) : Wp d 269 0 [.ref 62, .int (iI z), .int (iI v)] [] (hp X s) Q = Q none (hp X (u s 62 (up (s 62) z (s 62 z + v)))) := c_raiseG rfl ⟨rfl, by decide⟩ (by decide) h
theorem c_raise_63 (h : 0 ≤ z ∧ z < 6) : Wp d 269 0 [.ref 63, .int (iI z), .int (iI v)] [] (hp X s) Q = Q none (hp X (u s 63 (up (s 63) z (s 63 z + v)))) := c_raiseG rfl ⟨rfl, by decide⟩ (by decide) h
theorem c_raise_108 (h : 0 ≤ z ∧ z < 6) : Wp d 269 0 [.ref 108, .int (iI z), .int (iI v)] [] (hp X s) Q = Q none (hp X (u s 108 (up (s 108) z (s 108 z + v)))) := c_raiseG rfl ⟨rfl, by decide⟩ (by decide) h
theorem c_raise_109 (h : 0 ≤ z ∧ z < 6) : Wp d 269 0 [.ref 109, .int (iI z), .int (iI v)] [] (hp X s) Q = Q none (hp X (u s 109 (up (s 109) z (s 109 z + v)))) := c_raiseG rfl ⟨rfl, by decide⟩ (by decide) h
theorem c_raise_114 (h : 0 ≤ z ∧ z < 6) : Wp d 269 0 [.ref 114, .int (iI z), .int (iI v)] [] (hp X s) Q = Q none (hp X (u s 114 (up (s 114) z (s 114 z + v)))) := c_raiseG rfl ⟨rfl, by decide⟩ (by decide) h
theorem c_raise_115 (h : 0 ≤ z ∧ z < 6) : Wp d 269 0 [.ref 115, .int (iI z), .int (iI v)] [] (hp X s) Q = Q none (hp X (u s 115 (up (s 115) z (s 115 z + v)))) := c_raiseG rfl ⟨rfl, by decide⟩ (by decide) h
theorem c_raise_64 (h : 0 ≤ z ∧ z < 10) : Wp d 269 0 [.ref 64, .int (iI z), .int (iI v)] [] (hp X s) Q = Q none (hp X (u s 64 (up (s 64) z (s 64 z + v)))) := c_raiseG rfl ⟨rfl, by decide⟩ (by decide) h
theorem c_raise_65 (h : 0 ≤ z ∧ z < 10) : Wp d 269 0 [.ref 65, .int (iI z), .int (iI v)] [] (hp X s) Q = Q none (hp X (u s 65 (up (s 65) z (s 65 z + v)))) := c_raiseG rfl ⟨rfl, by decide⟩ (by decide) h
theorem c_raise_110 (h : 0 ≤ z ∧ z < 10) : Wp d 269 0 [.ref 110, .int (iI z), .int (iI v)] [] (hp X s) Q = Q none (hp X (u s 110 (up (s 110) z (s 110 z + v)))) := c_raiseG rfl ⟨rfl, by decide⟩ (by decide) h
theorem c_raise_111 (h : 0 ≤ z ∧ z < 10) : Wp d 269 0 [.ref 111, .int (iI z), .int (iI v)] [] (hp X s) Q = Q none (hp X (u s 111 (up (s 111) z (s 111 z + v)))) := c_raiseG rfl ⟨rfl, by decide⟩ (by decide) h
theorem c_raise_116 (h : 0 ≤ z ∧ z < 10) : Wp d 269 0 [.ref 116, .int (iI z), .int (iI v)] [] (hp X s) Q = Q none (hp X (u s 116 (up (s 116) z (s 116 z + v)))) := c_raiseG rfl ⟨rfl, by decide⟩ (by decide) h
theorem c_raise_117 (h : 0 ≤ z ∧ z < 10) : Wp d 269 0 [.ref 117, .int (iI z), .int (iI v)] [] (hp X s) Q = Q none (hp X (u s 117 (up (s 117) z (s 117 z + v)))) := c_raiseG rfl ⟨rfl, by decide⟩ (by decide) h
theorem c_raise_120 (h : 0 ≤ z ∧ z < 8) : Wp d 269 0 [.ref 120, .int (iI z), .int (iI v)] [] (hp X s) Q = Q none (hp X (u s 120 (up (s 120) z (s 120 z + v)))) := c_raiseG rfl ⟨rfl, by decide⟩ (by decide) h
/-- a law's rows -/
theorem c_cell_L (hk : isLw k) : ∀ (d : Nat) (X : hX) (s : sg) (Q : Option Value → aH → Prop) (z : Int), (0 ≤ z ∧ z < 300 → Wp d 268 0 [.ref (k + 1), .int (iI z)] [] (hp X s) Q = Q (some (.int (iI (s (k + 1) z)))) (hp X s)) ∧ (0 ≤ z ∧ z < 10 → Wp d 268 0 [.ref (k + 2), .int (iI z)] [] (hp X s) Q = Q (some (.int (iI (s (k + 2) z)))) (hp X s)) ∧ (0 ≤ z ∧ z < 10 → Wp d 268 0 [.ref (k + 3), .int (iI z)] [] (hp X s) Q = Q (some (.int (iI (s (k + 3) z)))) (hp X s)) ∧ (0 ≤ z ∧ z < 10 → Wp d 268 0 [.ref (k + 4), .int (iI z)] [] (hp X s) Q = Q (some (.int (iI (s (k + 4) z)))) (hp X s)) := by
  intro d X s Q z
  unfold isLw at hk
  rcases hk with e | e | e | e | e | e | e <;> subst e <;> exact ⟨fun h => c_cellG rfl ⟨rfl, by decide⟩ (by decide) h, fun h => c_cellG rfl ⟨rfl, by decide⟩ (by decide) h, fun h => c_cellG rfl ⟨rfl, by decide⟩ (by decide) h, fun h => c_cellG rfl ⟨rfl, by decide⟩ (by decide) h⟩
/-- a law's rows' lengths -/
theorem H_Ln (hk : isLw k) {X : hX} {s : sg} : lnOK (hp X s) (k + 3) = True ∧ lnOK (hp X s) (k + 4) = True := by
  have h := H_Lw hk (X := X) (s := s)
  exact ⟨(ok_1 h.2.2.2.2.2.2.2.2.2.2.2.1 (by decide)).2.2, (ok_1 h.2.2.2.2.2.2.2.2.2.2.2.2 (by decide)).2.2⟩
end CELL
