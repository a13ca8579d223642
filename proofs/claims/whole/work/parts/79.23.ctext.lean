/-! PARSING, the class: clauses, the whole text -/
/-- all cells but those of the law k and the list's -/
def FX (k : Nat) (L : List Nat) (s s2 : sg) : Prop := ∀ a, nin a L = true → ¬ (k + 1 ≤ a ∧ a ≤ k + 4) → ¬ a = 1000 * k + 4 → ¬ a = 1000 * k + 5 → s2 a = s a
def lop (s : sg) (k : Nat) (q c m : Int) : sg := u (u (u (u s (k + 2) (up (s (k + 2)) q c)) (k + 3) (up (s (k + 3)) q m)) (k + 4) (up (s (k + 4)) q m)) (1000 * k + 5) (fun _ => q + 1)
section CT0
variable {s s1 s2 : sg} {k : Nat} {K : List Nat} {f : Int → Int} {c m q : Int}
theorem FX.rf (s : sg) : FX k K s s := fun _ _ _ _ _ => rfl
theorem FX.tr (h1 : FX k K s s1) (h2 : FX k K s1 s2) : FX k K s s2 := fun a e1 e2 e3 e4 => (h2 a e1 e2 e3 e4).trans (h1 a e1 e2 e3 e4)
theorem FX.up {K2 : List Nat} (h : FX k K s s1) (w : sub K K2 = true) : FX k K2 s s1 := fun a e1 e2 e3 e4 => h a (nin_sub w a e1) e2 e3 e4
theorem FX.us {y : Nat} (h : FX k K s s1) (w : nin y K = false) : FX k K s (u s1 y f) := by
  intro a e1 e2 e3 e4
  rw [u_ne (fun q => by rw [q, w] at e1; cases e1)]
  exact h a e1 e2 e3 e4
theorem FX.ww (h : FW k K s s1) : FX k K s s1 := fun a e1 e2 e3 e4 => h a e1 (by omega) e3
theorem FX.at (hk : isLw k) (h : FX k K s s1) (a : Nat) (w : nin a K = true) (w2 : a < 12 ∨ (47 < a ∧ a < 11000) ∨ 43999 < a ∨ (11999 < a ∧ a < 18000)) : s1 a = s a := h a w (by unfold isLw at hk; omega) (by unfold isLw at hk; omega) (by unfold isLw at hk; omega)
theorem FX.lp (h : FX k K s s1) : FX k K s (lop s1 k q c m) := by
  intro a e1 e2 e3 e4
  unfold lop
  rw [u_ne e4, u_ne (by omega), u_ne (by omega), u_ne (by omega)]
  exact h a e1 e2 e3 e4
theorem FX.uk {y : Nat} (h : FX k K s s1) (w : (k + 1 ≤ y ∧ y ≤ k + 4) ∨ y = 1000 * k + 4 ∨ y = 1000 * k + 5) : FX k K s (u s1 y f) := by
  intro a e1 e2 e3 e4
  rw [u_ne (by omega)]
  exact h a e1 e2 e3 e4
end CT0
section CT
variable {d : Nat} {X : hX} {s s1 s2 s3 : sg} {Q : Option Value → aH → Prop} {c j m n T w i z x v q : Int} {B : Int → Int} {k : Nat} {l : lawT}
theorem RD_fx (hk : isLw k) (f : FX k [16001, 16002, 16005, 16006] s s1) (R : RD s k B n T j) (e : s1 16005 0 = x) (hx : 0 ≤ x ∧ x ≤ T) : RD s1 k B n T x := by
  obtain ⟨⟨c1, c2, c3, c4, c5⟩, h1, h2, h3⟩ := R
  refine ⟨⟨c1, c2, c3, ?_, fun j j0 j1 => ?_⟩, ?_, e, hx⟩
  · rw [f.at hk 6005 rfl (by omega)]; exact c4
  · rw [f.at hk 8 rfl (by omega), f.at hk 9 rfl (by omega), f.at hk 10 rfl (by omega)]
    exact c5 j j0 j1
  · rw [f.at hk 16900 rfl (by omega)]; exact h1
theorem c_open (hk : isLw k) (hq : s (1000 * k + 5) 0 = q) (h : 0 ≤ q ∧ q < 10) (hm : s (1000 * k + 4) 0 = m) : Wp d 25 0 [.ref k, .int (iI c)] [] (hp X s) Q = Q none (hp X (lop s k q c m)) := by
  have hk2 := hk
  unfold isLw at hk2
  have st : ∀ (s0 : sg), s0 (1000 * k + 5) 0 = q → s0 (1000 * k + 4) 0 = m → (gS (hp X s0) k = (0, 1) ∧ gR (hp X s0) k 0 = some (k + 1) ∧ gR (hp X s0) k 1 = some (k + 2) ∧ gR (hp X s0) k 2 = some (k + 3) ∧ gR (hp X s0) k 3 = some (k + 4) ∧ gM (hp X s0) k 4 = iI m ∧ gM (hp X s0) k 5 = iI q) := by
    intro s0 e1 e2
    have w := H_Lw hk (X := X) (s := s0)
    obtain ⟨w1, w2, w3, w4, w5, w6, w7, _⟩ := w
    rw [e2] at w6
    rw [e1] at w7
    exact ⟨w1, w2, w3, w4, w5, w6, w7⟩
  have e1 : s (1000 * k + 5) 0 = q := hq
  have a0 := st s hq hm
  have a1 := st (u s (k + 2) (up (s (k + 2)) q c)) (by rw [u_ne (by omega)]; exact hq) (by rw [u_ne (by omega)]; exact hm)
  have a2 := st (u (u s (k + 2) (up (s (k + 2)) q c)) (k + 3) (up (s (k + 3)) q m)) (by rw [u_ne (by omega), u_ne (by omega)]; exact hq) (by rw [u_ne (by omega), u_ne (by omega)]; exact hm)
  have a3 := st (u (u (u s (k + 2) (up (s (k + 2)) q c)) (k + 3) (up (s (k + 3)) q m)) (k + 4) (up (s (k + 4)) q m)) (by rw [u_ne (by omega), u_ne (by omega), u_ne (by omega)]; exact hq) (by rw [u_ne (by omega), u_ne (by omega), u_ne (by omega)]; exact hm)
  have g2 : gS (hp X s) (k + 2) = (1, 10) := (H_Lw hk (X := X) (s := s)).2.2.2.2.2.2.2.2.2.2.1
  have e10 : ((10 : Nat) : Int) = 10 := rfl
  have l0 := fun (z : Int) (hz : 0 ≤ z ∧ z < 10) => (H_L hk (X := X) (s := s)).2.2.2.1 hz
  have l1 := fun (z : Int) (hz : 0 ≤ z ∧ z < 10) => (H_L hk (X := X) (s := u s (k + 2) (up (s (k + 2)) q c))).2.2.2.2.2.1 hz
  have l2 := fun (z : Int) (hz : 0 ≤ z ∧ z < 10) => (H_L hk (X := X) (s := u (u s (k + 2) (up (s (k + 2)) q c)) (k + 3) (up (s (k + 3)) q m))).2.2.2.2.2.2.2.1 hz
  have ln := (H_L hk (X := X) (s := s)).2.2.2.2.2.2.2.2.2
  have p0 : ∀ {z v : Int}, 0 ≤ z ∧ z < 2147483648 → pM (hp X s) (k + 2) (ix (iI z)) (iI v) = hp X (u s (k + 2) (up (s (k + 2)) z v)) := fun hz => (H_La hk (X := X) (s := s) (j := 2) (by omega)).2 hz
  have p1 : ∀ {z v : Int}, 0 ≤ z ∧ z < 2147483648 → pM (hp X (u s (k + 2) (up (s (k + 2)) q c))) (k + 3) (ix (iI z)) (iI v) = hp X (u (u s (k + 2) (up (s (k + 2)) q c)) (k + 3) (up (s (k + 3)) z v)) := by
    intro z v hz
    have y := (H_La hk (X := X) (s := u s (k + 2) (up (s (k + 2)) q c)) (j := 3) (by omega)).2 (z := z) (v := v) hz
    rw [u_ne (k := k + 3) (by omega)] at y
    exact y
  have p2 : ∀ {z v : Int}, 0 ≤ z ∧ z < 2147483648 → pM (hp X (u (u s (k + 2) (up (s (k + 2)) q c)) (k + 3) (up (s (k + 3)) q m))) (k + 4) (ix (iI z)) (iI v) = hp X (u (u (u s (k + 2) (up (s (k + 2)) q c)) (k + 3) (up (s (k + 3)) q m)) (k + 4) (up (s (k + 4)) z v)) := by
    intro z v hz
    have y := (H_La hk (X := X) (s := u (u s (k + 2) (up (s (k + 2)) q c)) (k + 3) (up (s (k + 3)) q m)) (j := 4) (by omega)).2 (z := z) (v := v) hz
    rw [u_ne (k := k + 4) (by omega), u_ne (k := k + 4) (by omega)] at y
    exact y
  have p3 : ∀ {v : Int}, pM (hp X (u (u (u s (k + 2) (up (s (k + 2)) q c)) (k + 3) (up (s (k + 3)) q m)) (k + 4) (up (s (k + 4)) q m))) k 5 (iI v) = hp X (u (u (u (u s (k + 2) (up (s (k + 2)) q c)) (k + 3) (up (s (k + 3)) q m)) (k + 4) (up (s (k + 4)) q m)) (1000 * k + 5) (fun _ => v)) := (H_Lw hk (X := X)).2.2.2.2.2.2.2.2.1
  unfold lop
  simp (disch := first | omega | exact okF _ | exact okI _ | exact okR _ | assumption | exact okN) only [S_25_0, S_25_1, S_25_4, S_25_5, S_25_8, S_25_9, S_25_12, S_25_13, S_25_16, S_25_17, S_25_20, S_25_21, S_25_22, S_25_23, S_25_26, S_25_27, S_25_30, S_25_31, S_25_34, S_25_35, S_25_36, S_25_39, S_25_40, S_25_43, S_25_44, S_25_47, S_25_48, S_25_49, S_25_49_r, S_25_50, S_25_53, S_25_54, S_25_55, S_25_58, u_at, iI_zero, iI_31, iI_add, iI_sub, iI_mul, iI_neg, ↓iI_max, ↓iI_min, iI_div, emod_f, iI_lt, iI_le, iI_inj, iI_toInt, ↓ii01, ↓ii11, ↓bI_b, bI_0, bI_1, Kt_s, Kt_n, cat0, cat1, cat2, cat3, cat4, rfV, Nat.reduceAdd, Nat.reduceMul, Nat.reduceEqDiff, Int.reduceAdd, Int.reduceSub, Int.reduceMul, Int.reduceNeg, Int.reduceLT, Int.reduceLE, Int.reduceEq, Int.reduceDiv, ↓reduceIte, ↓ite_ww, ↓ite_wi, Br_n, Br_TW, Br_FW, Br_FP, Br_FB, nn_p, and_true, true_and, and_self, true_or, or_true, not_true_eq_false, not_false_eq_true, le_T, le_F, lt_T, lt_F, eq_T, eq_F, Int.add_zero, Int.zero_add, Int.one_mul, Int.mul_one, up_eq, up_ne, Int.add_assoc, Int.add_sub_cancel, Int.sub_zero, Int.sub_self, a0, a1, a2, a3, g2, e10, l0, l1, l2, ln, p0, p1, p2, p3]
theorem c_shut (hk : isLw k) (hq : s (1000 * k + 5) 0 = q + 1) (h : 0 ≤ q ∧ q < 10) (hm : s (1000 * k + 4) 0 = m) : Wp d 26 0 [.ref k] [] (hp X s) Q = Q none (hp X (u s (k + 4) (up (s (k + 4)) q m))) := by
  have w := H_Lw hk (X := X) (s := s)
  obtain ⟨w1, w2, w3, w4, w5, w6, w7, _⟩ := w
  have l2 := fun (z : Int) (hz : 0 ≤ z ∧ z < 10) => (H_L hk (X := X) (s := s)).2.2.2.2.2.2.2.1 hz
  have p2 : ∀ {z v : Int}, 0 ≤ z ∧ z < 2147483648 → pM (hp X s) (k + 4) (ix (iI z)) (iI v) = hp X (u s (k + 4) (up (s (k + 4)) z v)) := fun hz => (H_La hk (X := X) (s := s) (j := 4) (by omega)).2 hz
  have ln := (H_Ln hk (X := X) (s := s)).2
  have w13 : gS (hp X s) (k + 4) = (1, 10) := (H_Lw hk (X := X) (s := s)).2.2.2.2.2.2.2.2.2.2.2.2
  simp (disch := first | omega | exact okF _ | exact okI _ | exact okR _ | assumption | exact okN) only [S_26_0, S_26_1, S_26_4, S_26_7, S_26_8, S_26_11, S_26_12, S_26_15, S_26_16, S_26_19, S_26_20, S_26_23, S_26_24, S_26_27, S_26_28, S_26_29, S_26_30, S_26_33, S_26_34, u_at, iI_zero, iI_31, iI_add, iI_sub, iI_mul, iI_neg, ↓iI_max, ↓iI_min, iI_div, emod_f, iI_lt, iI_le, iI_inj, iI_toInt, ↓ii01, ↓ii11, ↓bI_b, bI_0, bI_1, Kt_s, Kt_n, cat0, cat1, cat2, cat3, cat4, rfV, Nat.reduceAdd, Nat.reduceMul, Nat.reduceEqDiff, Int.reduceAdd, Int.reduceSub, Int.reduceMul, Int.reduceNeg, Int.reduceLT, Int.reduceLE, Int.reduceEq, Int.reduceDiv, ↓reduceIte, ↓ite_ww, ↓ite_wi, Br_n, Br_TW, Br_FW, Br_FP, Br_FB, nn_p, and_true, true_and, and_self, true_or, or_true, not_true_eq_false, not_false_eq_true, le_T, le_F, lt_T, lt_F, eq_T, eq_F, Int.add_zero, Int.zero_add, Int.one_mul, Int.mul_one, up_eq, up_ne, Int.add_assoc, Int.add_sub_cancel, Int.sub_zero, Int.sub_self, w1, w5, w6, w7, hq, hm, l2, p2, ln, w13]
/-- a clause more -/
theorem lC_snoc {c : Int × opl} : ∀ {i : Int} {l : lawT}, lC s k i l → (∀ y, i ≤ y → y < i + l.length → s (k + 4) y ≤ m) → (∀ y, i ≤ y → y < i + l.length → s2 (k + 2) y = s (k + 2) y ∧ s2 (k + 3) y = s (k + 3) y ∧ s2 (k + 4) y = s (k + 4) y) → (∀ z, z < m → s2 (k + 1) z = s (k + 1) z) → (s2 (k + 2) (i + l.length) = c.1 ∧ s2 (k + 3) (i + l.length) = m ∧ s2 (k + 4) (i + l.length) = m + c.2.length ∧ 0 ≤ m ∧ m + c.2.length ≤ 300 ∧ seg (s2 (k + 1)) m (c.2.map enc)) → s2 (1000 * k + 5) 0 = i + l.length + 1 → lC s2 k i (l ++ [c])
  | i, [], h, h1, h2, h3, ⟨h4, h5, h6, h7, h8, h9⟩, h10 => by
    have e : i + (([] : lawT).length : Int) = i := by simp
    rw [e] at h4 h5 h6 h10
    refine ⟨⟨h4, by omega, by omega, by omega, by rw [h5]; exact h9⟩, ?_⟩
    show s2 (1000 * k + 5) 0 = i + 1
    exact h10
  | i, a :: r, h, h1, h2, h3, h4, h5 => by
    have el : ((a :: r).length : Int) = r.length + 1 := by simp
    have e : i + ((a :: r).length : Int) = i + 1 + r.length := by omega
    rw [e] at h4 h5
    obtain ⟨⟨a1, a2, a3, a4, a5⟩, ht⟩ := h
    obtain ⟨b1, b2, b3⟩ := h2 i (by omega) (by omega)
    have b4 := h1 i (by omega) (by omega)
    refine ⟨⟨by rw [b1]; exact a1, by rw [b2]; exact a2, by rw [b3, b2]; exact a3, by rw [b3]; exact a4, ?_⟩, lC_snoc ht (fun y y0 y1 => h1 y (by omega) (by omega)) (fun y y0 y1 => h2 y (by omega) (by omega)) h3 h4 h5⟩
    rw [b2]
    refine seg_cg (fun z _ z1 => h3 z ?_) a5
    simp at z1
    omega
theorem fidx_in (hl : lawOK l) (w : Int) : (¬ fidx l w 0 = -1) ↔ ∃ c ∈ l, c.1 = w := by
  constructor
  · intro h
    cases hk : look l w with
    | none => exact absurd (fidx_n hk) h
    | some c => exact ⟨(w, c), look_in hk, rfl⟩
  · intro ⟨c, hc, e⟩ h
    cases hk : look l w with
    | none =>
      have key : ∀ l : lawT, look l w = none → ∀ q ∈ l, ¬ q.1 = w := by
        intro l
        induction l with
        | nil => intro _ q hq; cases hq
        | cons a r ih =>
          intro hn q hq
          unfold look at hn
          by_cases x : a.1 = w
          · rw [if_pos x] at hn; cases hn
          · rw [if_neg x] at hn
            rcases List.mem_cons.mp hq with y | y
            · rw [y]; exact x
            · exact ih hn q y
      exact key l hk c hc e
    | some c2 => have := fidx_s hl hk; omega
/-- what a law being read holds -/
def LR (s : sg) (k : Nat) (l : lawT) (m : Int) : Prop := lC s k 0 l ∧ lawOK l ∧ (∀ y : Int, 0 ≤ y → y < l.length → s (k + 4) y ≤ m) ∧ s (1000 * k + 4) 0 = m
theorem c_clause (hnn : 0 ≤ n) (hk : isLw k) (R : RD s k B n T j) (hL : LR s k l m) (hmj : 0 ≤ m ∧ m ≤ j)
    (k1 : (pCl (kd B n) (nu B n) l j).1 = 0 → ∀ s' m', FX k [16005, 16006] s s' → RD s' k B n T (pCl (kd B n) (nu B n) l j).2.1 → LR s' k (l ++ [(pCl (kd B n) (nu B n) l j).2.2]) m' → (0 ≤ m' ∧ m' ≤ (pCl (kd B n) (nu B n) l j).2.1) → Q (some (.int (iI 1))) (hp X s'))
    (k0 : ¬ (pCl (kd B n) (nu B n) l j).1 = 0 → ∀ s', FX k [16001, 16002, 16005, 16006] s s' → s' 16001 0 = (pCl (kd B n) (nu B n) l j).1 → s' 16002 0 = pla B n (pCl (kd B n) (nu B n) l j).2.1 → Q (some (.int (iI 0))) (hp X s')) : Wp (d + 39) 44 0 [.ref 16, .float 0] [] (hp X s) Q := by
  have hV := nu_p (B := B) hnn
  have hj := R.2.2.2
  have hT := R.1.2.2.1
  have n300 := R.1.1
  have kr := (kd_r (B := B) (n := n) (j := j) hnn hj.1).1
  obtain ⟨hC, hl, hst, hm⟩ := hL
  have hlen := hl.1
  have hcl := lC_len hC
  have RQ := R.2.1
  have gk : gS (hp X s) k = (0, 1) := (H_Lw hk).1
  have R6 : RD (u s 16006 (fun _ => kd B n j)) k B n T j := RD_fx hk ((FX.rf s).us rfl) R R.2.2.1 hj
  have fl := fun (d : Nat) (Q : Option Value → aH → Prop) (x : Int) => c_fail (d := d) (X := X) (Q := Q) (x := x) R6
  have fx : ∀ x, FX k [16001, 16002, 16005, 16006] s (u (u (u s 16006 (fun _ => kd B n j)) 16001 (fun _ => x)) 16002 (fun _ => pla B n j)) := fun x => (((FX.rf s).us rfl).us rfl).us rfl
  by_cases c1 : 4 < kd B n j
  · have ep : pCl (kd B n) (nu B n) l j = (1, j, (0, [])) := by unfold pCl; rw [if_pos c1]
    have k0 := k0 (by rw [ep]; show ¬ (1 : Int) = 0; omega) _ (fx 1) (by rw [ep]; rfl) (by rw [ep]; rfl)
    repeat' (first | (with_reducible refine Br_i ?_ ?_ <;> (intro hbr; first | exact False.elim hbr | skip)) | (with_reducible refine Wl_i ?_) | (simp (disch := first | omega | exact okF _ | exact okI _ | exact okR _ | assumption | exact okN) only [u_at, iI_zero, iI_31, iI_add, iI_sub, iI_mul, iI_neg, ↓iI_max, ↓iI_min, iI_div, emod_f, iI_lt, iI_le, iI_inj, iI_toInt, ↓ii01, ↓ii11, ↓bI_b, bI_0, bI_1, Kt_s, Kt_n, cat0, cat1, cat2, cat3, cat4, rfV, Nat.reduceAdd, Nat.reduceMul, Nat.reduceEqDiff, Int.reduceAdd, Int.reduceSub, Int.reduceMul, Int.reduceNeg, Int.reduceLT, Int.reduceLE, Int.reduceEq, Int.reduceDiv, ↓reduceIte, ↓ite_ww, ↓ite_wi, Br_n, Br_TW, Br_FW, Br_FP, Br_FB, nn_p, and_true, true_and, and_self, true_or, or_true, not_true_eq_false, not_false_eq_true, le_T, le_F, lt_T, lt_F, eq_T, eq_F, Int.add_zero, Int.zero_add, Int.one_mul, Int.mul_one, up_eq, up_ne, Int.add_assoc, Int.add_sub_cancel, Int.sub_zero, Int.sub_self, S_44_0, S_44_1, S_44_2, S_44_5, S_44_8, S_44_9, S_44_12, S_44_13, S_44_16, S_44_17, S_44_18, S_44_21, S_44_22, S_44_23, S_44_26, S_44_27, S_44_30, S_44_31, S_44_34, S_44_35, S_44_38, S_44_41, S_44_42, S_44_45, S_44_46, S_44_47, S_44_50, S_44_51, S_44_52, S_44_55, S_44_58, S_44_60, S_44_63, S_44_64, S_44_66, S_44_69, S_44_70, S_44_71, S_44_74, S_44_75, S_44_78, S_44_81, S_44_82, S_44_82_r, S_44_83, S_44_86, S_44_87, S_44_88, S_44_91, S_44_92, S_44_95, S_44_96, S_44_99, S_44_100, S_44_103, S_44_106, S_44_107, S_44_108, S_44_111, S_44_112, S_44_113, S_44_116, S_44_117, S_44_118, S_44_119, S_44_122, S_44_124, S_44_127, S_44_128, S_44_129, S_44_132, S_44_133, S_44_134, S_44_137, S_44_140, S_44_141, S_44_141_r, S_44_142, S_44_145, S_44_146, S_44_147, S_44_150, S_44_151, H_16, c_kind R, fl]))
    exact k0
  · have h6C : lC (u s 16006 (fun _ => kd B n j)) k 0 l := lC_cg ⟨u_ne (by unfold isLw at hk; omega), u_ne (by unfold isLw at hk; omega), u_ne (by unfold isLw at hk; omega), u_ne (by unfold isLw at hk; omega), u_ne (by unfold isLw at hk; omega)⟩ hC
    have fd := fun (d : Nat) (Q : Option Value → aH → Prop) => c_find (d := d) (X := X) (Q := Q) (w := kd B n j) hk h6C hl (by omega)
    have fr := fidx_r (l := l) (w := kd B n j) (i := 0) (by omega)
    have fr2 : -1 ≤ fidx l (kd B n j) 0 ∧ fidx l (kd B n j) 0 ≤ 10 := by
      rcases fr with ⟨_, x⟩ | ⟨_, _, x, y⟩ <;> omega
    clear fr
    have fi := fidx_in hl (kd B n j)
    have g6 : gM (hp X (u s 16006 (fun _ => kd B n j))) k 5 = iI (l.length : Int) := by
      have y := (H_Lw hk (X := X) (s := u s 16006 (fun _ => kd B n j))).2.2.2.2.2.2.1
      rw [u_ne (by unfold isLw at hk; omega), hcl, Int.zero_add] at y
      exact y
    have gk6 : gS (hp X (u s 16006 (fun _ => kd B n j))) k = (0, 1) := (H_Lw hk).1
    by_cases c2 : ¬ kd B n j = 4 ∧ ∃ c ∈ l, c.1 = kd B n j
    · have ep : pCl (kd B n) (nu B n) l j = (4, j, (0, [])) := by unfold pCl; rw [if_neg c1, if_pos c2]
      have k0 := k0 (by rw [ep]; show ¬ (4 : Int) = 0; omega) _ (fx 4) (by rw [ep]; rfl) (by rw [ep]; rfl)
      have c3 := fi.mpr c2.2
      have c21 := c2.1
      repeat' (first | (with_reducible refine Br_i ?_ ?_ <;> (intro hbr; first | exact False.elim hbr | skip)) | (with_reducible refine Wl_i ?_) | (simp (disch := first | omega | exact okF _ | exact okI _ | exact okR _ | assumption | exact okN) only [u_at, iI_zero, iI_31, iI_add, iI_sub, iI_mul, iI_neg, ↓iI_max, ↓iI_min, iI_div, emod_f, iI_lt, iI_le, iI_inj, iI_toInt, ↓ii01, ↓ii11, ↓bI_b, bI_0, bI_1, Kt_s, Kt_n, cat0, cat1, cat2, cat3, cat4, rfV, Nat.reduceAdd, Nat.reduceMul, Nat.reduceEqDiff, Int.reduceAdd, Int.reduceSub, Int.reduceMul, Int.reduceNeg, Int.reduceLT, Int.reduceLE, Int.reduceEq, Int.reduceDiv, ↓reduceIte, ↓ite_ww, ↓ite_wi, Br_n, Br_TW, Br_FW, Br_FP, Br_FB, nn_p, and_true, true_and, and_self, true_or, or_true, not_true_eq_false, not_false_eq_true, le_T, le_F, lt_T, lt_F, eq_T, eq_F, Int.add_zero, Int.zero_add, Int.one_mul, Int.mul_one, up_eq, up_ne, Int.add_assoc, Int.add_sub_cancel, Int.sub_zero, Int.sub_self, S_44_0, S_44_1, S_44_2, S_44_5, S_44_8, S_44_9, S_44_12, S_44_13, S_44_16, S_44_17, S_44_18, S_44_21, S_44_22, S_44_23, S_44_26, S_44_27, S_44_30, S_44_31, S_44_34, S_44_35, S_44_38, S_44_41, S_44_42, S_44_45, S_44_46, S_44_47, S_44_50, S_44_51, S_44_52, S_44_55, S_44_58, S_44_60, S_44_63, S_44_64, S_44_66, S_44_69, S_44_70, S_44_71, S_44_74, S_44_75, S_44_78, S_44_81, S_44_82, S_44_82_r, S_44_83, S_44_86, S_44_87, S_44_88, S_44_91, S_44_92, S_44_95, S_44_96, S_44_99, S_44_100, S_44_103, S_44_106, S_44_107, S_44_108, S_44_111, S_44_112, S_44_113, S_44_116, S_44_117, S_44_118, S_44_119, S_44_122, S_44_124, S_44_127, S_44_128, S_44_129, S_44_132, S_44_133, S_44_134, S_44_137, S_44_140, S_44_141, S_44_141_r, S_44_142, S_44_145, S_44_146, S_44_147, S_44_150, S_44_151, H_16, c_kind R, rq_n, RQ, gk6, fd, c21, c3, fl]))
      exact k0
    · have pre : (Wp (d + 38 + 1) 44 51 [.ref 16, .float 0] [] (hp X (u s 16006 (fun _ => kd B n j))) Q) → Wp (d + 39) 44 0 [.ref 16, .float 0] [] (hp X s) Q := by
        intro y
        by_cases c4 : kd B n j = 4
        · rw [c4] at y
          repeat' (first | (with_reducible refine Br_i ?_ ?_ <;> (intro hbr; first | exact False.elim hbr | skip)) | (with_reducible refine Wl_i ?_) | (simp (disch := first | omega | exact okF _ | exact okI _ | exact okR _ | assumption | exact okN) only [u_at, iI_zero, iI_31, iI_add, iI_sub, iI_mul, iI_neg, ↓iI_max, ↓iI_min, iI_div, emod_f, iI_lt, iI_le, iI_inj, iI_toInt, ↓ii01, ↓ii11, ↓bI_b, bI_0, bI_1, Kt_s, Kt_n, cat0, cat1, cat2, cat3, cat4, rfV, Nat.reduceAdd, Nat.reduceMul, Nat.reduceEqDiff, Int.reduceAdd, Int.reduceSub, Int.reduceMul, Int.reduceNeg, Int.reduceLT, Int.reduceLE, Int.reduceEq, Int.reduceDiv, ↓reduceIte, ↓ite_ww, ↓ite_wi, Br_n, Br_TW, Br_FW, Br_FP, Br_FB, nn_p, and_true, true_and, and_self, true_or, or_true, not_true_eq_false, not_false_eq_true, le_T, le_F, lt_T, lt_F, eq_T, eq_F, Int.add_zero, Int.zero_add, Int.one_mul, Int.mul_one, up_eq, up_ne, Int.add_assoc, Int.add_sub_cancel, Int.sub_zero, Int.sub_self, S_44_0, S_44_1, S_44_2, S_44_5, S_44_8, S_44_9, S_44_12, S_44_13, S_44_16, S_44_17, S_44_18, S_44_21, S_44_22, S_44_23, S_44_26, S_44_27, S_44_30, S_44_31, S_44_34, S_44_35, S_44_38, S_44_41, S_44_42, S_44_45, S_44_46, S_44_47, S_44_50, S_44_52, S_44_55, S_44_58, S_44_60, S_44_63, S_44_64, S_44_66, S_44_69, S_44_70, S_44_71, S_44_74, S_44_75, S_44_78, S_44_81, S_44_82, S_44_82_r, S_44_83, S_44_86, S_44_87, S_44_88, S_44_91, S_44_92, S_44_95, S_44_96, S_44_99, S_44_100, S_44_103, S_44_106, S_44_107, S_44_108, S_44_111, S_44_112, S_44_113, S_44_116, S_44_117, S_44_118, S_44_119, S_44_122, S_44_124, S_44_127, S_44_128, S_44_129, S_44_132, S_44_133, S_44_134, S_44_137, S_44_140, S_44_141, S_44_141_r, S_44_142, S_44_145, S_44_146, S_44_147, S_44_150, S_44_151, H_16, c_kind R, c4]))
          exact y
        · have c3 : fidx l (kd B n j) 0 = -1 := Classical.byContradiction fun x => c2 ⟨c4, fi.mp x⟩
          repeat' (first | (with_reducible refine Br_i ?_ ?_ <;> (intro hbr; first | exact False.elim hbr | skip)) | (with_reducible refine Wl_i ?_) | (simp (disch := first | omega | exact okF _ | exact okI _ | exact okR _ | assumption | exact okN) only [u_at, iI_zero, iI_31, iI_add, iI_sub, iI_mul, iI_neg, ↓iI_max, ↓iI_min, iI_div, emod_f, iI_lt, iI_le, iI_inj, iI_toInt, ↓ii01, ↓ii11, ↓bI_b, bI_0, bI_1, Kt_s, Kt_n, cat0, cat1, cat2, cat3, cat4, rfV, Nat.reduceAdd, Nat.reduceMul, Nat.reduceEqDiff, Int.reduceAdd, Int.reduceSub, Int.reduceMul, Int.reduceNeg, Int.reduceLT, Int.reduceLE, Int.reduceEq, Int.reduceDiv, ↓reduceIte, ↓ite_ww, ↓ite_wi, Br_n, Br_TW, Br_FW, Br_FP, Br_FB, nn_p, and_true, true_and, and_self, true_or, or_true, not_true_eq_false, not_false_eq_true, le_T, le_F, lt_T, lt_F, eq_T, eq_F, Int.add_zero, Int.zero_add, Int.one_mul, Int.mul_one, up_eq, up_ne, Int.add_assoc, Int.add_sub_cancel, Int.sub_zero, Int.sub_self, S_44_0, S_44_1, S_44_2, S_44_5, S_44_8, S_44_9, S_44_12, S_44_13, S_44_16, S_44_17, S_44_18, S_44_21, S_44_22, S_44_23, S_44_26, S_44_27, S_44_30, S_44_31, S_44_34, S_44_35, S_44_38, S_44_41, S_44_42, S_44_45, S_44_46, S_44_47, S_44_50, S_44_52, S_44_55, S_44_58, S_44_60, S_44_63, S_44_64, S_44_66, S_44_69, S_44_70, S_44_71, S_44_74, S_44_75, S_44_78, S_44_81, S_44_82, S_44_82_r, S_44_83, S_44_86, S_44_87, S_44_88, S_44_91, S_44_92, S_44_95, S_44_96, S_44_99, S_44_100, S_44_103, S_44_106, S_44_107, S_44_108, S_44_111, S_44_112, S_44_113, S_44_116, S_44_117, S_44_118, S_44_119, S_44_122, S_44_124, S_44_127, S_44_128, S_44_129, S_44_132, S_44_133, S_44_134, S_44_137, S_44_140, S_44_141, S_44_141_r, S_44_142, S_44_145, S_44_146, S_44_147, S_44_150, S_44_151, H_16, c_kind R, rq_n, RQ, gk6, fd, c4, c3]))
          exact y
      refine pre ?_
      replace c2 := Hd_i c2
      clear fi fd pre
      by_cases c3 : 10 ≤ l.length
      · have ep : pCl (kd B n) (nu B n) l j = (6, j, (0, [])) := by unfold pCl; rw [if_neg c1, if_neg (Hd_o c2), if_pos c3]
        have k0 := k0 (by rw [ep]; show ¬ (6 : Int) = 0; omega) _ (fx 6) (by rw [ep]; rfl) (by rw [ep]; rfl)
        repeat' (first | (with_reducible refine Br_i ?_ ?_ <;> (intro hbr; first | exact False.elim hbr | skip)) | (with_reducible refine Wl_i ?_) | (simp (disch := first | omega | exact okF _ | exact okI _ | exact okR _ | assumption | exact okN) only [u_at, iI_zero, iI_31, iI_add, iI_sub, iI_mul, iI_neg, ↓iI_max, ↓iI_min, iI_div, emod_f, iI_lt, iI_le, iI_inj, iI_toInt, ↓ii01, ↓ii11, ↓bI_b, bI_0, bI_1, Kt_s, Kt_n, cat0, cat1, cat2, cat3, cat4, rfV, Nat.reduceAdd, Nat.reduceMul, Nat.reduceEqDiff, Int.reduceAdd, Int.reduceSub, Int.reduceMul, Int.reduceNeg, Int.reduceLT, Int.reduceLE, Int.reduceEq, Int.reduceDiv, ↓reduceIte, ↓ite_ww, ↓ite_wi, Br_n, Br_TW, Br_FW, Br_FP, Br_FB, nn_p, and_true, true_and, and_self, true_or, or_true, not_true_eq_false, not_false_eq_true, le_T, le_F, lt_T, lt_F, eq_T, eq_F, Int.add_zero, Int.zero_add, Int.one_mul, Int.mul_one, up_eq, up_ne, Int.add_assoc, Int.add_sub_cancel, Int.sub_zero, Int.sub_self, S_44_0, S_44_1, S_44_2, S_44_5, S_44_8, S_44_9, S_44_12, S_44_13, S_44_16, S_44_17, S_44_18, S_44_21, S_44_22, S_44_23, S_44_26, S_44_27, S_44_30, S_44_31, S_44_34, S_44_35, S_44_38, S_44_41, S_44_42, S_44_45, S_44_46, S_44_47, S_44_50, S_44_51, S_44_52, S_44_55, S_44_58, S_44_60, S_44_63, S_44_64, S_44_66, S_44_69, S_44_70, S_44_71, S_44_74, S_44_75, S_44_78, S_44_81, S_44_82, S_44_82_r, S_44_83, S_44_86, S_44_87, S_44_88, S_44_91, S_44_92, S_44_95, S_44_96, S_44_99, S_44_100, S_44_103, S_44_106, S_44_107, S_44_108, S_44_111, S_44_112, S_44_113, S_44_116, S_44_117, S_44_118, S_44_119, S_44_122, S_44_124, S_44_127, S_44_128, S_44_129, S_44_132, S_44_133, S_44_134, S_44_137, S_44_140, S_44_141, S_44_141_r, S_44_142, S_44_145, S_44_146, S_44_147, S_44_150, S_44_151, H_16, rq_n, RQ, gk6, g6, fl]))
        exact k0
      · have jT : j < T := by
          by_cases x : j = T
          · rw [x, hT] at c1; omega
          · omega
        have nx : pCl (kd B n) (nu B n) l j = if (pBody (kd B n) (nu B n) (kd B n j) (j + 1)).1 = 0 then (if kd B n (pBody (kd B n) (nu B n) (kd B n j) (j + 1)).2.1 = 30 then (0, (pBody (kd B n) (nu B n) (kd B n j) (j + 1)).2.1 + 1, (kd B n j, (pBody (kd B n) (nu B n) (kd B n j) (j + 1)).2.2)) else (1, (pBody (kd B n) (nu B n) (kd B n j) (j + 1)).2.1, (0, []))) else ((pBody (kd B n) (nu B n) (kd B n j) (j + 1)).1, (pBody (kd B n) (nu B n) (kd B n j) (j + 1)).2.1, (0, [])) := by unfold pCl; rw [if_neg c1, if_neg (Hd_o c2), if_neg c3]
        -- the state behind open
        obtain ⟨sA, esA⟩ : ∃ sA, sA = u (lop (u s 16006 (fun _ => kd B n j)) k l.length (kd B n j) m) 16005 (fun _ => j + 1) := ⟨_, rfl⟩
        have op := fun (d : Nat) (Q : Option Value → aH → Prop) => c_open (d := d) (X := X) (Q := Q) (s := u s 16006 (fun _ => kd B n j)) (q := l.length) (c := kd B n j) (m := m) hk (by rw [u_ne (by unfold isLw at hk; omega), hcl, Int.zero_add]) (by omega) (by rw [u_ne (by unfold isLw at hk; omega)]; exact hm)
        have o5 : lop (u s 16006 (fun _ => kd B n j)) k l.length (kd B n j) m 16005 0 = j := by
          have y : FX k [16006] s (lop (u s 16006 (fun _ => kd B n j)) k l.length (kd B n j) m) := ((FX.rf s).us rfl).lp
          rw [y.at hk 16005 rfl (by omega)]
          exact R.2.2.1
        have o6 : lop (u s 16006 (fun _ => kd B n j)) k l.length (kd B n j) m 16006 0 = kd B n j := by
          have y : FX k [] (u s 16006 (fun _ => kd B n j)) (lop (u s 16006 (fun _ => kd B n j)) k l.length (kd B n j) m) := (FX.rf _).lp
          rw [y.at hk 16006 rfl (by omega)]
          rfl
        have fxA : FX k [16005, 16006] s sA := by rw [esA]; exact (((FX.rf s).us rfl).lp).us rfl
        have RA : RD sA k B n T (j + 1) := RD_fx hk (fxA.up rfl) R (by rw [esA]; rfl) (by omega)
        have A6 : sA 16006 0 = kd B n j := by rw [esA, u_ne (by omega)]; exact o6
        have Am : sA (1000 * k + 4) 0 = m := by
          rw [esA, u_ne (by unfold isLw at hk; omega)]
          unfold lop
          rw [u_ne (by omega), u_ne (by unfold isLw at hk; omega), u_ne (by unfold isLw at hk; omega), u_ne (by unfold isLw at hk; omega), u_ne (by unfold isLw at hk; omega)]
          exact hm
        have Aq : sA (1000 * k + 5) 0 = l.length + 1 := by
          rw [esA, u_ne (by unfold isLw at hk; omega)]
          unfold lop
          rw [u_eq]
        have A1 : sA (k + 1) = s (k + 1) := by
          rw [esA, u_ne (by unfold isLw at hk; omega)]
          unfold lop
          rw [u_ne (by unfold isLw at hk; omega), u_ne (by omega), u_ne (by omega), u_ne (by omega), u_ne (by unfold isLw at hk; omega)]
        have A2 : sA (k + 2) = up (s (k + 2)) l.length (kd B n j) := by
          rw [esA, u_ne (by unfold isLw at hk; omega)]
          unfold lop
          rw [u_ne (by unfold isLw at hk; omega), u_ne (by omega), u_ne (by omega), u_eq, u_ne (by unfold isLw at hk; omega)]
        have A3 : sA (k + 3) = up (s (k + 3)) l.length m := by
          rw [esA, u_ne (by unfold isLw at hk; omega)]
          unfold lop
          rw [u_ne (by unfold isLw at hk; omega), u_ne (by omega), u_eq, u_ne (by unfold isLw at hk; omega)]
        have A4 : sA (k + 4) = up (s (k + 4)) l.length m := by
          rw [esA, u_ne (by unfold isLw at hk; omega)]
          unfold lop
          rw [u_ne (by unfold isLw at hk; omega), u_eq, u_ne (by unfold isLw at hk; omega)]
        have gB := pBody_g (K := kd B n) (kd B n j) hV
        obtain ⟨g1, g2, g3⟩ := gB (j + 1) (by omega)
        have gT := Gd_T gB (show 0 ≤ j + 1 by omega) hT (by omega)
        -- what follows the body
        have good : (pBody (kd B n) (nu B n) (kd B n j) (j + 1)).1 = 0 → ∀ s', FW k [16005] sA s' → s' 16005 0 = (pBody (kd B n) (nu B n) (kd B n j) (j + 1)).2.1 → s' (1000 * k + 4) 0 = m + (pBody (kd B n) (nu B n) (kd B n j) (j + 1)).2.2.length → seg (s' (k + 1)) m ((pBody (kd B n) (nu B n) (kd B n j) (j + 1)).2.2.map enc) → (∀ z, z < m → s' (k + 1) z = sA (k + 1) z) → Wp (d + 38 + 1) 44 111 [.ref 16, .float 0] [.int (iI 1)] (hp X s') Q := by
          intro z s' f' h5 h6 h7 h8
          rw [if_pos z] at nx
          obtain ⟨g5, g6, g7⟩ := g2 z
          generalize pBody (kd B n) (nu B n) (kd B n j) (j + 1) = r at *
          have R' : RD s' k B n T r.2.1 := RD_fr hk (f'.up rfl) RA h5 (by omega)
          have kr2 := (kd_r (B := B) (n := n) (j := r.2.1) hnn (by omega)).1
          by_cases c4 : kd B n r.2.1 = 30
          · rw [if_pos c4] at nx
            have rT : r.2.1 < T := by
              by_cases x : r.2.1 = T
              · rw [x, hT] at c4; omega
              · omega
            have sq : s' (1000 * k + 5) 0 = l.length + 1 := by rw [f' _ (by unfold isLw at hk; rcases hk with y | y | y | y | y | y | y <;> subst y <;> rfl) (by unfold isLw at hk; omega) (by omega)]; exact Aq
            have n4 : ∀ a, k + 2 ≤ a → a ≤ k + 4 → s' a = sA a := fun a a0 a1 => f' a (by
              have a2 : a = k + 2 ∨ a = k + 3 ∨ a = k + 4 := by omega
              unfold isLw at hk
              rcases hk with y | y | y | y | y | y | y <;> rcases a2 with x | x | x <;> subst y <;> subst x <;> rfl) (by omega) (by unfold isLw at hk; omega)
            have RQ' := R'.2.1
            have gk' : gS (hp X s') k = (0, 1) := (H_Lw hk).1
            have sh := fun (d : Nat) (Q : Option Value → aH → Prop) => c_shut (d := d) (X := X) (Q := Q) (s := s') (q := l.length) (m := m + r.2.2.length) hk sq (by omega) h6
            obtain ⟨sE, esE⟩ : ∃ sE, sE = u (u s' (k + 4) (up (s' (k + 4)) l.length (m + r.2.2.length))) 16005 (fun _ => r.2.1 + 1) := ⟨_, rfl⟩
            have fxE : FX k [16005, 16006] s sE := by
              rw [esE]
              exact ((fxA.tr ((FX.ww f').up rfl)).uk (Or.inl (by omega))).us rfl
            have t5 : u s' (k + 4) (up (s' (k + 4)) l.length (m + r.2.2.length)) 16005 0 = r.2.1 := by rw [u_ne (by unfold isLw at hk; omega)]; exact h5
            have E1 : sE (k + 1) = s' (k + 1) := by rw [esE, u_ne (by unfold isLw at hk; omega), u_ne (by omega)]
            have E2 : sE (k + 2) = up (s (k + 2)) l.length (kd B n j) := by rw [esE, u_ne (by unfold isLw at hk; omega), u_ne (by omega), n4 _ (by omega) (by omega), A2]
            have E3 : sE (k + 3) = up (s (k + 3)) l.length m := by rw [esE, u_ne (by unfold isLw at hk; omega), u_ne (by omega), n4 _ (by omega) (by omega), A3]
            have E4 : sE (k + 4) = up (up (s (k + 4)) l.length m) l.length (m + r.2.2.length) := by rw [esE, u_ne (by unfold isLw at hk; omega), u_eq, n4 _ (by omega) (by omega), A4]
            have k1 := k1 (by rw [nx]) sE (m + r.2.2.length) fxE (by rw [nx]; exact RD_fx hk (fxE.up rfl) R (by rw [esE]; rfl) (by show 0 ≤ r.2.1 + 1 ∧ r.2.1 + 1 ≤ T; omega)) (by
              rw [nx]
              refine ⟨lC_snoc (m := m) hC (fun y y0 y1 => hst y y0 (by omega)) (fun y y0 y1 => ?_) (fun z hz => by rw [E1, h8 z hz, A1]) ⟨by rw [E2, up_eq (by omega)], by rw [E3, up_eq (by omega)], by rw [E4, up_eq (by omega)], hmj.1, by show m + (r.2.2.length : Int) ≤ 300; omega, by rw [E1]; exact h7⟩ (by rw [esE, u_ne (by unfold isLw at hk; omega), u_ne (by unfold isLw at hk; omega), sq]; omega), ?_, fun y y0 y1 => ?_, ?_⟩
              · rw [E2, E3, E4, up_ne (by omega), up_ne (by omega), up_ne (by omega), up_ne (by omega)]
                exact ⟨rfl, rfl, rfl⟩
              · refine ⟨by simp; omega, fun c hc => ?_, ?_⟩
                · rcases List.mem_append.mp hc with y | y
                  · exact hl.2.1 c y
                  · rw [List.mem_singleton] at y
                    subst y
                    refine ⟨by show 0 ≤ kd B n j ∧ kd B n j ≤ 4; omega, ?_, by show (r.2.2.length : Int) ≤ 300; omega⟩
                    by_cases w4 : kd B n j = 4
                    · left
                      refine ⟨w4, ?_⟩
                      rw [w4] at g7
                      exact g7
                    · right
                      refine ⟨w4, ?_⟩
                      rw [decide_eq_false w4] at g7
                      exact g7
                · rw [List.pairwise_append]
                  refine ⟨hl.2.2, List.pairwise_singleton _ _, fun a ha b hb => ?_⟩
                  rw [List.mem_singleton] at hb
                  subst hb
                  intro na ea
                  have ea : a.1 = kd B n j := ea
                  exact Hd_o c2 ⟨by rw [← ea]; exact na, a, ha, ea⟩
              · rw [E4]
                simp at y1
                by_cases x : y = l.length
                · rw [up_eq x]
                  exact Int.le_refl _
                · rw [up_ne x, up_ne x]
                  have := hst y y0 (by omega)
                  omega
              · rw [esE, u_ne (by unfold isLw at hk; omega), u_ne (by unfold isLw at hk; omega)]
                exact h6) (by rw [nx]; show 0 ≤ m + (r.2.2.length : Int) ∧ m + (r.2.2.length : Int) ≤ r.2.1 + 1; omega)
            rw [esE] at k1
            repeat' (first | (with_reducible refine Br_i ?_ ?_ <;> (intro hbr; first | exact False.elim hbr | skip)) | (with_reducible refine Wl_i ?_) | (simp (disch := first | omega | exact okF _ | exact okI _ | exact okR _ | assumption | exact okN) only [u_at, iI_zero, iI_31, iI_add, iI_sub, iI_mul, iI_neg, ↓iI_max, ↓iI_min, iI_div, emod_f, iI_lt, iI_le, iI_inj, iI_toInt, ↓ii01, ↓ii11, ↓bI_b, bI_0, bI_1, Kt_s, Kt_n, cat0, cat1, cat2, cat3, cat4, rfV, Nat.reduceAdd, Nat.reduceMul, Nat.reduceEqDiff, Int.reduceAdd, Int.reduceSub, Int.reduceMul, Int.reduceNeg, Int.reduceLT, Int.reduceLE, Int.reduceEq, Int.reduceDiv, ↓reduceIte, ↓ite_ww, ↓ite_wi, Br_n, Br_TW, Br_FW, Br_FP, Br_FB, nn_p, and_true, true_and, and_self, true_or, or_true, not_true_eq_false, not_false_eq_true, le_T, le_F, lt_T, lt_F, eq_T, eq_F, Int.add_zero, Int.zero_add, Int.one_mul, Int.mul_one, up_eq, up_ne, Int.add_assoc, Int.add_sub_cancel, Int.sub_zero, Int.sub_self, S_44_0, S_44_1, S_44_2, S_44_5, S_44_8, S_44_9, S_44_12, S_44_13, S_44_16, S_44_17, S_44_18, S_44_21, S_44_22, S_44_23, S_44_26, S_44_27, S_44_30, S_44_31, S_44_34, S_44_35, S_44_38, S_44_41, S_44_42, S_44_45, S_44_46, S_44_47, S_44_50, S_44_51, S_44_52, S_44_55, S_44_58, S_44_60, S_44_63, S_44_64, S_44_66, S_44_69, S_44_70, S_44_71, S_44_74, S_44_75, S_44_78, S_44_81, S_44_82, S_44_82_r, S_44_83, S_44_86, S_44_87, S_44_88, S_44_91, S_44_92, S_44_95, S_44_96, S_44_99, S_44_100, S_44_103, S_44_106, S_44_107, S_44_108, S_44_111, S_44_112, S_44_113, S_44_116, S_44_117, S_44_118, S_44_119, S_44_122, S_44_124, S_44_127, S_44_128, S_44_129, S_44_132, S_44_133, S_44_134, S_44_137, S_44_140, S_44_141, S_44_141_r, S_44_142, S_44_145, S_44_146, S_44_147, S_44_150, S_44_151, H_16, c_kind R', c4, rq_n, RQ', gk', sh, t5]))
            exact k1
          · rw [if_neg c4] at nx
            have fl := fun (d : Nat) (Q : Option Value → aH → Prop) (x : Int) => c_fail (d := d) (X := X) (Q := Q) (x := x) R'
            have k0 := k0 (by rw [nx]; show ¬ (1 : Int) = 0; omega) (u (u s' 16001 (fun _ => 1)) 16002 (fun _ => pla B n r.2.1)) ((((fxA.up rfl).tr ((FX.ww f').up rfl)).us rfl).us rfl) (by rw [nx]; rfl) (by rw [nx]; rfl)
            repeat' (first | (with_reducible refine Br_i ?_ ?_ <;> (intro hbr; first | exact False.elim hbr | skip)) | (with_reducible refine Wl_i ?_) | (simp (disch := first | omega | exact okF _ | exact okI _ | exact okR _ | assumption | exact okN) only [u_at, iI_zero, iI_31, iI_add, iI_sub, iI_mul, iI_neg, ↓iI_max, ↓iI_min, iI_div, emod_f, iI_lt, iI_le, iI_inj, iI_toInt, ↓ii01, ↓ii11, ↓bI_b, bI_0, bI_1, Kt_s, Kt_n, cat0, cat1, cat2, cat3, cat4, rfV, Nat.reduceAdd, Nat.reduceMul, Nat.reduceEqDiff, Int.reduceAdd, Int.reduceSub, Int.reduceMul, Int.reduceNeg, Int.reduceLT, Int.reduceLE, Int.reduceEq, Int.reduceDiv, ↓reduceIte, ↓ite_ww, ↓ite_wi, Br_n, Br_TW, Br_FW, Br_FP, Br_FB, nn_p, and_true, true_and, and_self, true_or, or_true, not_true_eq_false, not_false_eq_true, le_T, le_F, lt_T, lt_F, eq_T, eq_F, Int.add_zero, Int.zero_add, Int.one_mul, Int.mul_one, up_eq, up_ne, Int.add_assoc, Int.add_sub_cancel, Int.sub_zero, Int.sub_self, S_44_0, S_44_1, S_44_2, S_44_5, S_44_8, S_44_9, S_44_12, S_44_13, S_44_16, S_44_17, S_44_18, S_44_21, S_44_22, S_44_23, S_44_26, S_44_27, S_44_30, S_44_31, S_44_34, S_44_35, S_44_38, S_44_41, S_44_42, S_44_45, S_44_46, S_44_47, S_44_50, S_44_51, S_44_52, S_44_55, S_44_58, S_44_60, S_44_63, S_44_64, S_44_66, S_44_69, S_44_70, S_44_71, S_44_74, S_44_75, S_44_78, S_44_81, S_44_82, S_44_82_r, S_44_83, S_44_86, S_44_87, S_44_88, S_44_91, S_44_92, S_44_95, S_44_96, S_44_99, S_44_100, S_44_103, S_44_106, S_44_107, S_44_108, S_44_111, S_44_112, S_44_113, S_44_116, S_44_117, S_44_118, S_44_119, S_44_122, S_44_124, S_44_127, S_44_128, S_44_129, S_44_132, S_44_133, S_44_134, S_44_137, S_44_140, S_44_141, S_44_141_r, S_44_142, S_44_145, S_44_146, S_44_147, S_44_150, S_44_151, H_16, c_kind R', c4, fl]))
            exact k0
        have bad : ¬ (pBody (kd B n) (nu B n) (kd B n j) (j + 1)).1 = 0 → ∀ s', FW k [16001, 16002, 16005] sA s' → s' 16001 0 = (pBody (kd B n) (nu B n) (kd B n j) (j + 1)).1 → s' 16002 0 = pla B n (pBody (kd B n) (nu B n) (kd B n j) (j + 1)).2.1 → Wp (d + 38 + 1) 44 111 [.ref 16, .float 0] [.int (iI 0)] (hp X s') Q := by
          intro z s' f' h5 h6
          rw [if_neg z] at nx
          have k0 := k0 (by rw [nx]; exact z) s' ((fxA.up rfl).tr ((FX.ww f').up rfl)) (by rw [nx]; exact h5) (by rw [nx]; exact h6)
          repeat' (first | (with_reducible refine Br_i ?_ ?_ <;> (intro hbr; first | exact False.elim hbr | skip)) | (with_reducible refine Wl_i ?_) | (simp (disch := first | omega | exact okF _ | exact okI _ | exact okR _ | assumption | exact okN) only [u_at, iI_zero, iI_31, iI_add, iI_sub, iI_mul, iI_neg, ↓iI_max, ↓iI_min, iI_div, emod_f, iI_lt, iI_le, iI_inj, iI_toInt, ↓ii01, ↓ii11, ↓bI_b, bI_0, bI_1, Kt_s, Kt_n, cat0, cat1, cat2, cat3, cat4, rfV, Nat.reduceAdd, Nat.reduceMul, Nat.reduceEqDiff, Int.reduceAdd, Int.reduceSub, Int.reduceMul, Int.reduceNeg, Int.reduceLT, Int.reduceLE, Int.reduceEq, Int.reduceDiv, ↓reduceIte, ↓ite_ww, ↓ite_wi, Br_n, Br_TW, Br_FW, Br_FP, Br_FB, nn_p, and_true, true_and, and_self, true_or, or_true, not_true_eq_false, not_false_eq_true, le_T, le_F, lt_T, lt_F, eq_T, eq_F, Int.add_zero, Int.zero_add, Int.one_mul, Int.mul_one, up_eq, up_ne, Int.add_assoc, Int.add_sub_cancel, Int.sub_zero, Int.sub_self, S_44_0, S_44_1, S_44_2, S_44_5, S_44_8, S_44_9, S_44_12, S_44_13, S_44_16, S_44_17, S_44_18, S_44_21, S_44_22, S_44_23, S_44_26, S_44_27, S_44_30, S_44_31, S_44_34, S_44_35, S_44_38, S_44_41, S_44_42, S_44_45, S_44_46, S_44_47, S_44_50, S_44_51, S_44_52, S_44_55, S_44_58, S_44_60, S_44_63, S_44_64, S_44_66, S_44_69, S_44_70, S_44_71, S_44_74, S_44_75, S_44_78, S_44_81, S_44_82, S_44_82_r, S_44_83, S_44_86, S_44_87, S_44_88, S_44_91, S_44_92, S_44_95, S_44_96, S_44_99, S_44_100, S_44_103, S_44_106, S_44_107, S_44_108, S_44_111, S_44_112, S_44_113, S_44_116, S_44_117, S_44_118, S_44_119, S_44_122, S_44_124, S_44_127, S_44_128, S_44_129, S_44_132, S_44_133, S_44_134, S_44_137, S_44_140, S_44_141, S_44_141_r, S_44_142, S_44_145, S_44_146, S_44_147, S_44_150, S_44_151, H_16]))
          exact k0
        by_cases c4 : kd B n j = 4
        · have eb : pBody (kd B n) (nu B n) (kd B n j) = pEith (kd B n) (nu B n) (kd B n j) := if_pos c4
          rw [eb] at good bad
          have q := c_either (X := X) (B := B) (n := n) (T := T) (k := k) hnn hk (w := kd B n j) (by omega) d sA (Kt (d + 38 + 1) 44 103 [.ref 16, .float 0] [] Q) (j + 1) m RA A6 Am (by omega) (fun z s' f' h5 h6 h7 h8 => ?_) (fun z s' f' h5 h6 => ?_)
          · rw [esA, c4] at q
            rw [c4] at op o5 o6 g6 gk6
            repeat' (first | (with_reducible refine Br_i ?_ ?_ <;> (intro hbr; first | exact False.elim hbr | skip)) | (with_reducible refine Wl_i ?_) | (simp (disch := first | omega | exact okF _ | exact okI _ | exact okR _ | assumption | exact okN) only [u_at, iI_zero, iI_31, iI_add, iI_sub, iI_mul, iI_neg, ↓iI_max, ↓iI_min, iI_div, emod_f, iI_lt, iI_le, iI_inj, iI_toInt, ↓ii01, ↓ii11, ↓bI_b, bI_0, bI_1, Kt_s, Kt_n, cat0, cat1, cat2, cat3, cat4, rfV, Nat.reduceAdd, Nat.reduceMul, Nat.reduceEqDiff, Int.reduceAdd, Int.reduceSub, Int.reduceMul, Int.reduceNeg, Int.reduceLT, Int.reduceLE, Int.reduceEq, Int.reduceDiv, ↓reduceIte, ↓ite_ww, ↓ite_wi, Br_n, Br_TW, Br_FW, Br_FP, Br_FB, nn_p, and_true, true_and, and_self, true_or, or_true, not_true_eq_false, not_false_eq_true, le_T, le_F, lt_T, lt_F, eq_T, eq_F, Int.add_zero, Int.zero_add, Int.one_mul, Int.mul_one, up_eq, up_ne, Int.add_assoc, Int.add_sub_cancel, Int.sub_zero, Int.sub_self, S_44_0, S_44_1, S_44_2, S_44_5, S_44_8, S_44_9, S_44_12, S_44_13, S_44_16, S_44_17, S_44_18, S_44_21, S_44_22, S_44_23, S_44_26, S_44_27, S_44_30, S_44_31, S_44_34, S_44_35, S_44_38, S_44_41, S_44_42, S_44_45, S_44_46, S_44_47, S_44_50, S_44_51, S_44_52, S_44_55, S_44_58, S_44_60, S_44_63, S_44_64, S_44_66, S_44_69, S_44_70, S_44_71, S_44_74, S_44_75, S_44_78, S_44_81, S_44_82, S_44_82_r, S_44_83, S_44_86, S_44_87, S_44_88, S_44_91, S_44_92, S_44_95, S_44_96, S_44_99, S_44_100, S_44_103, S_44_106, S_44_107, S_44_108, S_44_111, S_44_112, S_44_113, S_44_116, S_44_117, S_44_118, S_44_119, S_44_122, S_44_124, S_44_127, S_44_128, S_44_129, S_44_132, S_44_133, S_44_134, S_44_137, S_44_140, S_44_141, S_44_141_r, S_44_142, S_44_145, S_44_146, S_44_147, S_44_150, S_44_151, H_16, rq_n, RQ, gk6, g6, op, o5, o6, c4]))
            exact q
          · have y := good z s' f' h5 h6 h7 h8
            repeat' (first | (with_reducible refine Br_i ?_ ?_ <;> (intro hbr; first | exact False.elim hbr | skip)) | (with_reducible refine Wl_i ?_) | (simp (disch := first | omega | exact okF _ | exact okI _ | exact okR _ | assumption | exact okN) only [u_at, iI_zero, iI_31, iI_add, iI_sub, iI_mul, iI_neg, ↓iI_max, ↓iI_min, iI_div, emod_f, iI_lt, iI_le, iI_inj, iI_toInt, ↓ii01, ↓ii11, ↓bI_b, bI_0, bI_1, Kt_s, Kt_n, cat0, cat1, cat2, cat3, cat4, rfV, Nat.reduceAdd, Nat.reduceMul, Nat.reduceEqDiff, Int.reduceAdd, Int.reduceSub, Int.reduceMul, Int.reduceNeg, Int.reduceLT, Int.reduceLE, Int.reduceEq, Int.reduceDiv, ↓reduceIte, ↓ite_ww, ↓ite_wi, Br_n, Br_TW, Br_FW, Br_FP, Br_FB, nn_p, and_true, true_and, and_self, true_or, or_true, not_true_eq_false, not_false_eq_true, le_T, le_F, lt_T, lt_F, eq_T, eq_F, Int.add_zero, Int.zero_add, Int.one_mul, Int.mul_one, up_eq, up_ne, Int.add_assoc, Int.add_sub_cancel, Int.sub_zero, Int.sub_self, S_44_0, S_44_1, S_44_2, S_44_5, S_44_8, S_44_9, S_44_12, S_44_13, S_44_16, S_44_17, S_44_18, S_44_21, S_44_22, S_44_23, S_44_26, S_44_27, S_44_30, S_44_31, S_44_34, S_44_35, S_44_38, S_44_41, S_44_42, S_44_45, S_44_46, S_44_47, S_44_50, S_44_51, S_44_52, S_44_55, S_44_58, S_44_60, S_44_63, S_44_64, S_44_66, S_44_69, S_44_70, S_44_71, S_44_74, S_44_75, S_44_78, S_44_81, S_44_82, S_44_82_r, S_44_83, S_44_86, S_44_87, S_44_88, S_44_91, S_44_92, S_44_95, S_44_96, S_44_99, S_44_100, S_44_103, S_44_106, S_44_107, S_44_108, S_44_112, S_44_113, S_44_116, S_44_117, S_44_118, S_44_119, S_44_122, S_44_124, S_44_127, S_44_128, S_44_129, S_44_132, S_44_133, S_44_134, S_44_137, S_44_140, S_44_141, S_44_141_r, S_44_142, S_44_145, S_44_146, S_44_147, S_44_150, S_44_151]))
            exact y
          · have y := bad z s' f' h5 h6
            repeat' (first | (with_reducible refine Br_i ?_ ?_ <;> (intro hbr; first | exact False.elim hbr | skip)) | (with_reducible refine Wl_i ?_) | (simp (disch := first | omega | exact okF _ | exact okI _ | exact okR _ | assumption | exact okN) only [u_at, iI_zero, iI_31, iI_add, iI_sub, iI_mul, iI_neg, ↓iI_max, ↓iI_min, iI_div, emod_f, iI_lt, iI_le, iI_inj, iI_toInt, ↓ii01, ↓ii11, ↓bI_b, bI_0, bI_1, Kt_s, Kt_n, cat0, cat1, cat2, cat3, cat4, rfV, Nat.reduceAdd, Nat.reduceMul, Nat.reduceEqDiff, Int.reduceAdd, Int.reduceSub, Int.reduceMul, Int.reduceNeg, Int.reduceLT, Int.reduceLE, Int.reduceEq, Int.reduceDiv, ↓reduceIte, ↓ite_ww, ↓ite_wi, Br_n, Br_TW, Br_FW, Br_FP, Br_FB, nn_p, and_true, true_and, and_self, true_or, or_true, not_true_eq_false, not_false_eq_true, le_T, le_F, lt_T, lt_F, eq_T, eq_F, Int.add_zero, Int.zero_add, Int.one_mul, Int.mul_one, up_eq, up_ne, Int.add_assoc, Int.add_sub_cancel, Int.sub_zero, Int.sub_self, S_44_0, S_44_1, S_44_2, S_44_5, S_44_8, S_44_9, S_44_12, S_44_13, S_44_16, S_44_17, S_44_18, S_44_21, S_44_22, S_44_23, S_44_26, S_44_27, S_44_30, S_44_31, S_44_34, S_44_35, S_44_38, S_44_41, S_44_42, S_44_45, S_44_46, S_44_47, S_44_50, S_44_51, S_44_52, S_44_55, S_44_58, S_44_60, S_44_63, S_44_64, S_44_66, S_44_69, S_44_70, S_44_71, S_44_74, S_44_75, S_44_78, S_44_81, S_44_82, S_44_82_r, S_44_83, S_44_86, S_44_87, S_44_88, S_44_91, S_44_92, S_44_95, S_44_96, S_44_99, S_44_100, S_44_103, S_44_106, S_44_107, S_44_108, S_44_112, S_44_113, S_44_116, S_44_117, S_44_118, S_44_119, S_44_122, S_44_124, S_44_127, S_44_128, S_44_129, S_44_132, S_44_133, S_44_134, S_44_137, S_44_140, S_44_141, S_44_141_r, S_44_142, S_44_145, S_44_146, S_44_147, S_44_150, S_44_151]))
            exact y
        · have eb : pBody (kd B n) (nu B n) (kd B n j) = pSum (kd B n) (pOne (kd B n) (nu B n) (kd B n j) 8) := if_neg c4
          rw [eb] at good bad
          have q := c_sum8 (X := X) (B := B) (n := n) (T := T) (k := k) hnn hk (w := kd B n j) (by omega) (d + 3) sA (Kt (d + 38 + 1) 44 111 [.ref 16, .float 0] [] Q) (j + 1) m RA A6 Am (by omega) (fun z s' f' h5 h6 h7 h8 => ?_) (fun z s' f' h5 h6 => ?_)
          · rw [esA] at q
            rw [show d + 3 + 35 = d + 38 by omega] at q
            repeat' (first | (with_reducible refine Br_i ?_ ?_ <;> (intro hbr; first | exact False.elim hbr | skip)) | (with_reducible refine Wl_i ?_) | (simp (disch := first | omega | exact okF _ | exact okI _ | exact okR _ | assumption | exact okN) only [u_at, iI_zero, iI_31, iI_add, iI_sub, iI_mul, iI_neg, ↓iI_max, ↓iI_min, iI_div, emod_f, iI_lt, iI_le, iI_inj, iI_toInt, ↓ii01, ↓ii11, ↓bI_b, bI_0, bI_1, Kt_s, Kt_n, cat0, cat1, cat2, cat3, cat4, rfV, Nat.reduceAdd, Nat.reduceMul, Nat.reduceEqDiff, Int.reduceAdd, Int.reduceSub, Int.reduceMul, Int.reduceNeg, Int.reduceLT, Int.reduceLE, Int.reduceEq, Int.reduceDiv, ↓reduceIte, ↓ite_ww, ↓ite_wi, Br_n, Br_TW, Br_FW, Br_FP, Br_FB, nn_p, and_true, true_and, and_self, true_or, or_true, not_true_eq_false, not_false_eq_true, le_T, le_F, lt_T, lt_F, eq_T, eq_F, Int.add_zero, Int.zero_add, Int.one_mul, Int.mul_one, up_eq, up_ne, Int.add_assoc, Int.add_sub_cancel, Int.sub_zero, Int.sub_self, S_44_0, S_44_1, S_44_2, S_44_5, S_44_8, S_44_9, S_44_12, S_44_13, S_44_16, S_44_17, S_44_18, S_44_21, S_44_22, S_44_23, S_44_26, S_44_27, S_44_30, S_44_31, S_44_34, S_44_35, S_44_38, S_44_41, S_44_42, S_44_45, S_44_46, S_44_47, S_44_50, S_44_51, S_44_52, S_44_55, S_44_58, S_44_60, S_44_63, S_44_64, S_44_66, S_44_69, S_44_70, S_44_71, S_44_74, S_44_75, S_44_78, S_44_81, S_44_82, S_44_82_r, S_44_83, S_44_86, S_44_87, S_44_88, S_44_91, S_44_92, S_44_95, S_44_96, S_44_99, S_44_100, S_44_103, S_44_106, S_44_107, S_44_108, S_44_111, S_44_112, S_44_113, S_44_116, S_44_117, S_44_118, S_44_119, S_44_122, S_44_124, S_44_127, S_44_128, S_44_129, S_44_132, S_44_133, S_44_134, S_44_137, S_44_140, S_44_141, S_44_141_r, S_44_142, S_44_145, S_44_146, S_44_147, S_44_150, S_44_151, H_16, rq_n, RQ, gk6, g6, op, o5, o6, c4]))
            exact q
          · have y := good z s' f' h5 h6 h7 h8
            repeat' (first | (with_reducible refine Br_i ?_ ?_ <;> (intro hbr; first | exact False.elim hbr | skip)) | (with_reducible refine Wl_i ?_) | (simp (disch := first | omega | exact okF _ | exact okI _ | exact okR _ | assumption | exact okN) only [u_at, iI_zero, iI_31, iI_add, iI_sub, iI_mul, iI_neg, ↓iI_max, ↓iI_min, iI_div, emod_f, iI_lt, iI_le, iI_inj, iI_toInt, ↓ii01, ↓ii11, ↓bI_b, bI_0, bI_1, Kt_s, Kt_n, cat0, cat1, cat2, cat3, cat4, rfV, Nat.reduceAdd, Nat.reduceMul, Nat.reduceEqDiff, Int.reduceAdd, Int.reduceSub, Int.reduceMul, Int.reduceNeg, Int.reduceLT, Int.reduceLE, Int.reduceEq, Int.reduceDiv, ↓reduceIte, ↓ite_ww, ↓ite_wi, Br_n, Br_TW, Br_FW, Br_FP, Br_FB, nn_p, and_true, true_and, and_self, true_or, or_true, not_true_eq_false, not_false_eq_true, le_T, le_F, lt_T, lt_F, eq_T, eq_F, Int.add_zero, Int.zero_add, Int.one_mul, Int.mul_one, up_eq, up_ne, Int.add_assoc, Int.add_sub_cancel, Int.sub_zero, Int.sub_self, S_44_0, S_44_1, S_44_2, S_44_5, S_44_8, S_44_9, S_44_12, S_44_13, S_44_16, S_44_17, S_44_18, S_44_21, S_44_22, S_44_23, S_44_26, S_44_27, S_44_30, S_44_31, S_44_34, S_44_35, S_44_38, S_44_41, S_44_42, S_44_45, S_44_46, S_44_47, S_44_50, S_44_51, S_44_52, S_44_55, S_44_58, S_44_60, S_44_63, S_44_64, S_44_66, S_44_69, S_44_70, S_44_71, S_44_74, S_44_75, S_44_78, S_44_81, S_44_82, S_44_82_r, S_44_83, S_44_86, S_44_87, S_44_88, S_44_91, S_44_92, S_44_95, S_44_96, S_44_99, S_44_100, S_44_103, S_44_106, S_44_107, S_44_108, S_44_112, S_44_113, S_44_116, S_44_117, S_44_118, S_44_119, S_44_122, S_44_124, S_44_127, S_44_128, S_44_129, S_44_132, S_44_133, S_44_134, S_44_137, S_44_140, S_44_141, S_44_141_r, S_44_142, S_44_145, S_44_146, S_44_147, S_44_150, S_44_151]))
            exact y
          · have y := bad z s' f' h5 h6
            repeat' (first | (with_reducible refine Br_i ?_ ?_ <;> (intro hbr; first | exact False.elim hbr | skip)) | (with_reducible refine Wl_i ?_) | (simp (disch := first | omega | exact okF _ | exact okI _ | exact okR _ | assumption | exact okN) only [u_at, iI_zero, iI_31, iI_add, iI_sub, iI_mul, iI_neg, ↓iI_max, ↓iI_min, iI_div, emod_f, iI_lt, iI_le, iI_inj, iI_toInt, ↓ii01, ↓ii11, ↓bI_b, bI_0, bI_1, Kt_s, Kt_n, cat0, cat1, cat2, cat3, cat4, rfV, Nat.reduceAdd, Nat.reduceMul, Nat.reduceEqDiff, Int.reduceAdd, Int.reduceSub, Int.reduceMul, Int.reduceNeg, Int.reduceLT, Int.reduceLE, Int.reduceEq, Int.reduceDiv, ↓reduceIte, ↓ite_ww, ↓ite_wi, Br_n, Br_TW, Br_FW, Br_FP, Br_FB, nn_p, and_true, true_and, and_self, true_or, or_true, not_true_eq_false, not_false_eq_true, le_T, le_F, lt_T, lt_F, eq_T, eq_F, Int.add_zero, Int.zero_add, Int.one_mul, Int.mul_one, up_eq, up_ne, Int.add_assoc, Int.add_sub_cancel, Int.sub_zero, Int.sub_self, S_44_0, S_44_1, S_44_2, S_44_5, S_44_8, S_44_9, S_44_12, S_44_13, S_44_16, S_44_17, S_44_18, S_44_21, S_44_22, S_44_23, S_44_26, S_44_27, S_44_30, S_44_31, S_44_34, S_44_35, S_44_38, S_44_41, S_44_42, S_44_45, S_44_46, S_44_47, S_44_50, S_44_51, S_44_52, S_44_55, S_44_58, S_44_60, S_44_63, S_44_64, S_44_66, S_44_69, S_44_70, S_44_71, S_44_74, S_44_75, S_44_78, S_44_81, S_44_82, S_44_82_r, S_44_83, S_44_86, S_44_87, S_44_88, S_44_91, S_44_92, S_44_95, S_44_96, S_44_99, S_44_100, S_44_103, S_44_106, S_44_107, S_44_108, S_44_112, S_44_113, S_44_116, S_44_117, S_44_118, S_44_119, S_44_122, S_44_124, S_44_127, S_44_128, S_44_129, S_44_132, S_44_133, S_44_134, S_44_137, S_44_140, S_44_141, S_44_141_r, S_44_142, S_44_145, S_44_146, S_44_147, S_44_150, S_44_151]))
            exact y
/-- the whole tape is read -/
theorem c_read (hk : isLw k) (TBh : TB s B n)
    (k1 : ∀ T s' l, (pTx (kd B n) (nu B n) 11 0 []).1 = 0 → l = (pTx (kd B n) (nu B n) 11 0 []).2.2 → FX k [8, 9, 10, 6005, 16000, 16001, 16002, 16005, 16006, 16900] s s' → s' 16000 0 = 1 → s' 16001 0 = 0 → s' 16002 0 = -1 → lC s' k 0 l → lawOK l → kd B n T = 16 → (0 ≤ T ∧ T ≤ 300) → Q (some (.int (iI 1))) (hp X s'))
    (k0 : ∀ T s', ¬ (pTx (kd B n) (nu B n) 11 0 []).1 = 0 → FX k [8, 9, 10, 6005, 16000, 16001, 16002, 16005, 16006, 16900] s s' → s' 16000 0 = 1 → s' 16001 0 = (pTx (kd B n) (nu B n) 11 0 []).1 → s' 16002 0 = pla B n (pTx (kd B n) (nu B n) 11 0 []).2.1 → kd B n T = 16 → (0 ≤ T ∧ T ≤ 300) → Q (some (.int (iI 0))) (hp X s')) : Wp (d + 40) 40 0 [.ref 16, .ref k, .float 0] [] (hp X s) Q := by
  have hnn : 0 ≤ n := TBh.2.2.1.1
  obtain ⟨sA, esA⟩ : ∃ sA, sA = u (u (u (u (u s 16900 (fun _ => (k : Int))) 16005 (fun _ => 0)) 16000 (fun _ => 1)) 16001 (fun _ => 0)) 16002 (fun _ => -1) := ⟨_, rfl⟩
  have TA : TB sA B n := by rw [esA]; exact TBh
  have fA : FX k [8, 9, 10, 6005, 16000, 16001, 16002, 16005, 16006, 16900] s sA := by rw [esA]; exact (((((FX.rf s).us rfl).us rfl).us rfl).us rfl).us rfl
  have w := fun (s : sg) => H_Lw hk (X := X) (s := s)
  repeat' (first | (with_reducible refine Br_i ?_ ?_ <;> (intro hbr; first | exact False.elim hbr | skip)) | (with_reducible refine Wl_i ?_) | (simp (disch := first | omega | exact okF _ | exact okI _ | exact okR _ | assumption | exact okN) only [u_at, iI_zero, iI_31, iI_add, iI_sub, iI_mul, iI_neg, ↓iI_max, ↓iI_min, iI_div, emod_f, iI_lt, iI_le, iI_inj, iI_toInt, ↓ii01, ↓ii11, ↓bI_b, bI_0, bI_1, Kt_s, Kt_n, cat0, cat1, cat2, cat3, cat4, rfV, Nat.reduceAdd, Nat.reduceMul, Nat.reduceEqDiff, Int.reduceAdd, Int.reduceSub, Int.reduceMul, Int.reduceNeg, Int.reduceLT, Int.reduceLE, Int.reduceEq, Int.reduceDiv, ↓reduceIte, ↓ite_ww, ↓ite_wi, Br_n, Br_TW, Br_FW, Br_FP, Br_FB, nn_p, and_true, true_and, and_self, true_or, or_true, not_true_eq_false, not_false_eq_true, le_T, le_F, lt_T, lt_F, eq_T, eq_F, Int.add_zero, Int.zero_add, Int.one_mul, Int.mul_one, up_eq, up_ne, Int.add_assoc, Int.add_sub_cancel, Int.sub_zero, Int.sub_self, S_40_0, S_40_1, S_40_2, S_40_5, S_40_6, S_40_7, S_40_10, S_40_11, S_40_12, S_40_15, S_40_16, S_40_17, S_40_20, S_40_21, S_40_22, S_40_25, S_40_26, S_40_29, S_40_32, S_40_33, S_40_36, S_40_39, S_40_40, S_40_42, S_40_44, S_40_47, S_40_48, S_40_51, S_40_53, S_40_56, S_40_57, S_40_58, S_40_59, S_40_62, S_40_65, S_40_66, S_40_67, S_40_70, S_40_73, S_40_74, H_6, H_16]))
  rw [← esA]
  refine c_cutAll TA fun sB T fB hcut => ?_
  have Bq : sB 16900 0 = (k : Int) := by rw [fB.g 16900 rfl, esA]; rfl
  obtain ⟨sC, esC⟩ : ∃ sC, sC = u (u sB (1000 * k + 4) (fun _ => 0)) (1000 * k + 5) (fun _ => 0) := ⟨_, rfl⟩
  have fB2 : FX k [8, 9, 10, 6005, 16000, 16001, 16002, 16005, 16006, 16900] sA sB := fun a e1 e2 e3 e4 => fB a (nin_sub (L := [8, 9, 10, 6005]) rfl a e1)
  have fC : FX k [8, 9, 10, 6005, 16000, 16001, 16002, 16005, 16006, 16900] s sC := by
    rw [esC]
    exact ((fA.tr fB2).uk (Or.inr (Or.inl rfl))).uk (Or.inr (Or.inr rfl))
  have fBC : FX k [] sB sC := by
    rw [esC]
    exact ((FX.rf sB).uk (Or.inr (Or.inl rfl))).uk (Or.inr (Or.inr rfl))
  have RC : RD sC k B n T 0 := by
    refine RD_fx hk (fBC.up rfl) (j := 0) (s := sB) ⟨hcut, Bq, by rw [fB.g 16005 rfl, esA]; rfl, Int.le_refl 0, hcut.1.1⟩ (by rw [fBC.at hk 16005 rfl (by omega), fB.g 16005 rfl, esA]; rfl) ⟨Int.le_refl 0, hcut.1.1⟩
  have LC : LR sC k [] 0 := ⟨by show sC (1000 * k + 5) 0 = 0; rw [esC, u_eq], lawOK_nil, fun y y0 y1 => by simp at y1; omega, by rw [esC, u_ne (by omega), u_eq]⟩
  have c16 : ∀ s', FX k [16005, 16006] sC s' → s' 16000 0 = 1 ∧ s' 16001 0 = 0 ∧ s' 16002 0 = -1 := by
    intro s' f'
    refine ⟨?_, ?_, ?_⟩
    · rw [f'.at hk 16000 rfl (by omega), fBC.at hk 16000 rfl (by omega), fB.g 16000 rfl, esA]; rfl
    · rw [f'.at hk 16001 rfl (by omega), fBC.at hk 16001 rfl (by omega), fB.g 16001 rfl, esA]; rfl
    · rw [f'.at hk 16002 rfl (by omega), fBC.at hk 16002 rfl (by omega), fB.g 16002 rfl, esA]; rfl
  have loop : ∀ (f : Nat) (i j m : Int) (l : lawT) (s1 : sg), (f : Int) = 11 - i → i = l.length → FX k [16005, 16006] sC s1 → RD s1 k B n T j → LR s1 k l m → (0 ≤ m ∧ m ≤ j) → pTx (kd B n) (nu B n) f j l = pTx (kd B n) (nu B n) 11 0 [] → Wp (d + 39 + 1) 40 41 [.ref 16, .ref k, .int (iI i)] [] (hp X s1) Q := by
    intro f
    induction f with
    | zero =>
      intro i j m l s1 hf hi fr R1 hL hmj hr
      have := hL.2.1.1
      omega
    | succ f ih =>
      intro i j m l s1 hf hi fr R1 hL hmj hr
      have hlen := hL.2.1.1
      have kr := (kd_r (B := B) (n := n) (j := j) hnn R1.2.2.2.1).1
      rw [pTx] at hr
      rw [S_40_41]
      by_cases c : kd B n j = 16
      · rw [if_pos c] at hr
        obtain ⟨q1, q2, q3⟩ := c16 s1 fr
        have k1 := k1 T s1 l (by rw [← hr]) (by rw [← hr]) (fC.tr (fr.up rfl)) q1 q2 q3 hL.1 hL.2.1 hcut.2.2.1 hcut.1
        repeat' (first | (with_reducible refine Br_i ?_ ?_ <;> (intro hbr; first | exact False.elim hbr | skip)) | (with_reducible refine Wl_i ?_) | (simp (disch := first | omega | exact okF _ | exact okI _ | exact okR _ | assumption | exact okN) only [u_at, iI_zero, iI_31, iI_add, iI_sub, iI_mul, iI_neg, ↓iI_max, ↓iI_min, iI_div, emod_f, iI_lt, iI_le, iI_inj, iI_toInt, ↓ii01, ↓ii11, ↓bI_b, bI_0, bI_1, Kt_s, Kt_n, cat0, cat1, cat2, cat3, cat4, rfV, Nat.reduceAdd, Nat.reduceMul, Nat.reduceEqDiff, Int.reduceAdd, Int.reduceSub, Int.reduceMul, Int.reduceNeg, Int.reduceLT, Int.reduceLE, Int.reduceEq, Int.reduceDiv, ↓reduceIte, ↓ite_ww, ↓ite_wi, Br_n, Br_TW, Br_FW, Br_FP, Br_FB, nn_p, and_true, true_and, and_self, true_or, or_true, not_true_eq_false, not_false_eq_true, le_T, le_F, lt_T, lt_F, eq_T, eq_F, Int.add_zero, Int.zero_add, Int.one_mul, Int.mul_one, up_eq, up_ne, Int.add_assoc, Int.add_sub_cancel, Int.sub_zero, Int.sub_self, S_40_0, S_40_1, S_40_2, S_40_5, S_40_6, S_40_7, S_40_10, S_40_11, S_40_12, S_40_15, S_40_16, S_40_17, S_40_20, S_40_21, S_40_22, S_40_25, S_40_26, S_40_29, S_40_32, S_40_33, S_40_36, S_40_39, S_40_40, S_40_42, S_40_44, S_40_47, S_40_48, S_40_51, S_40_53, S_40_56, S_40_57, S_40_58, S_40_59, S_40_62, S_40_65, S_40_66, S_40_67, S_40_70, S_40_73, S_40_74, H_16, c_kind R1, c]))
        exact k1
      · rw [if_neg c] at hr
        repeat' (first | (with_reducible refine Br_i ?_ ?_ <;> (intro hbr; first | exact False.elim hbr | skip)) | (with_reducible refine Wl_i ?_) | (simp (disch := first | omega | exact okF _ | exact okI _ | exact okR _ | assumption | exact okN) only [u_at, iI_zero, iI_31, iI_add, iI_sub, iI_mul, iI_neg, ↓iI_max, ↓iI_min, iI_div, emod_f, iI_lt, iI_le, iI_inj, iI_toInt, ↓ii01, ↓ii11, ↓bI_b, bI_0, bI_1, Kt_s, Kt_n, cat0, cat1, cat2, cat3, cat4, rfV, Nat.reduceAdd, Nat.reduceMul, Nat.reduceEqDiff, Int.reduceAdd, Int.reduceSub, Int.reduceMul, Int.reduceNeg, Int.reduceLT, Int.reduceLE, Int.reduceEq, Int.reduceDiv, ↓reduceIte, ↓ite_ww, ↓ite_wi, Br_n, Br_TW, Br_FW, Br_FP, Br_FB, nn_p, and_true, true_and, and_self, true_or, or_true, not_true_eq_false, not_false_eq_true, le_T, le_F, lt_T, lt_F, eq_T, eq_F, Int.add_zero, Int.zero_add, Int.one_mul, Int.mul_one, up_eq, up_ne, Int.add_assoc, Int.add_sub_cancel, Int.sub_zero, Int.sub_self, S_40_0, S_40_1, S_40_2, S_40_5, S_40_6, S_40_7, S_40_10, S_40_11, S_40_12, S_40_15, S_40_16, S_40_17, S_40_20, S_40_21, S_40_22, S_40_25, S_40_26, S_40_29, S_40_32, S_40_33, S_40_36, S_40_39, S_40_40, S_40_42, S_40_44, S_40_47, S_40_48, S_40_51, S_40_53, S_40_56, S_40_57, S_40_58, S_40_59, S_40_62, S_40_65, S_40_66, S_40_67, S_40_70, S_40_73, S_40_74, H_16, c_kind R1, c]))
        refine c_clause hnn hk R1 hL hmj (fun z s' m' f' R' L' hm' => ?_) (fun z s' f' h5 h6 => ?_)
        · rw [if_pos z] at hr
          have ih := ih (i + 1) _ m' _ s' (by omega) (by simp; omega) (fr.tr f') R' L' hm' hr
          repeat' (first | (with_reducible refine Br_i ?_ ?_ <;> (intro hbr; first | exact False.elim hbr | skip)) | (with_reducible refine Wl_i ?_) | (simp (disch := first | omega | exact okF _ | exact okI _ | exact okR _ | assumption | exact okN) only [u_at, iI_zero, iI_31, iI_add, iI_sub, iI_mul, iI_neg, ↓iI_max, ↓iI_min, iI_div, emod_f, iI_lt, iI_le, iI_inj, iI_toInt, ↓ii01, ↓ii11, ↓bI_b, bI_0, bI_1, Kt_s, Kt_n, cat0, cat1, cat2, cat3, cat4, rfV, Nat.reduceAdd, Nat.reduceMul, Nat.reduceEqDiff, Int.reduceAdd, Int.reduceSub, Int.reduceMul, Int.reduceNeg, Int.reduceLT, Int.reduceLE, Int.reduceEq, Int.reduceDiv, ↓reduceIte, ↓ite_ww, ↓ite_wi, Br_n, Br_TW, Br_FW, Br_FP, Br_FB, nn_p, and_true, true_and, and_self, true_or, or_true, not_true_eq_false, not_false_eq_true, le_T, le_F, lt_T, lt_F, eq_T, eq_F, Int.add_zero, Int.zero_add, Int.one_mul, Int.mul_one, up_eq, up_ne, Int.add_assoc, Int.add_sub_cancel, Int.sub_zero, Int.sub_self, S_40_0, S_40_1, S_40_2, S_40_5, S_40_6, S_40_7, S_40_10, S_40_11, S_40_12, S_40_15, S_40_16, S_40_17, S_40_20, S_40_21, S_40_22, S_40_25, S_40_26, S_40_29, S_40_32, S_40_33, S_40_36, S_40_39, S_40_40, S_40_42, S_40_44, S_40_47, S_40_48, S_40_51, S_40_53, S_40_56, S_40_57, S_40_58, S_40_59, S_40_62, S_40_65, S_40_66, S_40_67, S_40_70, S_40_73, S_40_74]))
          exact ih
        · rw [if_neg z] at hr
          have q1 : s' 16000 0 = 1 := by rw [f'.at hk 16000 rfl (by omega)]; exact (c16 s1 fr).1
          have k0 := k0 T s' (by rw [← hr]; exact z) ((fC.tr (fr.up rfl)).tr (f'.up rfl)) q1 (by rw [← hr]; exact h5) (by rw [← hr]; exact h6) hcut.2.2.1 hcut.1
          repeat' (first | (with_reducible refine Br_i ?_ ?_ <;> (intro hbr; first | exact False.elim hbr | skip)) | (with_reducible refine Wl_i ?_) | (simp (disch := first | omega | exact okF _ | exact okI _ | exact okR _ | assumption | exact okN) only [u_at, iI_zero, iI_31, iI_add, iI_sub, iI_mul, iI_neg, ↓iI_max, ↓iI_min, iI_div, emod_f, iI_lt, iI_le, iI_inj, iI_toInt, ↓ii01, ↓ii11, ↓bI_b, bI_0, bI_1, Kt_s, Kt_n, cat0, cat1, cat2, cat3, cat4, rfV, Nat.reduceAdd, Nat.reduceMul, Nat.reduceEqDiff, Int.reduceAdd, Int.reduceSub, Int.reduceMul, Int.reduceNeg, Int.reduceLT, Int.reduceLE, Int.reduceEq, Int.reduceDiv, ↓reduceIte, ↓ite_ww, ↓ite_wi, Br_n, Br_TW, Br_FW, Br_FP, Br_FB, nn_p, and_true, true_and, and_self, true_or, or_true, not_true_eq_false, not_false_eq_true, le_T, le_F, lt_T, lt_F, eq_T, eq_F, Int.add_zero, Int.zero_add, Int.one_mul, Int.mul_one, up_eq, up_ne, Int.add_assoc, Int.add_sub_cancel, Int.sub_zero, Int.sub_self, S_40_0, S_40_1, S_40_2, S_40_5, S_40_6, S_40_7, S_40_10, S_40_11, S_40_12, S_40_15, S_40_16, S_40_17, S_40_20, S_40_21, S_40_22, S_40_25, S_40_26, S_40_29, S_40_32, S_40_33, S_40_36, S_40_39, S_40_40, S_40_42, S_40_44, S_40_47, S_40_48, S_40_51, S_40_53, S_40_56, S_40_57, S_40_58, S_40_59, S_40_62, S_40_65, S_40_66, S_40_67, S_40_70, S_40_73, S_40_74]))
          exact k0
  have l0 := loop 11 0 0 0 [] sC (by omega) (by simp) (FX.rf sC) RC LC (by omega) rfl
  rw [esC] at l0
  have g0 := (w sB).1
  have g4 := fun (v : Int) => (w sB).2.2.2.2.2.2.2.1 (v := v)
  have g5 := fun (v : Int) => (w (u sB (1000 * k + 4) (fun _ => 0))).2.2.2.2.2.2.2.2.1 (v := v)
  have g02 := (w (u sB (1000 * k + 4) (fun _ => 0))).1
  repeat' (first | (with_reducible refine Br_i ?_ ?_ <;> (intro hbr; first | exact False.elim hbr | skip)) | (with_reducible refine Wl_i ?_) | (simp (disch := first | omega | exact okF _ | exact okI _ | exact okR _ | assumption | exact okN) only [u_at, iI_zero, iI_31, iI_add, iI_sub, iI_mul, iI_neg, ↓iI_max, ↓iI_min, iI_div, emod_f, iI_lt, iI_le, iI_inj, iI_toInt, ↓ii01, ↓ii11, ↓bI_b, bI_0, bI_1, Kt_s, Kt_n, cat0, cat1, cat2, cat3, cat4, rfV, Nat.reduceAdd, Nat.reduceMul, Nat.reduceEqDiff, Int.reduceAdd, Int.reduceSub, Int.reduceMul, Int.reduceNeg, Int.reduceLT, Int.reduceLE, Int.reduceEq, Int.reduceDiv, ↓reduceIte, ↓ite_ww, ↓ite_wi, Br_n, Br_TW, Br_FW, Br_FP, Br_FB, nn_p, and_true, true_and, and_self, true_or, or_true, not_true_eq_false, not_false_eq_true, le_T, le_F, lt_T, lt_F, eq_T, eq_F, Int.add_zero, Int.zero_add, Int.one_mul, Int.mul_one, up_eq, up_ne, Int.add_assoc, Int.add_sub_cancel, Int.sub_zero, Int.sub_self, S_40_0, S_40_1, S_40_2, S_40_5, S_40_6, S_40_7, S_40_10, S_40_11, S_40_12, S_40_15, S_40_16, S_40_17, S_40_20, S_40_21, S_40_22, S_40_25, S_40_26, S_40_29, S_40_32, S_40_33, S_40_36, S_40_39, S_40_40, S_40_42, S_40_44, S_40_47, S_40_48, S_40_51, S_40_53, S_40_56, S_40_57, S_40_58, S_40_59, S_40_62, S_40_65, S_40_66, S_40_67, S_40_70, S_40_73, S_40_74, S_23_0, S_23_1, S_23_2, S_23_5, S_23_6, S_23_7, S_23_10, H_16, rq_n, Bq, g0, g02, g4, g5]))
  exact l0
end CT
