/-! A YEAR'S BOUNDS -/
/-- what steps may have done between y and z -/
def yBd (A : Int → Int) (n : Int) (y z : yst) : Prop := (0 ≤ z.1 ∧ z.1 ≤ y.1) ∧ (∀ m, 0 ≤ m → m < A 1 → z.2.1 m ≤ y.2.1 m ∧ y.2.2.1 m - 12000 * (y.1 - z.1) - 99 * (y.2.1 m - z.2.1 m) ≤ z.2.2.1 m ∧ z.2.2.1 m ≤ y.2.2.1 m + 30000 * (y.1 - z.1)) ∧ (∀ m, ¬ (0 ≤ m ∧ m < A 1) → z.2.1 m = y.2.1 m ∧ z.2.2.1 m = y.2.2.1 m) ∧ (∀ o, 0 ≤ o → o < n → y.2.2.2.1 o ≤ z.2.2.2.1 o ∧ z.2.2.2.1 o ≤ y.2.2.2.1 o + (y.1 - z.1)) ∧ (∀ o, ¬ (0 ≤ o ∧ o < n) → z.2.2.2.1 o = y.2.2.2.1 o) ∧ (y.2.2.2.2 ≤ z.2.2.2.2 ∧ z.2.2.2.2 ≤ y.2.2.2.2 + 60000 * (y.1 - z.1)) ∧ sm z.2.2.2.1 n = sm y.2.2.2.1 n + (y.1 - z.1)
section YBD
variable {A : Int → Int} {l : lawT} {n b o j : Int} {y z w : yst}
theorem yBd.rf (h : 0 ≤ y.1) : yBd A n y y := ⟨⟨h, Int.le_refl _⟩, fun m _ _ => ⟨Int.le_refl _, by omega, by omega⟩, fun m _ => ⟨rfl, rfl⟩, fun o _ _ => ⟨Int.le_refl _, by omega⟩, fun o _ => rfl, ⟨Int.le_refl _, by omega⟩, by omega⟩
theorem yBd.tr (h : yBd A n y z) (k : yBd A n z w) : yBd A n y w := by
  obtain ⟨a1, a2, a3, a4, a5, a6, a7⟩ := h
  obtain ⟨b1, b2, b3, b4, b5, b6, b7⟩ := k
  refine ⟨by omega, fun m m0 m1 => ?_, fun m q => ?_, fun o o0 o1 => ?_, fun o q => ?_, by omega, by omega⟩
  · have := a2 m m0 m1
    have := b2 m m0 m1
    omega
  · exact ⟨(b3 m q).1.trans (a3 m q).1, (b3 m q).2.trans (a3 m q).2⟩
  · have := a4 o o0 o1
    have := b4 o o0 o1
    omega
  · exact (b5 o q).trans (a5 o q)
/-- an offer's cost by its hours -/
theorem oC_h (W : WF0 A) (hO : WO A o) : oC A l o ≤ 99 * oH A l o + 11880 := by
  have w3 := hO.2.2.1
  have k : ∀ j, 0 ≤ j → j ≤ A (180 + (13 * o + 2)) → oCost A l o j ≤ 99 * oHours A l o j + 3960 * j := by
    intro j j0 j1
    refine i_ind (P := fun j => j ≤ A (180 + (13 * o + 2)) → oCost A l o j ≤ 99 * oHours A l o j + 3960 * j) j0 ?_ ?_ j1
    · intro _
      unfold oCost oHours
      rw [sm_0, sm_0]
      omega
    · intro z z0 z1 ih z2
      have ih := ih (by omega)
      unfold oCost oHours at ih ⊢
      rw [sm_s z0, sm_s z0]
      have wi := hO.2.2.2 z z0 (by omega)
      have wk := W.2.2.1 _ hO.1.1 hO.1.2
      have wt := W.2.1 _ wi.1.1 wi.1.2
      have h := vHours_r (A := A) (l := l) (t := A (180 + (13 * o + (3 + 3 * z)))) (n := A (180 + (13 * o + 2))) (w := A (180 + (13 * o + (3 + (3 * z + 1))))) (by have := wi.2.1; omega)
      have m1 : vHours A l (A (180 + (13 * o + (3 + 3 * z)))) (A (180 + (13 * o + (3 + (3 * z + 1))))) (A (180 + (13 * o + 2))) * A (60 + (5 * (A (180 + 13 * o)) + 2)) ≤ vHours A l (A (180 + (13 * o + (3 + 3 * z)))) (A (180 + (13 * o + (3 + (3 * z + 1))))) (A (180 + (13 * o + 2))) * 99 := Int.mul_le_mul_of_nonneg_left wk.2.2.2 (by omega)
      have m2 := mul_b (a := A (10 + (4 * (A (180 + (13 * o + (3 + 3 * z)))) + 3))) (b := A (180 + (13 * o + (3 + (3 * z + 1))))) (m := 99) (n := 40) wt.2.2 (by have := wi.2.1; omega)
      have e : vCost A l (A (180 + 13 * o)) (A (180 + (13 * o + (3 + 3 * z)))) (A (180 + (13 * o + (3 + (3 * z + 1))))) (A (180 + (13 * o + 2))) = vHours A l (A (180 + (13 * o + (3 + 3 * z)))) (A (180 + (13 * o + (3 + (3 * z + 1))))) (A (180 + (13 * o + 2))) * A (60 + (5 * (A (180 + 13 * o)) + 2)) + A (10 + (4 * (A (180 + (13 * o + (3 + 3 * z)))) + 3)) * A (180 + (13 * o + (3 + (3 * z + 1)))) := rfl
      rw [e]
      omega
  have := k (A (180 + (13 * o + 2))) (by omega) (Int.le_refl _)
  unfold oC oH oNum
  omega
theorem ystep_b (W : WF0 A) (h : yOK A y) (hO : WO A o) (hn : 0 ≤ n) (ho : 0 ≤ o ∧ o < n) (hp : 1 ≤ oH A l o) (hv : 0 ≤ oOver A l b o) (hb : 0 ≤ b ∧ b < A 2) : yBd A n y (ystep A l b o y) := by
  obtain ⟨t1, t2, _⟩ := ytk_r h hO hp
  have hy := h.1
  have rP := oP_r (l := l) W hO
  have rC := oC_r (l := l) W hO
  have rO := oOver_r (l := l) W hO hb
  have cH := oC_h (l := l) W hO
  have g1 : ytk A l o y * (oP A l o - oC A l o) ≤ ytk A l o y * 30000 := Int.mul_le_mul_of_nonneg_left (by omega) t1.1
  have g2 : ytk A l o y * (- (99 * oH A l o + 11880)) ≤ ytk A l o y * (oP A l o - oC A l o) := Int.mul_le_mul_of_nonneg_left (by omega) t1.1
  have g3 : ytk A l o y * (- (99 * oH A l o + 11880)) = - (99 * (ytk A l o y * oH A l o)) - 11880 * ytk A l o y := by
    rw [Int.mul_neg, Int.mul_add, ← Int.mul_assoc, Int.mul_comm (ytk A l o y) 99, Int.mul_assoc, Int.mul_comm (ytk A l o y) 11880]
    omega
  have g4 : ytk A l o y * oOver A l b o ≤ ytk A l o y * 60000 := Int.mul_le_mul_of_nonneg_left rO.2 t1.1
  have g5 : 0 ≤ ytk A l o y * oOver A l b o := Int.mul_nonneg t1.1 hv
  refine ⟨⟨by show 0 ≤ y.1 - ytk A l o y; omega, by show y.1 - ytk A l o y ≤ y.1; omega⟩, fun m m0 m1 => ?_, fun m q => ?_, fun p p0 p1 => ?_, fun p q => ?_, ?_, ?_⟩
  · show up y.2.1 (A (180 + 13 * o)) (y.2.1 (A (180 + 13 * o)) - ytk A l o y * oH A l o) m ≤ y.2.1 m ∧ y.2.2.1 m - 12000 * (y.1 - (y.1 - ytk A l o y)) - 99 * (y.2.1 m - up y.2.1 (A (180 + 13 * o)) (y.2.1 (A (180 + 13 * o)) - ytk A l o y * oH A l o) m) ≤ up y.2.2.1 (A (180 + 13 * o)) (y.2.2.1 (A (180 + 13 * o)) + ytk A l o y * (oP A l o - oC A l o)) m ∧ up y.2.2.1 (A (180 + 13 * o)) (y.2.2.1 (A (180 + 13 * o)) + ytk A l o y * (oP A l o - oC A l o)) m ≤ y.2.2.1 m + 30000 * (y.1 - (y.1 - ytk A l o y))
    by_cases c : m = A (180 + 13 * o)
    · rw [up_eq c, up_eq c, c]
      omega
    · rw [up_ne c, up_ne c]
      omega
  · have := hO.1
    exact ⟨up_ne (by omega), up_ne (by omega)⟩
  · show y.2.2.2.1 p ≤ up y.2.2.2.1 o (y.2.2.2.1 o + ytk A l o y) p ∧ up y.2.2.2.1 o (y.2.2.2.1 o + ytk A l o y) p ≤ y.2.2.2.1 p + (y.1 - (y.1 - ytk A l o y))
    by_cases c : p = o
    · rw [up_eq c, c]
      omega
    · rw [up_ne c]
      omega
  · exact up_ne (by omega)
  · show y.2.2.2.2 ≤ y.2.2.2.2 + ytk A l o y * oOver A l b o ∧ y.2.2.2.2 + ytk A l o y * oOver A l b o ≤ y.2.2.2.2 + 60000 * (y.1 - (y.1 - ytk A l o y))
    omega
  · show sm (up y.2.2.2.1 o (y.2.2.2.1 o + ytk A l o y)) n = sm y.2.2.2.1 n + (y.1 - (y.1 - ytk A l o y))
    rw [sm_up ho.1 hn, if_pos ho.2]
    omega
theorem srv_b (W : WF0 A) (hn : 0 ≤ n) (hb : 0 ≤ b ∧ b < A 2) (hw : ∀ o, 0 ≤ o → o < n → WO A o) : ∀ (f : Nat) (y : yst), yOK A y → yBd A n y (srv A l n b f y)
  | 0, y, h => yBd.rf h.1.1
  | f + 1, y, h => by
    unfold srv
    by_cases c : y.1 ≤ 0 ∨ yfav A l n b y = -1
    · rw [if_pos c]; exact yBd.rf h.1.1
    · rw [if_neg c]
      rcases fav_r (P := avl A l y.2.1) (v := oOver A l b) hn with ⟨e, _⟩ | ⟨f0, f1, f2, f3⟩
      · exact absurd (Or.inr e) c
      · have hO := hw _ f0 f1
        have hp := oH_p hO f3
        exact (ystep_b W h hO hn ⟨f0, f1⟩ hp f3 hb).tr (srv_b W hn hb hw f _ (ystep_ok h hO hp))
/-- a year's bounds -/
def YB (A : Int → Int) (n j : Int) (R : yr) : Prop := (∀ m, 0 ≤ m → m < A 1 → (0 ≤ R.1 m ∧ R.1 m ≤ 9999) ∧ - (11988000 * j) - 99 * (9999 - R.1 m) ≤ R.2.1 m ∧ R.2.1 m ≤ 29970000 * j) ∧ (∀ m, ¬ (0 ≤ m ∧ m < A 1) → R.1 m = 0 ∧ R.2.1 m = 0) ∧ (∀ o, 0 ≤ o → o < n → 0 ≤ R.2.2.1 o ∧ R.2.2.1 o ≤ 999 * j) ∧ (∀ o, ¬ (0 ≤ o ∧ o < n) → R.2.2.1 o = 0) ∧ (∀ b, 0 ≤ b → b < j → (0 ≤ R.2.2.2.1 b ∧ R.2.2.2.1 b ≤ 999) ∧ 0 ≤ R.2.2.2.2 b ∧ R.2.2.2.2 b ≤ 59940000) ∧ ∀ b, ¬ (0 ≤ b ∧ b < j) → R.2.2.2.1 b = 0 ∧ R.2.2.2.2 b = 0
theorem yrun_b (W : WF0 A) (hn : 0 ≤ n) (hw : ∀ o, 0 ≤ o → o < n → WO A o) (hj : 0 ≤ j) (h2 : j ≤ A 2) : YB A n j (yrun A l n j) ∧ sm (yrun A l n j).2.2.1 n = ysum A l n j := by
  refine i_ind (P := fun j => j ≤ A 2 → YB A n j (yrun A l n j) ∧ sm (yrun A l n j).2.2.1 n = ysum A l n j) hj ?_ ?_ h2
  · intro _
    rw [yrun_0]
    refine ⟨⟨fun m m0 m1 => ?_, fun m q => ?_, fun o _ _ => ⟨Int.le_refl 0, by show (0 : Int) ≤ _; omega⟩, fun o _ => rfl, fun b _ q => by omega, fun b _ => ⟨rfl, rfl⟩⟩, ?_⟩
    · show (0 ≤ (if 0 ≤ m ∧ m < A 1 then A (60 + 5 * m) else 0) ∧ (if 0 ≤ m ∧ m < A 1 then A (60 + 5 * m) else 0) ≤ 9999) ∧ - (11988000 * 0) - 99 * (9999 - (if 0 ≤ m ∧ m < A 1 then A (60 + 5 * m) else 0)) ≤ 0 ∧ (0 : Int) ≤ 29970000 * 0
      rw [if_pos ⟨m0, m1⟩]
      have := (W.2.2.1 m m0 m1).1
      omega
    · exact ⟨if_neg q, rfl⟩
    · unfold ysum
      rw [sm_0]
      exact sm_zero hn (fun _ _ _ => rfl)
  · intro z z0 z1 ih z2
    obtain ⟨⟨a1, a2, a3, a4, a5, a6⟩, a7⟩ := ih (by omega)
    have wb := (W.2.2.2.1 z z0 (by omega)).1
    have ok : yOK A (A (100 + 6 * z), (yrun A l n z).1, (yrun A l n z).2.1, (yrun A l n z).2.2.1, 0) := ⟨by show 0 ≤ A (100 + 6 * z) ∧ A (100 + 6 * z) ≤ 999; omega, fun m m0 m1 => (a1 m m0 m1).1⟩
    obtain ⟨b1, b2, b3, b4, b5, b6, b7⟩ := srv_b (l := l) (n := n) W hn ⟨z0, by omega⟩ hw n.toNat _ ok
    have ok2 := srv_ok (l := l) (b := z) hn hw n.toNat _ ok
    have es : srv A l n z n.toNat (A (100 + 6 * z), (yrun A l n z).1, (yrun A l n z).2.1, (yrun A l n z).2.2.1, 0) = ysv A l n z (yrun A l n z) := rfl
    rw [es] at b1 b2 b3 b4 b5 b6 b7 ok2
    have b1 : 0 ≤ (ysv A l n z (yrun A l n z)).1 ∧ (ysv A l n z (yrun A l n z)).1 ≤ A (100 + 6 * z) := b1
    have b6 : 0 ≤ (ysv A l n z (yrun A l n z)).2.2.2.2 ∧ (ysv A l n z (yrun A l n z)).2.2.2.2 ≤ 0 + 60000 * (A (100 + 6 * z) - (ysv A l n z (yrun A l n z)).1) := b6
    have b7 : sm (ysv A l n z (yrun A l n z)).2.2.2.1 n = sm (yrun A l n z).2.2.1 n + (A (100 + 6 * z) - (ysv A l n z (yrun A l n z)).1) := b7
    rw [yrun_s z0]
    refine ⟨⟨fun m m0 m1 => ?_, fun m q => ?_, fun o o0 o1 => ?_, fun o q => ?_, fun b c0 c1 => ?_, fun b q => ?_⟩, ?_⟩
    · have c1 := a1 m m0 m1
      have c2 : (ysv A l n z (yrun A l n z)).2.1 m ≤ (yrun A l n z).1 m ∧ (yrun A l n z).2.1 m - 12000 * (A (100 + 6 * z) - (ysv A l n z (yrun A l n z)).1) - 99 * ((yrun A l n z).1 m - (ysv A l n z (yrun A l n z)).2.1 m) ≤ (ysv A l n z (yrun A l n z)).2.2.1 m ∧ (ysv A l n z (yrun A l n z)).2.2.1 m ≤ (yrun A l n z).2.1 m + 30000 * (A (100 + 6 * z) - (ysv A l n z (yrun A l n z)).1) := b2 m m0 m1
      have c3 := ok2.2 m m0 m1
      show (0 ≤ (ysv A l n z (yrun A l n z)).2.1 m ∧ (ysv A l n z (yrun A l n z)).2.1 m ≤ 9999) ∧ - (11988000 * (z + 1)) - 99 * (9999 - (ysv A l n z (yrun A l n z)).2.1 m) ≤ (ysv A l n z (yrun A l n z)).2.2.1 m ∧ (ysv A l n z (yrun A l n z)).2.2.1 m ≤ 29970000 * (z + 1)
      omega
    · exact ⟨(b3 m q).1.trans (a2 m q).1, (b3 m q).2.trans (a2 m q).2⟩
    · have c1 := a3 o o0 o1
      have c2 : (yrun A l n z).2.2.1 o ≤ (ysv A l n z (yrun A l n z)).2.2.2.1 o ∧ (ysv A l n z (yrun A l n z)).2.2.2.1 o ≤ (yrun A l n z).2.2.1 o + (A (100 + 6 * z) - (ysv A l n z (yrun A l n z)).1) := b4 o o0 o1
      show 0 ≤ (ysv A l n z (yrun A l n z)).2.2.2.1 o ∧ (ysv A l n z (yrun A l n z)).2.2.2.1 o ≤ 999 * (z + 1)
      omega
    · exact (b5 o q).trans (a4 o q)
    · show (0 ≤ up (yrun A l n z).2.2.2.1 z (ysv A l n z (yrun A l n z)).1 b ∧ up (yrun A l n z).2.2.2.1 z (ysv A l n z (yrun A l n z)).1 b ≤ 999) ∧ 0 ≤ up (yrun A l n z).2.2.2.2 z (ysv A l n z (yrun A l n z)).2.2.2.2 b ∧ up (yrun A l n z).2.2.2.2 z (ysv A l n z (yrun A l n z)).2.2.2.2 b ≤ 59940000
      by_cases c : b = z
      · rw [up_eq c, up_eq c]
        omega
      · rw [up_ne c, up_ne c]
        exact a5 b c0 (by omega)
    · have c := a6 b (by omega)
      exact ⟨(up_ne (by omega)).trans c.1, (up_ne (by omega)).trans c.2⟩
    · show sm (ysv A l n z (yrun A l n z)).2.2.2.1 n = ysum A l n (z + 1)
      unfold ysum at a7 ⊢
      rw [sm_s z0, ← a7]
      exact b7
theorem year_b (W : WF0 A) (hn : 0 ≤ n) (hw : ∀ o, 0 ≤ o → o < n → WO A o) : YB A n (A 2) (year A l n) ∧ sm (year A l n).2.2.1 n = ysum A l n (A 2) := yrun_b W hn hw W.1.2.2.1.1 (Int.le_refl _)
end YBD
