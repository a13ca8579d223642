/-! THE MATHEMATICS of a year -/
noncomputable def fav (P : Int → Prop) (v : Int → Int) (n : Int) : Int := fd (fun o b => @ite _ (P o ∧ 0 ≤ v o ∧ (b = -1 ∨ v b < v o)) (Classical.propDecidable _) o b) (-1) 0 n
theorem fav_s {P : Int → Prop} {v : Int → Int} {n : Int} (h : 0 ≤ n) : fav P v (n + 1) = @ite _ (P n ∧ 0 ≤ v n ∧ (fav P v n = -1 ∨ v (fav P v n) < v n)) (Classical.propDecidable _) n (fav P v n) := fd_s h
theorem fav_0 {P : Int → Prop} {v : Int → Int} : fav P v 0 = -1 := fd_0 (Int.le_refl 0)
theorem fav_r {P : Int → Prop} {v : Int → Int} {n : Int} (h : 0 ≤ n) : (fav P v n = -1 ∧ ∀ o, 0 ≤ o → o < n → ¬ (P o ∧ 0 ≤ v o)) ∨ (0 ≤ fav P v n ∧ fav P v n < n ∧ P (fav P v n) ∧ 0 ≤ v (fav P v n)) := by
  refine i_ind (P := fun n => (fav P v n = -1 ∧ ∀ o, 0 ≤ o → o < n → ¬ (P o ∧ 0 ≤ v o)) ∨ (0 ≤ fav P v n ∧ fav P v n < n ∧ P (fav P v n) ∧ 0 ≤ v (fav P v n))) h ?_ ?_
  · exact Or.inl ⟨fav_0, fun o a b => by omega⟩
  · intro z z0 z1 ih
    rw [fav_s z0]
    by_cases c : P z ∧ 0 ≤ v z ∧ (fav P v z = -1 ∨ v (fav P v z) < v z)
    · rw [if_pos c]
      exact Or.inr ⟨z0, by omega, c.1, c.2.1⟩
    · rw [if_neg c]
      rcases ih with ⟨e, k⟩ | ⟨a, b, c1, c2⟩
      · refine Or.inl ⟨e, fun o o0 o1 q => ?_⟩
        by_cases x : o = z
        · subst x
          exact c ⟨q.1, q.2, Or.inl e⟩
        · exact k o o0 (by omega) q
      · exact Or.inr ⟨a, by omega, c1, c2⟩
theorem fav_cg {P P2 : Int → Prop} {v v2 : Int → Int} {n : Int} (h : 0 ≤ n) (hp : ∀ o, 0 ≤ o → o < n → (P o ↔ P2 o)) (hv : ∀ o, 0 ≤ o → o < n → v o = v2 o) : fav P v n = fav P2 v2 n := by
  have key : ∀ z, 0 ≤ z → z ≤ n → fav P v z = fav P2 v2 z := by
    intro z z0
    refine i_ind (P := fun z => z ≤ n → fav P v z = fav P2 v2 z) z0 (fun _ => by rw [fav_0, fav_0]) ?_
    intro y y0 y1 ih y2
    have ih := ih (by omega)
    rw [fav_s y0, fav_s y0, ih]
    have e : (P y ∧ 0 ≤ v y ∧ (fav P2 v2 y = -1 ∨ v (fav P2 v2 y) < v y)) ↔ (P2 y ∧ 0 ≤ v2 y ∧ (fav P2 v2 y = -1 ∨ v2 (fav P2 v2 y) < v2 y)) := by
      have q := fav_r (P := P2) (v := v2) y0
      rw [hp y y0 (by omega), hv y y0 (by omega)]
      rcases q with ⟨q, _⟩ | ⟨q0, q1, _⟩
      · simp only [q, true_or]
      · rw [hv _ q0 (by omega)]
    by_cases c : P y ∧ 0 ≤ v y ∧ (fav P2 v2 y = -1 ∨ v (fav P2 v2 y) < v y)
    · rw [if_pos c, if_pos (e.mp c)]
    · rw [if_neg c, if_neg (fun q => c (e.mpr q))]
  exact key n h (Int.le_refl n)
/-- what stays of the buyer's people, hours, earned, sold, his gain -/
abbrev yst : Type := Int × (Int → Int) × (Int → Int) × (Int → Int) × Int
noncomputable def oH (A : Int → Int) (l : lawT) (o : Int) : Int := oHours A l o (oNum A o)
noncomputable def oP (A : Int → Int) (l : lawT) (o : Int) : Int := oPrice A l o (oNum A o)
noncomputable def oC (A : Int → Int) (l : lawT) (o : Int) : Int := oCost A l o (oNum A o)
def avl (A : Int → Int) (l : lawT) (L : Int → Int) (o : Int) : Prop := oH A l o ≤ L (A (180 + 13 * o))
noncomputable def yfav (A : Int → Int) (l : lawT) (n b : Int) (y : yst) : Int := fav (avl A l y.2.1) (oOver A l b) n
noncomputable def ytk (A : Int → Int) (l : lawT) (o : Int) (y : yst) : Int := min y.1 (y.2.1 (A (180 + 13 * o)) / oH A l o)
noncomputable def ystep (A : Int → Int) (l : lawT) (b o : Int) (y : yst) : yst := (y.1 - ytk A l o y, up y.2.1 (A (180 + 13 * o)) (y.2.1 (A (180 + 13 * o)) - ytk A l o y * oH A l o), up y.2.2.1 (A (180 + 13 * o)) (y.2.2.1 (A (180 + 13 * o)) + ytk A l o y * (oP A l o - oC A l o)), up y.2.2.2.1 o (y.2.2.2.1 o + ytk A l o y), y.2.2.2.2 + ytk A l o y * oOver A l b o)
noncomputable def srv (A : Int → Int) (l : lawT) (n b : Int) : Nat → yst → yst
  | 0, y => y
  | f + 1, y => @ite _ (y.1 ≤ 0 ∨ yfav A l n b y = -1) (Classical.propDecidable _) y (srv A l n b f (ystep A l b (yfav A l n b y) y))
/-- how many can still be had -/
noncomputable def ycnt (A : Int → Int) (l : lawT) (n b : Int) (L : Int → Int) : Int := sm (fun o => bZ (avl A l L o ∧ 0 ≤ oOver A l b o)) n
/-- the bounds of a year -/
def yOK (A : Int → Int) (y : yst) : Prop := (0 ≤ y.1 ∧ y.1 ≤ 999) ∧ (∀ m, 0 ≤ m → m < A 1 → 0 ≤ y.2.1 m ∧ y.2.1 m ≤ 9999)
theorem ycnt_0 {A : Int → Int} {l : lawT} {n b : Int} {L : Int → Int} (hn : 0 ≤ n) (h : ycnt A l n b L ≤ 0) (o : Int) (h0 : 0 ≤ o) (h1 : o < n) : ¬ (avl A l L o ∧ 0 ≤ oOver A l b o) := by
  intro q
  have e : sm (up (fun _ => 0) o 1) n ≤ ycnt A l n b L := by
    refine sm_le hn ?_
    intro z z0 z1
    by_cases c : z = o
    · subst c
      rw [up_eq rfl, bZ_T q]
      exact Int.le_refl 1
    · rw [up_ne c]
      exact (bZ_r _).1
  rw [sm_up h0 hn, if_pos h1, sm_zero hn (fun _ _ _ => rfl)] at e
  omega
theorem oOver_n {A : Int → Int} {l : lawT} {b o : Int} (h : 0 ≤ oOver A l b o) : 0 < oNum A o := by
  unfold oOver at h
  by_cases c : 0 < oNum A o ∧ oLaw A l o (oNum A o) ∧ oLoad A o (oNum A o) ≤ A (100 + (6 * b + 3))
  · exact c.1
  · rw [if_neg c] at h
    omega
section YR
variable {A : Int → Int} {l : lawT} {n b o : Int} {y : yst}
theorem oH_r (hO : WO A o) : 0 ≤ oH A l o ∧ oH A l o ≤ 2997 := (oHours_r hO (j := A (180 + (13 * o + 2))) ⟨hO.2.2.1.1, Int.le_refl _⟩).1
theorem oH_p (hO : WO A o) (h : 0 ≤ oOver A l b o) : 1 ≤ oH A l o := (oHours_r hO (j := A (180 + (13 * o + 2))) ⟨hO.2.2.1.1, Int.le_refl _⟩).2 (by have := oOver_n h; unfold oNum at this; omega)
theorem oP_r (W : WF0 A) (hO : WO A o) : 0 ≤ oP A l o ∧ oP A l o ≤ 29997 := oPrice_r W hO (j := A (180 + (13 * o + 2))) ⟨hO.2.2.1.1, Int.le_refl _⟩
theorem oC_r (W : WF0 A) (hO : WO A o) : 0 ≤ oC A l o ∧ oC A l o ≤ 308583 := oCost_r W hO (j := A (180 + (13 * o + 2))) ⟨hO.2.2.1.1, Int.le_refl _⟩
theorem oOver_r (W : WF0 A) (hO : WO A o) (hb : 0 ≤ b ∧ b < A 2) : -1 ≤ oOver A l b o ∧ oOver A l b o ≤ 60000 := by
  have w3 := hO.2.2.1
  have r1 := oP_r (l := l) W hO
  have r2 := oWorth_r (l := l) W hO hb (j := oNum A o) ⟨hO.2.2.1.1, Int.le_refl _⟩
  unfold oP at r1
  unfold oOver
  by_cases c : 0 < oNum A o ∧ oLaw A l o (oNum A o) ∧ oLoad A o (oNum A o) ≤ A (100 + (6 * b + 3))
  · rw [if_pos c]
    omega
  · rw [if_neg c]
    omega
/-- what one step takes -/
theorem ytk_r (h : yOK A y) (hO : WO A o) (hp : 1 ≤ oH A l o) : (0 ≤ ytk A l o y ∧ ytk A l o y ≤ y.1 ∧ ytk A l o y ≤ 999) ∧ (0 ≤ ytk A l o y * oH A l o ∧ ytk A l o y * oH A l o ≤ y.2.1 (A (180 + 13 * o))) ∧ (ytk A l o y = y.1 ∨ y.2.1 (A (180 + 13 * o)) - ytk A l o y * oH A l o < oH A l o) := by
  have hy := h.1
  have hm := h.2 _ hO.1.1 hO.1.2
  have d0 : 0 ≤ y.2.1 (A (180 + 13 * o)) / oH A l o := Int.ediv_nonneg hm.1 (by omega)
  have d1 : y.2.1 (A (180 + 13 * o)) / oH A l o * oH A l o ≤ y.2.1 (A (180 + 13 * o)) := Int.ediv_mul_le _ (by omega)
  have d2 : y.2.1 (A (180 + 13 * o)) < (y.2.1 (A (180 + 13 * o)) / oH A l o + 1) * oH A l o := Int.lt_ediv_add_one_mul_self _ (by omega)
  rw [Int.add_mul, Int.one_mul] at d2
  have k0 : 0 ≤ ytk A l o y := by unfold ytk; omega
  have k1 : ytk A l o y ≤ y.2.1 (A (180 + 13 * o)) / oH A l o := by unfold ytk; omega
  have k2 : ytk A l o y ≤ y.1 := by unfold ytk; omega
  have k3 : ytk A l o y * oH A l o ≤ y.2.1 (A (180 + 13 * o)) / oH A l o * oH A l o := Int.mul_le_mul_of_nonneg_right k1 (by omega)
  refine ⟨⟨k0, k2, by omega⟩, ⟨Int.mul_nonneg k0 (by omega), by omega⟩, ?_⟩
  by_cases c : ytk A l o y = y.1
  · exact Or.inl c
  · right
    have e : ytk A l o y = y.2.1 (A (180 + 13 * o)) / oH A l o := by unfold ytk at c ⊢; omega
    rw [e]
    omega
theorem ystep_ok (h : yOK A y) (hO : WO A o) (hp : 1 ≤ oH A l o) : yOK A (ystep A l b o y) := by
  obtain ⟨t1, t2, _⟩ := ytk_r h hO hp
  have hy := h.1
  refine ⟨⟨by show 0 ≤ y.1 - ytk A l o y; omega, by show y.1 - ytk A l o y ≤ 999; omega⟩, fun m m0 m1 => ?_⟩
  have hm := h.2 _ hO.1.1 hO.1.2
  show 0 ≤ up y.2.1 (A (180 + 13 * o)) (y.2.1 (A (180 + 13 * o)) - ytk A l o y * oH A l o) m ∧ up y.2.1 (A (180 + 13 * o)) (y.2.1 (A (180 + 13 * o)) - ytk A l o y * oH A l o) m ≤ 9999
  by_cases c : m = A (180 + 13 * o)
  · rw [up_eq c]
    omega
  · rw [up_ne c]
    exact h.2 m m0 m1
/-- each step uses up the people or an offer -/
theorem ycnt_s (hn : 0 ≤ n) (h : yOK A y) (hw : ∀ o, 0 ≤ o → o < n → WO A o) (h1 : ¬ yfav A l n b y = -1) : (ystep A l b (yfav A l n b y) y).1 ≤ 0 ∨ ycnt A l n b (ystep A l b (yfav A l n b y) y).2.1 + 1 ≤ ycnt A l n b y.2.1 := by
  rcases fav_r (P := avl A l y.2.1) (v := oOver A l b) hn with ⟨e, _⟩ | ⟨f0, f1, f2, f3⟩
  · exact absurd e h1
  · have hO := hw _ f0 f1
    have hp := oH_p (l := l) hO f3
    obtain ⟨t1, t2, t3⟩ := ytk_r h hO hp
    rcases t3 with t3 | t3
    · left
      show y.1 - ytk A l (yfav A l n b y) y ≤ 0
      have t3 : ytk A l (yfav A l n b y) y = y.1 := t3
      omega
    · right
      have hm := h.2 _ hO.1.1 hO.1.2
      have t2 : 0 ≤ ytk A l (yfav A l n b y) y * oH A l (yfav A l n b y) := t2.1
      have q : sm (up (fun o => bZ (avl A l (ystep A l b (yfav A l n b y) y).2.1 o ∧ 0 ≤ oOver A l b o)) (yfav A l n b y) 1) n ≤ ycnt A l n b y.2.1 := by
        refine sm_le hn ?_
        intro z z0 z1
        by_cases c : z = yfav A l n b y
        · rw [up_eq c, c, bZ_T ⟨f2, f3⟩]
          exact Int.le_refl 1
        · rw [up_ne c]
          by_cases q : avl A l (ystep A l b (yfav A l n b y) y).2.1 z ∧ 0 ≤ oOver A l b z
          · have a2 : avl A l y.2.1 z := by
              have q1 : oH A l z ≤ up y.2.1 (A (180 + 13 * (yfav A l n b y))) (y.2.1 (A (180 + 13 * (yfav A l n b y))) - ytk A l (yfav A l n b y) y * oH A l (yfav A l n b y)) (A (180 + 13 * z)) := q.1
              show oH A l z ≤ y.2.1 (A (180 + 13 * z))
              by_cases e : A (180 + 13 * z) = A (180 + 13 * (yfav A l n b y))
              · rw [up_eq e] at q1
                rw [e]
                omega
              · rw [up_ne e] at q1
                exact q1
            rw [bZ_T q, bZ_T ⟨a2, q.2⟩]
            exact Int.le_refl 1
          · rw [bZ_F q]
            exact (bZ_r _).1
      rw [sm_up (b := yfav A l n b y) f0 hn, if_pos (show yfav A l n b y < n from f1), bZ_F] at q
      · unfold ycnt
        have q : sm (fun o => bZ (avl A l (ystep A l b (yfav A l n b y) y).2.1 o ∧ 0 ≤ oOver A l b o)) n - 0 + 1 ≤ sm (fun o => bZ (avl A l y.2.1 o ∧ 0 ≤ oOver A l b o)) n := q
        omega
      · rintro ⟨q1, _⟩
        have q1 : oH A l (yfav A l n b y) ≤ up y.2.1 (A (180 + 13 * (yfav A l n b y))) (y.2.1 (A (180 + 13 * (yfav A l n b y))) - ytk A l (yfav A l n b y) y * oH A l (yfav A l n b y)) (A (180 + 13 * (yfav A l n b y))) := q1
        rw [up_eq rfl] at q1
        have t3 : y.2.1 (A (180 + 13 * (yfav A l n b y))) - ytk A l (yfav A l n b y) y * oH A l (yfav A l n b y) < oH A l (yfav A l n b y) := t3
        omega
theorem ycnt_n (hn : 0 ≤ n) {L : Int → Int} : ycnt A l n b L ≤ n := by
  have q : ycnt A l n b L ≤ sm (fun _ => 1) n := sm_le hn (fun z _ _ => (bZ_r _).2)
  rw [sm_one hn] at q
  exact q
theorem srv_ok (hn : 0 ≤ n) (hw : ∀ o, 0 ≤ o → o < n → WO A o) : ∀ (f : Nat) (y : yst), yOK A y → yOK A (srv A l n b f y)
  | 0, y, h => h
  | f + 1, y, h => by
    unfold srv
    by_cases c : y.1 ≤ 0 ∨ yfav A l n b y = -1
    · rw [if_pos c]; exact h
    · rw [if_neg c]
      refine srv_ok hn hw f _ ?_
      rcases fav_r (P := avl A l y.2.1) (v := oOver A l b) hn with ⟨e, _⟩ | ⟨f0, f1, f2, f3⟩
      · exact absurd (Or.inr e) c
      · exact ystep_ok h (hw _ f0 f1) (oH_p (hw _ f0 f1) f3)
end YR
/-- the whole year: hours, earned, sold, lacks, gain -/
abbrev yr : Type := (Int → Int) × (Int → Int) × (Int → Int) × (Int → Int) × (Int → Int)
def y0 (A : Int → Int) : yr := ((fun m => if 0 ≤ m ∧ m < A 1 then A (60 + 5 * m) else 0), (fun _ => 0), (fun _ => 0), (fun _ => 0), (fun _ => 0))
noncomputable def ysv (A : Int → Int) (l : lawT) (n b : Int) (Y : yr) : yst := srv A l n b n.toNat (A (100 + 6 * b), Y.1, Y.2.1, Y.2.2.1, 0)
noncomputable def yB (A : Int → Int) (l : lawT) (n b : Int) (Y : yr) : yr := ((ysv A l n b Y).2.1, (ysv A l n b Y).2.2.1, (ysv A l n b Y).2.2.2.1, up Y.2.2.2.1 b (ysv A l n b Y).1, up Y.2.2.2.2 b (ysv A l n b Y).2.2.2.2)
noncomputable def yrun (A : Int → Int) (l : lawT) (n j : Int) : yr := fd (fun b Y => yB A l n b Y) (y0 A) 0 j
noncomputable def year (A : Int → Int) (l : lawT) (n : Int) : yr := yrun A l n (A 2)
theorem yrun_0 {A : Int → Int} {l : lawT} {n : Int} : yrun A l n 0 = y0 A := fd_0 (Int.le_refl 0)
theorem yrun_s {A : Int → Int} {l : lawT} {n j : Int} (h : 0 ≤ j) : yrun A l n (j + 1) = yB A l n j (yrun A l n j) := fd_s h
theorem yrun_ok {A : Int → Int} {l : lawT} {n j : Int} (W : WF0 A) (hn : 0 ≤ n) (hw : ∀ o, 0 ≤ o → o < n → WO A o) (hj : 0 ≤ j) (h2 : j ≤ A 2) : ∀ m, 0 ≤ m → m < A 1 → 0 ≤ (yrun A l n j).1 m ∧ (yrun A l n j).1 m ≤ 9999 := by
  refine i_ind (P := fun j => j ≤ A 2 → ∀ m, 0 ≤ m → m < A 1 → 0 ≤ (yrun A l n j).1 m ∧ (yrun A l n j).1 m ≤ 9999) hj ?_ ?_ h2
  · intro _ m m0 m1
    rw [yrun_0]
    show 0 ≤ (if 0 ≤ m ∧ m < A 1 then A (60 + 5 * m) else 0) ∧ (if 0 ≤ m ∧ m < A 1 then A (60 + 5 * m) else 0) ≤ 9999
    rw [if_pos ⟨m0, m1⟩]
    exact (W.2.2.1 m m0 m1).1
  · intro z z0 z1 ih z2 m m0 m1
    rw [yrun_s z0]
    have wb := (W.2.2.2.1 z z0 (by omega)).1
    exact (srv_ok hn hw n.toNat (A (100 + 6 * z), (yrun A l n z).1, (yrun A l n z).2.1, (yrun A l n z).2.2.1, 0) ⟨by show 0 ≤ A (100 + 6 * z) ∧ A (100 + 6 * z) ≤ 999; omega, ih (by omega)⟩).2 m m0 m1
