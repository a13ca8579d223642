/-! WHAT DEPENDS on which entries of the row a -/
/-- all but the offers' rows agree -/
def Eq0 (A B : Int → Int) : Prop := ∀ z, (z < 180 ∨ 480 ≤ z) → B z = A z
/-- the row of the offer o agrees, but for what was sold -/
def EqO (A B : Int → Int) (o : Int) : Prop := ∀ c, 0 ≤ c → c < 12 → B (180 + (13 * o + c)) = A (180 + (13 * o + c))
section CG
variable {A B : Int → Int} {l : lawT} {o b t w n k i j : Int}
theorem Eq0.sy (h : Eq0 A B) : Eq0 B A := fun z q => (h z q).symm
theorem EqO.sy (h : EqO A B o) : EqO B A o := fun c a d => (h c a d).symm
theorem Eq0.tr {C : Int → Int} (h : Eq0 A B) (k : Eq0 B C) : Eq0 A C := fun z q => (k z q).trans (h z q)
theorem EqO.tr {C : Int → Int} (h : EqO A B o) (k : EqO B C o) : EqO A C o := fun c a d => (k c a d).trans (h c a d)
theorem Eq0.rf (A : Int → Int) : Eq0 A A := fun _ _ => rfl
theorem EqO.rf (A : Int → Int) (o : Int) : EqO A A o := fun _ _ _ => rfl
theorem EqO.o0 (h : EqO A B o) : B (180 + 13 * o) = A (180 + 13 * o) := by
  have := h 0 (by omega) (by omega)
  rw [Int.add_zero] at this
  exact this
theorem EqO.o1 (h : EqO A B o) : B (180 + (13 * o + 1)) = A (180 + (13 * o + 1)) := h 1 (by omega) (by omega)
theorem EqO.o2 (h : EqO A B o) : B (180 + (13 * o + 2)) = A (180 + (13 * o + 2)) := h 2 (by omega) (by omega)
theorem EqO.i0 (h : EqO A B o) (hi : 0 ≤ i ∧ i < 3) : B (180 + (13 * o + (3 + 3 * i))) = A (180 + (13 * o + (3 + 3 * i))) := h (3 + 3 * i) (by omega) (by omega)
theorem EqO.i1 (h : EqO A B o) (hi : 0 ≤ i ∧ i < 3) : B (180 + (13 * o + (3 + (3 * i + 1)))) = A (180 + (13 * o + (3 + (3 * i + 1)))) := h (3 + (3 * i + 1)) (by omega) (by omega)
theorem EqO.i2 (h : EqO A B o) (hi : 0 ≤ i ∧ i < 3) : B (180 + (13 * o + (3 + (3 * i + 2)))) = A (180 + (13 * o + (3 + (3 * i + 2)))) := h (3 + (3 * i + 2)) (by omega) (by omega)
theorem W0_cg (h : Eq0 A B) (w : W0 A) : W0 B := by
  unfold W0
  rw [h 0 (by omega), h 1 (by omega), h 2 (by omega), h 3 (by omega), h 4 (by omega), h 5 (by omega), h 6 (by omega)]
  exact w
theorem WT_cg (h : Eq0 A B) (ht : t < 10) (w : WT A t) : WT B t := by
  unfold WT
  rw [h _ (by omega), h _ (by omega), h _ (by omega), h _ (by omega)]
  exact w
theorem WK_cg (h : Eq0 A B) (ht : k < 6) (w : WK A k) : WK B k := by
  unfold WK
  rw [h _ (by omega), h _ (by omega), h _ (by omega)]
  exact w
theorem WB_cg (h : Eq0 A B) (ht : b < 10) (w : WB A b) : WB B b := by
  unfold WB
  rw [h _ (by omega), h _ (by omega), h _ (by omega), h _ (by omega)]
  exact w
theorem WF0_cg (h : Eq0 A B) (w : WF0 A) : WF0 B := by
  have w0 := w.1
  unfold W0 at w0
  obtain ⟨W, a, b, c, d, e⟩ := w
  refine ⟨W0_cg h W, ?_, ?_, ?_, ?_, ?_⟩
  · intro t t0 t1
    rw [h 0 (by omega)] at t1
    exact WT_cg h (by omega) (a t t0 t1)
  · intro t t0 t1
    rw [h 1 (by omega)] at t1
    exact WK_cg h (by omega) (b t t0 t1)
  · intro t t0 t1
    rw [h 2 (by omega)] at t1
    exact WB_cg h (by omega) (c t t0 t1)
  · intro t t0 t1
    rw [h _ (by omega)]
    exact d t t0 t1
  · intro t t0 t1
    rw [h 6 (by omega)] at t1
    have := e t t0 t1
    unfold WG at this ⊢
    rw [h _ (by omega), h _ (by omega), h _ (by omega)]
    exact this
theorem WO_cg (h : Eq0 A B) (ho : EqO A B o) (w : WO A o) : WO B o := by
  obtain ⟨a, b, c, d⟩ := w
  unfold WO
  rw [ho.o0, ho.o1, ho.o2, h 1 (by omega)]
  refine ⟨a, b, c, fun i i0 i1 => ?_⟩
  have := d i i0 i1
  unfold WI at this ⊢
  rw [ho.i0 (by omega), ho.i1 (by omega), ho.i2 (by omega), h 0 (by omega)]
  exact this
theorem val_cg {c : opl} {ta wa : Int} (h : B (10 + 4 * t) = A (10 + 4 * t)) : val B c t w n ta wa = val A c t w n ta wa := by
  unfold val
  rw [h]
theorem vHours_cg (h : B (10 + 4 * t) = A (10 + 4 * t)) : vHours B l t w n = vHours A l t w n := by
  unfold vHours
  simp only [val_cg h]
theorem vPrice_cg (h : B (10 + 4 * t) = A (10 + 4 * t)) : vPrice B l t w n = vPrice A l t w n := by
  unfold vPrice
  simp only [val_cg h]
theorem vBars_cg (h : B (10 + 4 * t) = A (10 + 4 * t)) : vBars B l t w n ↔ vBars A l t w n := by
  unfold vBars
  simp only [val_cg h]
theorem vWorth_cg (h : B (10 + 4 * t) = A (10 + 4 * t)) (h1 : B (100 + (6 * b + 1)) = A (100 + (6 * b + 1))) (h2 : B (100 + (6 * b + 2)) = A (100 + (6 * b + 2))) : vWorth B l b t w n = vWorth A l b t w n := by
  unfold vWorth vWant
  rw [h1, h2]
  simp only [val_cg h]
theorem vCost_cg (h : B (10 + 4 * t) = A (10 + 4 * t)) (h3 : B (10 + (4 * t + 3)) = A (10 + (4 * t + 3))) (hk : B (60 + (5 * k + 2)) = A (60 + (5 * k + 2))) : vCost B l k t w n = vCost A l k t w n := by
  unfold vCost
  rw [vHours_cg h, h3, hk]
theorem row_cg (W : W0 A) (h : Eq0 A B) (ho : EqO A B o) (w : WO A o) (hj : j ≤ A (180 + (13 * o + 2))) : oHours B l o j = oHours A l o j ∧ oPrice B l o j = oPrice A l o j ∧ oCost B l o j = oCost A l o j ∧ oLoad B o j = oLoad A o j ∧ (oLaw B l o j ↔ oLaw A l o j) ∧ ∀ b, 0 ≤ b → b < A 2 → oWorth B l b o j = oWorth A l b o j := by
  have w3 := w.2.2.1
  have w1 := w.2.1
  have wo := w.1
  unfold W0 at W
  have T : ∀ i, 0 ≤ i → i < j → ∀ c, 0 ≤ c → c < 4 → B (10 + (4 * A (180 + (13 * o + (3 + 3 * i))) + c)) = A (10 + (4 * A (180 + (13 * o + (3 + 3 * i))) + c)) := fun i i0 i1 c c0 c1 => h _ (by have := (w.2.2.2 i i0 (by omega)).1; omega)
  have T0 : ∀ i, 0 ≤ i → i < j → B (10 + 4 * (A (180 + (13 * o + (3 + 3 * i))))) = A (10 + 4 * (A (180 + (13 * o + (3 + 3 * i))))) := fun i i0 i1 => h _ (by have := (w.2.2.2 i i0 (by omega)).1; omega)
  have wg : ∀ i, 0 ≤ i → i < j → wghd B o i = wghd A o i := fun i i0 i1 => by
    unfold wghd
    rw [ho.i1 (by omega), ho.i2 (by omega), ho.o1, h _ (by omega)]
  refine ⟨?_, ?_, ?_, ?_, ?_, ?_⟩
  · refine sm_cg fun i i0 i1 => ?_
    rw [ho.i0 (by omega), ho.i1 (by omega), ho.o2, vHours_cg (T0 i i0 i1)]
  · refine sm_cg fun i i0 i1 => ?_
    rw [ho.i0 (by omega), wg i i0 i1, ho.o2, vPrice_cg (T0 i i0 i1)]
  · refine sm_cg fun i i0 i1 => ?_
    rw [ho.i0 (by omega), ho.i1 (by omega), ho.o0, ho.o2, vCost_cg (T0 i i0 i1) (T i i0 i1 3 (by omega) (by omega)) (h _ (by omega))]
  · refine sm_cg fun i i0 i1 => ?_
    rw [ho.i1 (by omega), ho.i2 (by omega)]
  · unfold oLaw
    constructor
    · intro q i i0 i1
      have := q i i0 i1
      rw [ho.i0 (by omega), wg i i0 i1, ho.o2, vBars_cg (T0 i i0 i1)] at this
      exact this
    · intro q i i0 i1
      rw [ho.i0 (by omega), wg i i0 i1, ho.o2, vBars_cg (T0 i i0 i1)]
      exact q i i0 i1
  · intro b b0 b1
    refine sm_cg fun i i0 i1 => ?_
    rw [ho.i0 (by omega), ho.i1 (by omega), ho.o2, vWorth_cg (T0 i i0 i1) (h _ (by omega)) (h _ (by omega))]
theorem oOver_cg (W : W0 A) (h : Eq0 A B) (ho : EqO A B o) (w : WO A o) (hb : 0 ≤ b ∧ b < A 2) : oOver B l b o = oOver A l b o := by
  obtain ⟨-, q2, -, q4, q5, q6⟩ := row_cg (l := l) W h ho w (Int.le_refl (A (180 + (13 * o + 2))))
  have q6 := q6 b hb.1 hb.2
  have w2 := W.2.2.1
  have e : oNum B o = oNum A o := ho.o2
  unfold oOver
  rw [e, h _ (by omega)]
  have q4 : oLoad B o (oNum A o) = oLoad A o (oNum A o) := q4
  have q2 : oPrice B l o (oNum A o) = oPrice A l o (oNum A o) := q2
  have q6 : oWorth B l b o (oNum A o) = oWorth A l b o (oNum A o) := q6
  have q5 : oLaw B l o (oNum A o) ↔ oLaw A l o (oNum A o) := q5
  rw [q4, q2, q6, propext q5]
theorem MO_cg (W : W0 A) (h : Eq0 A B) (ho : EqO A B o) (w : WO A o) {s : sg} (m : MO A l o s) : MO B l o s := by
  obtain ⟨q1, q2, q3, q4, q5, q6⟩ := row_cg (l := l) W h ho w (Int.le_refl (A (180 + (13 * o + 2))))
  obtain ⟨m1, m2, m3, m4, m5, m6⟩ := m
  have e : oNum B o = A (180 + (13 * o + 2)) := ho.o2
  unfold MO
  rw [e, q1, q2, q3, q4, propext q5, h 2 (by omega)]
  exact ⟨m1, m2, m3, m4, m5, fun b b0 b1 => by rw [q6 b b0 b1]; exact m6 b b0 b1⟩
theorem CO_cg (W : W0 A) (h : Eq0 A B) (ho : EqO A B o) (w : WO A o) {s : sg} (m : CO A l o s) : CO B l o s := by
  obtain ⟨q1, q2, q3, q4, q5, q6⟩ := row_cg (l := l) W h ho w (Int.le_refl (A (180 + (13 * o + 2))))
  obtain ⟨m1, m2, m3, m4, m5, m6, m7⟩ := m
  have e : oNum B o = A (180 + (13 * o + 2)) := ho.o2
  unfold CO
  rw [e, q1, q2, q3, q4, propext q5, h 2 (by omega), ho.o0]
  exact ⟨m1, m2, m3, m4, m5, m6, fun b b0 b1 => by rw [oOver_cg W h ho w ⟨b0, b1⟩]; exact m7 b b0 b1⟩
theorem cO_cgA {s : sg} (ho : EqO A B o) (hn : A (180 + (13 * o + 2)) ≤ 3) (c : cO 0 s A o) : cO 0 s B o := by
  obtain ⟨a, b, d, e⟩ := c
  unfold cO
  rw [ho.o0, ho.o1, ho.o2]
  refine ⟨a, b, d, fun i i0 i1 => ?_⟩
  have := e i i0 i1
  unfold cI at this ⊢
  rw [ho.i0 (by omega), ho.i1 (by omega), ho.i2 (by omega)]
  exact this
theorem IC0_cgA {s : sg} (W : W0 A) (h : Eq0 A B) (c : IC0 0 s A) : IC0 0 s B := by
  unfold W0 at W
  obtain ⟨cn, a, b, d, e, f⟩ := c
  refine ⟨?_, ?_, ?_, ?_, ?_, ?_⟩
  · unfold cN at cn ⊢
    rw [h 0 (by omega), h 1 (by omega), h 2 (by omega), h 3 (by omega), h 4 (by omega), h 6 (by omega)]
    exact cn
  · intro t t0 t1
    rw [h 0 (by omega)] at t1
    have := a t t0 t1
    unfold cT at this ⊢
    rw [h _ (by omega), h _ (by omega), h _ (by omega), h _ (by omega)]
    exact this
  · intro t t0 t1
    rw [h 1 (by omega)] at t1
    have := b t t0 t1
    unfold cK at this ⊢
    rw [h _ (by omega), h _ (by omega), h _ (by omega)]
    exact this
  · intro t t0 t1
    rw [h 2 (by omega)] at t1
    have := d t t0 t1
    unfold cB at this ⊢
    rw [h _ (by omega), h _ (by omega), h _ (by omega), h _ (by omega)]
    exact this
  · intro t t0 t1
    rw [h 6 (by omega)] at t1
    have := e t t0 t1
    unfold cG at this ⊢
    rw [h _ (by omega), h _ (by omega), h _ (by omega)]
    exact this
  · intro t t0 t1
    rw [h _ (by omega)]
    exact f t t0 t1
/-! a new offer of one item, of two -/
def fOne (A : Int → Int) (n k h t w : Int) : Int → Int := fLays (fOpens A n k h) n t w 0
def fTwo (A : Int → Int) (n k h t w t2 w2 : Int) : Int → Int := fLays (fOne A n k h t w) n t2 w2 0
theorem fOpens_o2 {h : Int} : fOpens A n k h (180 + (13 * n + 2)) = 0 := by
  unfold fOpens fZero
  rw [up_ne (by omega), up_ne (by omega), if_pos (by omega)]
/-- the row of an offer of one item, place by place -/
theorem fOne_at {h c : Int} (hc : 0 ≤ c ∧ c < 13) : fOne A n k h t w (180 + (13 * n + c)) = if c = 0 then k else if c = 1 then h else if c = 2 then 1 else if c = 3 then t else if c = 4 then w else 0 := by
  unfold fOne fLays
  rw [fOpens_o2]
  unfold fOpens fZero
  simp only [up_at]
  repeat' split
  all_goals omega
theorem fOne_ne {h z : Int} (hz : z < 180 + 13 * n ∨ 180 + 13 * n + 13 ≤ z) : fOne A n k h t w z = A z := by
  unfold fOne fLays
  rw [fOpens_o2]
  unfold fOpens fZero
  simp only [up_at]
  repeat' split
  all_goals first | rfl | omega
theorem fTwo_at {h t2 w2 c : Int} (hc : 0 ≤ c ∧ c < 13) : fTwo A n k h t w t2 w2 (180 + (13 * n + c)) = if c = 0 then k else if c = 1 then h else if c = 2 then 2 else if c = 3 then t else if c = 4 then w else if c = 6 then t2 else if c = 7 then w2 else 0 := by
  have e2 : fOne A n k h t w (180 + (13 * n + 2)) = 1 := fOne_at (c := 2) (by omega)
  unfold fTwo fLays
  rw [e2]
  simp only [up_at]
  rw [fOne_at hc]
  repeat' split
  all_goals omega
theorem fTwo_ne {h t2 w2 z : Int} (hz : z < 180 + 13 * n ∨ 180 + 13 * n + 13 ≤ z) : fTwo A n k h t w t2 w2 z = A z := by
  have e2 : fOne A n k h t w (180 + (13 * n + 2)) = 1 := fOne_at (c := 2) (by omega)
  unfold fTwo fLays
  rw [e2]
  simp only [up_at]
  rw [fOne_ne hz]
  repeat' split
  all_goals first | rfl | omega
theorem fOne_0 {h : Int} (hn : 0 ≤ n ∧ n < 22) : Eq0 A (fOne A n k h t w) := fun z hz => fOne_ne (by omega)
theorem fOne_o {h : Int} (ho : ¬ o = n) : EqO A (fOne A n k h t w) o := fun c c0 c1 => fOne_ne (by omega)
theorem fTwo_0 {h t2 w2 : Int} (hn : 0 ≤ n ∧ n < 22) : Eq0 A (fTwo A n k h t w t2 w2) := fun z hz => fTwo_ne (by omega)
theorem fTwo_o {h t2 w2 : Int} (ho : ¬ o = n) : EqO A (fTwo A n k h t w t2 w2) o := fun c c0 c1 => fTwo_ne (by omega)
/-- whatever stood in the row -/
theorem fOne_cg {h : Int} (e : ∀ z, (z < 180 + 13 * n ∨ 180 + 13 * n + 13 ≤ z) → B z = A z) : fOne B n k h t w = fOne A n k h t w := by
  funext z
  by_cases c : z < 180 + 13 * n ∨ 180 + 13 * n + 13 ≤ z
  · rw [fOne_ne c, fOne_ne c, e z c]
  · rw [show z = 180 + (13 * n + (z - 180 - 13 * n)) by omega, fOne_at (by omega), fOne_at (by omega)]
theorem fTwo_cg {h t2 w2 : Int} (e : ∀ z, (z < 180 + 13 * n ∨ 180 + 13 * n + 13 ≤ z) → B z = A z) : fTwo B n k h t w t2 w2 = fTwo A n k h t w t2 w2 := by
  funext z
  by_cases c : z < 180 + 13 * n ∨ 180 + 13 * n + 13 ≤ z
  · rw [fTwo_ne c, fTwo_ne c, e z c]
  · rw [show z = 180 + (13 * n + (z - 180 - 13 * n)) by omega, fTwo_at (by omega), fTwo_at (by omega)]
theorem fOne_w {h : Int} (hn : 0 ≤ n ∧ n < 22) (hk : 0 ≤ k ∧ k < A 1) (hh : 0 ≤ h ∧ h < 4) (ht : 0 ≤ t ∧ t < A 0) (hw : 1 ≤ w ∧ w ≤ 40) : WO (fOne A n k h t w) n := by
  have e0 : fOne A n k h t w (180 + 13 * n) = k := by
    have q := fOne_at (A := A) (n := n) (k := k) (t := t) (w := w) (h := h) (c := 0) (by omega)
    rw [Int.add_zero] at q
    exact q
  have e1 : fOne A n k h t w (180 + (13 * n + 1)) = h := fOne_at (c := 1) (by omega)
  have e2 : fOne A n k h t w (180 + (13 * n + 2)) = 1 := fOne_at (c := 2) (by omega)
  have z := fOne_0 (A := A) (n := n) (k := k) (h := h) (t := t) (w := w) hn
  unfold WO
  rw [e0, e1, e2, z 1 (by omega)]
  refine ⟨hk, hh, by omega, fun i i0 i1 => ?_⟩
  have ei : i = 0 := by omega
  subst ei
  have e3 : fOne A n k h t w (180 + (13 * n + (3 + 3 * 0))) = t := fOne_at (c := 3) (by omega)
  have e4 : fOne A n k h t w (180 + (13 * n + (3 + (3 * 0 + 1)))) = w := fOne_at (c := 4) (by omega)
  have e5 : fOne A n k h t w (180 + (13 * n + (3 + (3 * 0 + 2)))) = 0 := fOne_at (c := 5) (by omega)
  unfold WI
  rw [e3, e4, e5, z 0 (by omega)]
  exact ⟨ht, hw, by omega⟩
theorem fTwo_w {h t2 w2 : Int} (hn : 0 ≤ n ∧ n < 22) (hk : 0 ≤ k ∧ k < A 1) (hh : 0 ≤ h ∧ h < 4) (ht : 0 ≤ t ∧ t < A 0) (hw : 1 ≤ w ∧ w ≤ 40) (ht2 : 0 ≤ t2 ∧ t2 < A 0) (hw2 : 1 ≤ w2 ∧ w2 ≤ 40) : WO (fTwo A n k h t w t2 w2) n := by
  have e0 : fTwo A n k h t w t2 w2 (180 + 13 * n) = k := by
    have q := fTwo_at (A := A) (n := n) (k := k) (t := t) (w := w) (h := h) (t2 := t2) (w2 := w2) (c := 0) (by omega)
    rw [Int.add_zero] at q
    exact q
  have e1 : fTwo A n k h t w t2 w2 (180 + (13 * n + 1)) = h := fTwo_at (c := 1) (by omega)
  have e2 : fTwo A n k h t w t2 w2 (180 + (13 * n + 2)) = 2 := fTwo_at (c := 2) (by omega)
  have z := fTwo_0 (A := A) (n := n) (k := k) (h := h) (t := t) (w := w) (t2 := t2) (w2 := w2) hn
  unfold WO
  rw [e0, e1, e2, z 1 (by omega)]
  refine ⟨hk, hh, by omega, fun i i0 i1 => ?_⟩
  have ei : i = 0 ∨ i = 1 := by omega
  rcases ei with ei | ei
  · subst ei
    have e3 : fTwo A n k h t w t2 w2 (180 + (13 * n + (3 + 3 * 0))) = t := fTwo_at (c := 3) (by omega)
    have e4 : fTwo A n k h t w t2 w2 (180 + (13 * n + (3 + (3 * 0 + 1)))) = w := fTwo_at (c := 4) (by omega)
    have e5 : fTwo A n k h t w t2 w2 (180 + (13 * n + (3 + (3 * 0 + 2)))) = 0 := fTwo_at (c := 5) (by omega)
    unfold WI
    rw [e3, e4, e5, z 0 (by omega)]
    exact ⟨ht, hw, by omega⟩
  · subst ei
    have e3 : fTwo A n k h t w t2 w2 (180 + (13 * n + (3 + 3 * 1))) = t2 := fTwo_at (c := 6) (by omega)
    have e4 : fTwo A n k h t w t2 w2 (180 + (13 * n + (3 + (3 * 1 + 1)))) = w2 := fTwo_at (c := 7) (by omega)
    have e5 : fTwo A n k h t w t2 w2 (180 + (13 * n + (3 + (3 * 1 + 2)))) = 0 := fTwo_at (c := 8) (by omega)
    unfold WI
    rw [e3, e4, e5, z 0 (by omega)]
    exact ⟨ht2, hw2, by omega⟩
end CG
