/-! PARSING: the mathematics; K: kinds, V: numbers of the tokens -/
abbrev prr : Type := Int × Int × opl
noncomputable def pLp (K : Int → Int) (ok : Int → Prop) (sub : Int → prr) (oc : Int → Int) : Nat → Int → opl → prr
  | 0, j, c => (0, j, c)
  | f + 1, j, c => @ite _ (ok (K j)) (Classical.propDecidable _) (if (sub (j + 1)).1 = 0 then pLp K ok sub oc f (sub (j + 1)).2.1 (c ++ (sub (j + 1)).2.2 ++ [(oc (K j), 0)]) else ((sub (j + 1)).1, (sub (j + 1)).2.1, [])) (0, j, c)
noncomputable def pLoop (K : Int → Int) (ok : Int → Prop) (sub : Int → prr) (oc : Int → Int) (j : Int) : prr := if (sub j).1 = 0 then pLp K ok sub oc 300 (sub j).2.1 (sub j).2.2 else ((sub j).1, (sub j).2.1, [])
def isMul (k : Int) : Prop := k = 26 ∨ k = 27
def isAdd (k : Int) : Prop := k = 24 ∨ k = 25
def isCK (k : Int) : Prop := (20 ≤ k ∧ k ≤ 23) ∨ k = 31 ∨ k = 32
noncomputable def pProd (K : Int → Int) (one : Int → prr) : Int → prr := pLoop K isMul one sgT
noncomputable def pSum (K : Int → Int) (one : Int → prr) : Int → prr := pLoop K isAdd (pProd K one) sgT
noncomputable def pOne (K V : Int → Int) (w : Int) : Nat → Int → prr
  | 0, j => if K j = 15 then (if 10000 ≤ V j then (2, j, []) else (0, j + 1, [(400, V j)]))
    else @ite _ (5 ≤ K j ∧ K j ≤ 10) (Classical.propDecidable _) (@ite _ (9 ≤ K j ∧ ¬ w = 2) (Classical.propDecidable _) (5, j, []) (0, j + 1, [(401, K j - 5)]))
    (@ite _ (¬ K j = 28 ∧ ¬ K j = 25) (Classical.propDecidable _) (1, j, []) (3, j, []))
  | d + 1, j => if K j = 15 then (if 10000 ≤ V j then (2, j, []) else (0, j + 1, [(400, V j)]))
    else @ite _ (5 ≤ K j ∧ K j ≤ 10) (Classical.propDecidable _) (@ite _ (9 ≤ K j ∧ ¬ w = 2) (Classical.propDecidable _) (5, j, []) (0, j + 1, [(401, K j - 5)]))
    (@ite _ (¬ K j = 28 ∧ ¬ K j = 25) (Classical.propDecidable _) (1, j, [])
    (if K j = 28 then (if (pSum K (pOne K V w d) (j + 1)).1 = 0 then (if K (pSum K (pOne K V w d) (j + 1)).2.1 = 29 then (0, (pSum K (pOne K V w d) (j + 1)).2.1 + 1, (pSum K (pOne K V w d) (j + 1)).2.2) else (1, (pSum K (pOne K V w d) (j + 1)).2.1, [])) else ((pSum K (pOne K V w d) (j + 1)).1, (pSum K (pOne K V w d) (j + 1)).2.1, []))
    else (if (pOne K V w d (j + 1)).1 = 0 then (0, (pOne K V w d (j + 1)).2.1, (pOne K V w d (j + 1)).2.2 ++ [(402, 0)]) else ((pOne K V w d (j + 1)).1, (pOne K V w d (j + 1)).2.1, []))))
/-- SUM one of .. SUM -/
noncomputable def pCmp (K : Int → Int) (sum : Int → prr) (j : Int) : prr :=
  if (sum j).1 = 0 then (@ite _ (isCK (K (sum j).2.1)) (Classical.propDecidable _) (if (sum ((sum j).2.1 + 1)).1 = 0 then (0, (sum ((sum j).2.1 + 1)).2.1, (sum j).2.2 ++ (sum ((sum j).2.1 + 1)).2.2 ++ [(sgT (K (sum j).2.1), 0)]) else ((sum ((sum j).2.1 + 1)).1, (sum ((sum j).2.1 + 1)).2.1, [])) (1, (sum j).2.1, [])) else ((sum j).1, (sum j).2.1, [])
noncomputable def pAsk (K V : Int → Int) (w : Int) : Nat → Int → prr
  | 0, j => if K j = 13 then (3, j, []) else pCmp K (pSum K (pOne K V w 0)) j
  | d + 1, j => if K j = 13 then (if (pAsk K V w d (j + 1)).1 = 0 then (0, (pAsk K V w d (j + 1)).2.1, (pAsk K V w d (j + 1)).2.2 ++ [(405, 0)]) else ((pAsk K V w d (j + 1)).1, (pAsk K V w d (j + 1)).2.1, [])) else pCmp K (pSum K (pOne K V w (d + 1))) j
noncomputable def pBoth (K V : Int → Int) (w : Int) : Int → prr := pLoop K (fun k => k = 12) (pAsk K V w 8) (fun _ => 406)
noncomputable def pEith (K V : Int → Int) (w : Int) : Int → prr := pLoop K (fun k => k = 11) (pBoth K V w) (fun _ => 407)
noncomputable def pBody (K V : Int → Int) (w : Int) : Int → prr := if w = 4 then pEith K V w else pSum K (pOne K V w 8)
/-- a clause behind the clauses l -/
noncomputable def pCl (K V : Int → Int) (l : lawT) (j : Int) : Int × Int × (Int × opl) :=
  if 4 < K j then (1, j, (0, []))
  else @ite _ (¬ K j = 4 ∧ ∃ c ∈ l, c.1 = K j) (Classical.propDecidable _) (4, j, (0, []))
  (if 10 ≤ l.length then (6, j, (0, []))
  else if (pBody K V (K j) (j + 1)).1 = 0 then (if K (pBody K V (K j) (j + 1)).2.1 = 30 then (0, (pBody K V (K j) (j + 1)).2.1 + 1, (K j, (pBody K V (K j) (j + 1)).2.2)) else (1, (pBody K V (K j) (j + 1)).2.1, (0, [])))
  else ((pBody K V (K j) (j + 1)).1, (pBody K V (K j) (j + 1)).2.1, (0, [])))
noncomputable def pTx (K V : Int → Int) : Nat → Int → lawT → Int × Int × lawT
  | 0, j, l => (6, j, l)
  | f + 1, j, l => if K j = 16 then (0, j, l) else if (pCl K V l j).1 = 0 then pTx K V f (pCl K V l j).2.1 (l ++ [(pCl K V l j).2.2]) else ((pCl K V l j).1, (pCl K V l j).2.1, [])
/-- what holds of a reading -/
def Gd (K : Int → Int) (w t : Bool) (sub : Int → prr) : Prop := ∀ j, 0 ≤ j → (j ≤ (sub j).2.1 ∧ ∀ i, j ≤ i → i < (sub j).2.1 → ¬ K i = 16) ∧ ((sub j).1 = 0 → j < (sub j).2.1 ∧ ((sub j).2.2.length : Int) ≤ (sub j).2.1 - j ∧ tys w (sub j).2.2 [] [t]) ∧ 0 ≤ (sub j).1 ∧ (sub j).1 ≤ 6
section PM
variable {K V : Int → Int} {ok : Int → Prop} {sub : Int → prr} {oc : Int → Int} {w t : Bool} {T j : Int}
theorem Gd_T (g : Gd K w t sub) (hj : 0 ≤ j) (hT : K T = 16) (h : j ≤ T) : (sub j).2.1 ≤ T := by
  obtain ⟨⟨_, a⟩, _⟩ := g j hj
  by_cases c : (sub j).2.1 ≤ T
  · exact c
  · exact absurd hT (a T h (by omega))
theorem pLp_g (g : Gd K w t sub) (h1 : ∀ k, ok k → ¬ k = 16) (h2 : ∀ k, ok k → ty1 w (oc k, 0) [t, t] [t]) : ∀ (f : Nat) (j0 j : Int) (c : opl), (0 ≤ j0 ∧ j0 < j) → (∀ i, j0 ≤ i → i < j → ¬ K i = 16) → ((c.length : Int) ≤ j - j0) → tys w c [] [t] → (j ≤ (pLp K ok sub oc f j c).2.1 ∧ ∀ i, j0 ≤ i → i < (pLp K ok sub oc f j c).2.1 → ¬ K i = 16) ∧ ((pLp K ok sub oc f j c).1 = 0 → ((pLp K ok sub oc f j c).2.2.length : Int) ≤ (pLp K ok sub oc f j c).2.1 - j0 ∧ tys w (pLp K ok sub oc f j c).2.2 [] [t]) ∧ 0 ≤ (pLp K ok sub oc f j c).1 ∧ (pLp K ok sub oc f j c).1 ≤ 6
  | 0, j0, j, c, hj, hK, hl, ht => ⟨⟨Int.le_refl j, hK⟩, fun _ => ⟨hl, ht⟩, by show (0 : Int) ≤ 0 ∧ (0 : Int) ≤ 6; omega⟩
  | f + 1, j0, j, c, hj, hK, hl, ht => by
    rw [pLp]
    by_cases e : ok (K j)
    · rw [if_pos e]
      obtain ⟨⟨g1, g2⟩, g3, g4⟩ := g (j + 1) (by omega)
      have hK2 : ∀ i, j0 ≤ i → i < (sub (j + 1)).2.1 → ¬ K i = 16 := by
        intro i i0 i1
        by_cases x : i < j
        · exact hK i i0 x
        · by_cases y : i = j
          · rw [y]; exact h1 _ e
          · exact g2 i (by omega) i1
      by_cases z : (sub (j + 1)).1 = 0
      · rw [if_pos z]
        obtain ⟨g5, g6, g7⟩ := g3 z
        have q := pLp_g g h1 h2 f j0 (sub (j + 1)).2.1 (c ++ (sub (j + 1)).2.2 ++ [(oc (K j), 0)]) (by omega) hK2 (by simp; omega) (tys_app (tys_app ht (tys_up [t] g7)) ⟨[t], h2 _ e, rfl⟩)
        exact ⟨⟨by omega, q.1.2⟩, q.2⟩
      · rw [if_neg z]
        exact ⟨⟨by show j ≤ (sub (j + 1)).2.1; omega, hK2⟩, fun x => absurd x z, g4⟩
    · rw [if_neg e]
      exact ⟨⟨Int.le_refl j, hK⟩, fun _ => ⟨hl, ht⟩, by show (0 : Int) ≤ 0 ∧ (0 : Int) ≤ 6; omega⟩
theorem pLoop_g (g : Gd K w t sub) (h1 : ∀ k, ok k → ¬ k = 16) (h2 : ∀ k, ok k → ty1 w (oc k, 0) [t, t] [t]) : Gd K w t (pLoop K ok sub oc) := by
  intro j hj
  obtain ⟨⟨g1, g2⟩, g3, g4⟩ := g j hj
  unfold pLoop
  by_cases z : (sub j).1 = 0
  · rw [if_pos z]
    obtain ⟨g5, g6, g7⟩ := g3 z
    obtain ⟨q1, q2, q3⟩ := pLp_g g h1 h2 300 j (sub j).2.1 (sub j).2.2 (by omega) g2 g6 g7
    exact ⟨⟨by omega, q1.2⟩, fun x => ⟨by omega, q2 x⟩, q3⟩
  · rw [if_neg z]
    exact ⟨⟨g1, g2⟩, fun x => absurd x z, g4⟩
theorem ar_ty (h : isMul j ∨ isAdd j) : ty1 w (sgT j, 0) [false, false] [false] := by
  refine Or.inr (Or.inr (Or.inr (Or.inr (Or.inl ⟨?_, [], rfl, rfl⟩))))
  unfold isMul isAdd at h
  rcases h with (q | q) | (q | q) <;> subst q <;> unfold isAr <;> decide
theorem cmp_ty (h : isCK j) : ty1 w (sgT j, 0) [false, false] [true] := by
  refine Or.inr (Or.inr (Or.inr (Or.inr (Or.inr (Or.inl ⟨?_, [], rfl, rfl⟩)))))
  have e : j = 20 ∨ j = 21 ∨ j = 22 ∨ j = 23 ∨ j = 31 ∨ j = 32 := by unfold isCK at h; omega
  rcases e with q | q | q | q | q | q <;> subst q <;> unfold isCmp <;> decide
theorem pProd_g (g : Gd K w false sub) : Gd K w false (pProd K sub) := pLoop_g g (fun k h => by unfold isMul at h; omega) (fun k h => ar_ty (Or.inl h))
theorem pSum_g (g : Gd K w false sub) : Gd K w false (pSum K sub) := pLoop_g (pProd_g g) (fun k h => by unfold isAdd at h; omega) (fun k h => ar_ty (Or.inr h))
theorem Gd_err {f : Int} (hf : 0 < f ∧ f ≤ 6) {r : prr} (e : r = (f, j, [])) : (j ≤ r.2.1 ∧ ∀ i, j ≤ i → i < r.2.1 → ¬ K i = 16) ∧ (r.1 = 0 → j < r.2.1 ∧ (r.2.2.length : Int) ≤ r.2.1 - j ∧ tys w r.2.2 [] [t]) ∧ 0 ≤ r.1 ∧ r.1 ≤ 6 := by
  subst e
  exact ⟨⟨Int.le_refl j, fun i a b => by have b : i < j := b; omega⟩, fun x => by have x : f = 0 := x; omega, by show 0 ≤ f ∧ f ≤ 6; omega⟩
theorem Gd_one {q : Int × Int} (hk : ¬ K j = 16) (ht : ty1 w q [] [t]) {r : prr} (e : r = (0, j + 1, [q])) : (j ≤ r.2.1 ∧ ∀ i, j ≤ i → i < r.2.1 → ¬ K i = 16) ∧ (r.1 = 0 → j < r.2.1 ∧ (r.2.2.length : Int) ≤ r.2.1 - j ∧ tys w r.2.2 [] [t]) ∧ 0 ≤ r.1 ∧ r.1 ≤ 6 := by
  subst e
  refine ⟨⟨by show j ≤ j + 1; omega, fun i a b => ?_⟩, fun _ => ⟨by show j < j + 1; omega, by show ((1 : Nat) : Int) ≤ j + 1 - j; omega, [t], ht, rfl⟩, by show (0 : Int) ≤ 0 ∧ (0 : Int) ≤ 6; omega⟩
  have b : i < j + 1 := b
  rw [show i = j by omega]
  exact hk
theorem pOne_g (w : Int) (hV : ∀ j, 0 ≤ V j) : ∀ d, Gd K (decide (w = 2)) false (pOne K V w d)
  | 0 => by
    intro j hj
    rw [pOne]
    by_cases c1 : K j = 15
    · rw [if_pos c1]
      by_cases c2 : 10000 ≤ V j
      · rw [if_pos c2]; exact Gd_err (f := 2) (by omega) rfl
      · rw [if_neg c2]; exact Gd_one (by omega) (Or.inl ⟨rfl, ⟨hV j, by show V j ≤ 9999; omega⟩, rfl⟩) rfl
    · rw [if_neg c1]
      by_cases c2 : 5 ≤ K j ∧ K j ≤ 10
      · rw [if_pos c2]
        by_cases c3 : 9 ≤ K j ∧ ¬ w = 2
        · rw [if_pos c3]; exact Gd_err (f := 5) (by omega) rfl
        · rw [if_neg c3]; exact Gd_one (by omega) (Or.inr (Or.inl ⟨rfl, by show 0 ≤ K j - 5; omega, by show K j - 5 ≤ 5; omega, by
            by_cases x : 9 ≤ K j
            · right
              exact decide_eq_true (Classical.byContradiction fun y => c3 ⟨x, y⟩)
            · left
              show K j - 5 ≤ 3
              omega, rfl⟩)) rfl
      · rw [if_neg c2]
        by_cases c3 : ¬ K j = 28 ∧ ¬ K j = 25
        · rw [if_pos c3]; exact Gd_err (f := 1) (by omega) rfl
        · rw [if_neg c3]; exact Gd_err (f := 3) (by omega) rfl
  | d + 1 => by
    have g0 := pOne_g w hV d
    intro j hj
    rw [pOne]
    by_cases c1 : K j = 15
    · rw [if_pos c1]
      by_cases c2 : 10000 ≤ V j
      · rw [if_pos c2]; exact Gd_err (f := 2) (by omega) rfl
      · rw [if_neg c2]; exact Gd_one (by omega) (Or.inl ⟨rfl, ⟨hV j, by show V j ≤ 9999; omega⟩, rfl⟩) rfl
    · rw [if_neg c1]
      by_cases c2 : 5 ≤ K j ∧ K j ≤ 10
      · rw [if_pos c2]
        by_cases c3 : 9 ≤ K j ∧ ¬ w = 2
        · rw [if_pos c3]; exact Gd_err (f := 5) (by omega) rfl
        · rw [if_neg c3]; exact Gd_one (by omega) (Or.inr (Or.inl ⟨rfl, by show 0 ≤ K j - 5; omega, by show K j - 5 ≤ 5; omega, by
            by_cases x : 9 ≤ K j
            · right
              exact decide_eq_true (Classical.byContradiction fun y => c3 ⟨x, y⟩)
            · left
              show K j - 5 ≤ 3
              omega, rfl⟩)) rfl
      · rw [if_neg c2]
        by_cases c3 : ¬ K j = 28 ∧ ¬ K j = 25
        · rw [if_pos c3]; exact Gd_err (f := 1) (by omega) rfl
        · rw [if_neg c3]
          have nk : ¬ K j = 16 := by omega
          by_cases c4 : K j = 28
          · rw [if_pos c4]
            obtain ⟨⟨g1, g2⟩, g3, g4⟩ := pSum_g g0 (j + 1) (by omega)
            generalize pSum K (pOne K V w d) (j + 1) = r at *
            have hK2 : ∀ i, j ≤ i → i < r.2.1 → ¬ K i = 16 := by
              intro i i0 i1
              by_cases y : i = j
              · rw [y]; exact nk
              · exact g2 i (by omega) i1
            by_cases z : r.1 = 0
            · rw [if_pos z]
              obtain ⟨g5, g6, g7⟩ := g3 z
              by_cases x : K r.2.1 = 29
              · rw [if_pos x]
                refine ⟨⟨by show j ≤ r.2.1 + 1; omega, fun i i0 i1 => ?_⟩, fun _ => ⟨by show j < r.2.1 + 1; omega, by show (r.2.2.length : Int) ≤ r.2.1 + 1 - j; omega, g7⟩, by show (0 : Int) ≤ 0 ∧ (0 : Int) ≤ 6; omega⟩
                have i1 : i < r.2.1 + 1 := i1
                by_cases y : i = r.2.1
                · rw [y, x]; omega
                · exact hK2 i i0 (by omega)
              · rw [if_neg x]
                exact ⟨⟨by show j ≤ r.2.1; omega, hK2⟩, fun q => by have q : (1 : Int) = 0 := q; omega, by show (0 : Int) ≤ 1 ∧ (1 : Int) ≤ 6; omega⟩
            · rw [if_neg z]
              exact ⟨⟨by show j ≤ r.2.1; omega, hK2⟩, fun q => absurd q z, g4⟩
          · rw [if_neg c4]
            obtain ⟨⟨g1, g2⟩, g3, g4⟩ := g0 (j + 1) (by omega)
            generalize pOne K V w d (j + 1) = r at *
            have hK2 : ∀ i, j ≤ i → i < r.2.1 → ¬ K i = 16 := by
              intro i i0 i1
              by_cases y : i = j
              · rw [y]; exact nk
              · exact g2 i (by omega) i1
            by_cases z : r.1 = 0
            · rw [if_pos z]
              obtain ⟨g5, g6, g7⟩ := g3 z
              refine ⟨⟨by show j ≤ r.2.1; omega, hK2⟩, fun _ => ⟨by show j < r.2.1; omega, by simp; omega, tys_app g7 ⟨[false], Or.inr (Or.inr (Or.inl ⟨rfl, [], rfl, rfl⟩)), rfl⟩⟩, by show (0 : Int) ≤ 0 ∧ (0 : Int) ≤ 6; omega⟩
            · rw [if_neg z]
              exact ⟨⟨by show j ≤ r.2.1; omega, hK2⟩, fun q => absurd q z, g4⟩
theorem pCmp_g {sum : Int → prr} (g : Gd K w false sum) : Gd K w true (pCmp K sum) := by
  intro j hj
  obtain ⟨⟨g1, g2⟩, g3, g4⟩ := g j hj
  unfold pCmp
  by_cases z : (sum j).1 = 0
  · rw [if_pos z]
    obtain ⟨g5, g6, g7⟩ := g3 z
    by_cases c : isCK (K (sum j).2.1)
    · rw [if_pos c]
      obtain ⟨⟨h1, h2⟩, h3, h4⟩ := g ((sum j).2.1 + 1) (by omega)
      have hK2 : ∀ i, j ≤ i → i < (sum ((sum j).2.1 + 1)).2.1 → ¬ K i = 16 := by
        intro i i0 i1
        by_cases x : i < (sum j).2.1
        · exact g2 i i0 x
        · by_cases y : i = (sum j).2.1
          · rw [y]; unfold isCK at c; omega
          · exact h2 i (by omega) i1
      by_cases z2 : (sum ((sum j).2.1 + 1)).1 = 0
      · rw [if_pos z2]
        obtain ⟨h5, h6, h7⟩ := h3 z2
        exact ⟨⟨by show j ≤ (sum ((sum j).2.1 + 1)).2.1; omega, hK2⟩, fun _ => ⟨by show j < (sum ((sum j).2.1 + 1)).2.1; omega, by simp; omega, tys_app (tys_app g7 (tys_up [false] h7)) ⟨[true], cmp_ty c, rfl⟩⟩, by show (0 : Int) ≤ 0 ∧ (0 : Int) ≤ 6; omega⟩
      · rw [if_neg z2]
        exact ⟨⟨by show j ≤ (sum ((sum j).2.1 + 1)).2.1; omega, hK2⟩, fun q => absurd q z2, h4⟩
    · rw [if_neg c]
      exact ⟨⟨g1, g2⟩, fun q => by have q : (1 : Int) = 0 := q; omega, by show (0 : Int) ≤ 1 ∧ (1 : Int) ≤ 6; omega⟩
  · rw [if_neg z]
    exact ⟨⟨g1, g2⟩, fun q => absurd q z, g4⟩
theorem pAsk_g (w : Int) (hV : ∀ j, 0 ≤ V j) : ∀ d, Gd K (decide (w = 2)) true (pAsk K V w d)
  | 0 => by
    intro j hj
    rw [pAsk]
    by_cases c : K j = 13
    · rw [if_pos c]; exact Gd_err (f := 3) (by omega) rfl
    · rw [if_neg c]; exact pCmp_g (pSum_g (pOne_g w hV 0)) j hj
  | d + 1 => by
    have g0 := pAsk_g w hV d
    intro j hj
    rw [pAsk]
    by_cases c : K j = 13
    · rw [if_pos c]
      obtain ⟨⟨g1, g2⟩, g3, g4⟩ := g0 (j + 1) (by omega)
      generalize pAsk K V w d (j + 1) = r at *
      have hK2 : ∀ i, j ≤ i → i < r.2.1 → ¬ K i = 16 := by
        intro i i0 i1
        by_cases y : i = j
        · rw [y]; omega
        · exact g2 i (by omega) i1
      by_cases z : r.1 = 0
      · rw [if_pos z]
        obtain ⟨g5, g6, g7⟩ := g3 z
        refine ⟨⟨by show j ≤ r.2.1; omega, hK2⟩, fun _ => ⟨by show j < r.2.1; omega, by simp; omega, tys_app g7 ⟨[true], Or.inr (Or.inr (Or.inr (Or.inl ⟨rfl, [], rfl, rfl⟩))), rfl⟩⟩, by show (0 : Int) ≤ 0 ∧ (0 : Int) ≤ 6; omega⟩
      · rw [if_neg z]
        exact ⟨⟨by show j ≤ r.2.1; omega, hK2⟩, fun q => absurd q z, g4⟩
    · rw [if_neg c]; exact pCmp_g (pSum_g (pOne_g w hV (d + 1))) j hj
theorem pBoth_g (w : Int) (hV : ∀ j, 0 ≤ V j) : Gd K (decide (w = 2)) true (pBoth K V w) := pLoop_g (pAsk_g w hV 8) (fun k h => by omega) (fun k h => Or.inr (Or.inr (Or.inr (Or.inr (Or.inr (Or.inr ⟨Or.inl rfl, [], rfl, rfl⟩))))))
theorem pEith_g (w : Int) (hV : ∀ j, 0 ≤ V j) : Gd K (decide (w = 2)) true (pEith K V w) := pLoop_g (pBoth_g w hV) (fun k h => by omega) (fun k h => Or.inr (Or.inr (Or.inr (Or.inr (Or.inr (Or.inr ⟨Or.inr rfl, [], rfl, rfl⟩))))))
theorem pBody_g (w : Int) (hV : ∀ j, 0 ≤ V j) : Gd K (decide (w = 2)) (decide (w = 4)) (pBody K V w) := by
  unfold pBody
  by_cases c : w = 4
  · rw [if_pos c, decide_eq_true c]; exact pEith_g w hV
  · rw [if_neg c, decide_eq_false c]; exact pSum_g (pOne_g w hV 8)
end PM
