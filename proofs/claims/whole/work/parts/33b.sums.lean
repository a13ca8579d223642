/-! SUMS over a span -/
theorem i_ind {P : Int → Prop} {hi : Int} (h : 0 ≤ hi) (h0 : P 0) (hs : ∀ z, 0 ≤ z → z < hi → P z → P (z + 1)) : P hi := by
  have key : ∀ n : Nat, (n : Int) ≤ hi → P n := by
    intro n
    induction n with
    | zero => intro _; exact h0
    | succ n ih =>
      intro q
      have q2 : ((n + 1 : Nat) : Int) = (n : Int) + 1 := by omega
      rw [q2]
      exact hs n (by omega) (by omega) (ih (by omega))
  have e := key hi.toNat (by omega)
  rw [Int.toNat_of_nonneg h] at e
  exact e
theorem sm_up {G : Int → Int} {b v hi : Int} (hb : 0 ≤ b) (h : 0 ≤ hi) : sm (up G b v) hi = if b < hi then sm G hi - G b + v else sm G hi := by
  refine i_ind (P := fun z => sm (up G b v) z = if b < z then sm G z - G b + v else sm G z) h ?_ ?_
  · rw [if_neg (by omega), sm_0, sm_0]
  · intro z h0 h1 ih
    rw [sm_s h0, sm_s h0, ih]
    by_cases c : b < z
    · rw [if_pos c, if_pos (by omega), up_ne (by omega)]
      omega
    · rw [if_neg c]
      by_cases e : z = b
      · subst e
        rw [if_pos (by omega), up_eq rfl]
        omega
      · rw [if_neg (by omega), up_ne e]
theorem sm_le {f g : Int → Int} {hi : Int} (h : 0 ≤ hi) (k : ∀ z, 0 ≤ z → z < hi → f z ≤ g z) : sm f hi ≤ sm g hi := by
  have e : ∀ z, z ≤ hi → True := fun _ _ => trivial
  refine i_ind (P := fun z => sm f z ≤ sm g z) h ?_ ?_
  · rw [sm_0, sm_0]
    exact Int.le_refl 0
  · intro z h0 h1 ih
    rw [sm_s h0, sm_s h0]
    have := k z h0 h1
    omega
theorem sm_one {hi : Int} (h : 0 ≤ hi) : sm (fun _ => 1) hi = hi := by
  refine i_ind (P := fun z => sm (fun _ => 1) z = z) h (sm_0 _) ?_
  intro z h0 h1 ih
  rw [sm_s h0, ih]
theorem sm_zero {f : Int → Int} {hi : Int} (h : 0 ≤ hi) (k : ∀ z, 0 ≤ z → z < hi → f z = 0) : sm f hi = 0 := by
  refine i_ind (P := fun z => sm f z = 0) h (sm_0 _) ?_
  intro z h0 h1 ih
  rw [sm_s h0, ih, k z h0 h1]
  rfl
theorem sm_full {f : Int → Int} {hi b : Int} (h : 0 ≤ hi) (k : ∀ z, 0 ≤ z → z < hi → f z ≤ 1) (e : hi ≤ sm f hi) (hb : 0 ≤ b) (hb2 : b < hi) : 1 ≤ f b := by
  have q : sm f hi ≤ sm (up (fun _ => 1) b (f b)) hi := by
    refine sm_le h ?_
    intro z h0 h1
    by_cases c : z = b
    · subst c
      rw [up_eq rfl]
      exact Int.le_refl _
    · rw [up_ne c]
      exact k z h0 h1
  rw [sm_up hb h, if_pos hb2, sm_one h] at q
  omega
theorem sm_add {f g : Int → Int} {hi : Int} (h : 0 ≤ hi) : sm (fun z => f z + g z) hi = sm f hi + sm g hi := by
  refine i_ind (P := fun z => sm (fun z => f z + g z) z = sm f z + sm g z) h ?_ ?_
  · rw [sm_0, sm_0, sm_0]
    rfl
  · intro z h0 h1 ih
    rw [sm_s h0, sm_s h0, sm_s h0, ih]
    omega
theorem sm_sub {f g : Int → Int} {hi : Int} (h : 0 ≤ hi) : sm (fun z => f z - g z) hi = sm f hi - sm g hi := by
  refine i_ind (P := fun z => sm (fun z => f z - g z) z = sm f z - sm g z) h ?_ ?_
  · rw [sm_0, sm_0, sm_0]
    rfl
  · intro z h0 h1 ih
    rw [sm_s h0, sm_s h0, sm_s h0, ih]
    omega
