/-! FOLDS over a span of integers, and loops -/
section FOLD
variable {α : Type} {g g' : Int → α → α} {s : α} {lo hi z : Int}
def foN (g : Int → α → α) (s : α) (lo : Int) : Nat → α
  | 0 => s
  | n + 1 => g (lo + n) (foN g s lo n)
def fd (g : Int → α → α) (s : α) (lo hi : Int) : α := foN g s lo (hi - lo).toNat
theorem fd_0 (h : hi ≤ lo) : fd g s lo hi = s := by
  unfold fd
  rw [show (hi - lo).toNat = 0 by omega]
  rfl
theorem fd_s (h : lo ≤ z) : fd g s lo (z + 1) = g z (fd g s lo z) := by
  unfold fd
  rw [show (z + 1 - lo).toNat = (z - lo).toNat + 1 by omega]
  show g (lo + ((z - lo).toNat : Int)) _ = _
  rw [show lo + ((z - lo).toNat : Int) = z by omega]
theorem fd_ind {P : Int → α → Prop} (h0 : P lo s) (hs : ∀ z x, lo ≤ z → z < hi → P z x → P (z + 1) (g z x)) (h : lo ≤ hi) : P hi (fd g s lo hi) := by
  have key : ∀ n : Nat, ∀ z, lo ≤ z → z ≤ hi → (z - lo).toNat = n → P z (fd g s lo z) := by
    intro n
    induction n with
    | zero =>
      intro z a b e
      rw [fd_0 (by omega), show z = lo by omega]
      exact h0
    | succ n ih =>
      intro z a b e
      have q := hs (z - 1) _ (by omega) (by omega) (ih (z - 1) (by omega) (by omega) (by omega))
      rw [← fd_s (g := g) (s := s) (lo := lo) (z := z - 1) (by omega), show z - 1 + 1 = z by omega] at q
      exact q
  exact key _ hi h (Int.le_refl hi) rfl
theorem fd_cg (h : ∀ z x, lo ≤ z → z < hi → g z x = g' z x) : fd g s lo hi = fd g' s lo hi := by
  by_cases c : lo ≤ hi
  · refine fd_ind (P := fun z y => y = fd g' s lo z) (by rw [fd_0 (Int.le_refl lo)]) ?_ c
    intro z y a b e
    rw [fd_s a, e, h z _ a b]
  · rw [fd_0 (by omega), fd_0 (by omega)]
end FOLD
/-- a sum -/
def sm (f : Int → Int) (hi : Int) : Int := fd (fun z s => s + f z) 0 0 hi
theorem sm_0 (f : Int → Int) : sm f 0 = 0 := fd_0 (Int.le_refl 0)
theorem sm_s {f : Int → Int} {z : Int} (h : 0 ≤ z) : sm f (z + 1) = sm f z + f z := fd_s h
theorem sm_cg {f f' : Int → Int} {hi : Int} (h : ∀ z, 0 ≤ z → z < hi → f z = f' z) : sm f hi = sm f' hi := fd_cg (fun z x a b => by rw [h z a b])
/-! SUMS over a span -/
theorem i_ind {P : Int → Prop} {hi : Int} (h : 0 ≤ hi) (h0 : P 0) (hs : ∀ z, 0 ≤ z → z < hi → P z → P (z + 1)) : P hi := by
  have key : ∀ n : Nat, (n : Int) ≤ hi → P n := by
    intro n
    induction n with
    | zero => intro _; exact h0
    | succ n ih =>
      intro q
      have q2 : ((n + 1 : Nat) : Int) = (n : Int) + 1 := by omega
      rw [q2]
      exact hs n (by omega) (by omega) (ih (by omega))
  have e := key hi.toNat (by omega)
  rw [Int.toNat_of_nonneg h] at e
  exact e
theorem sm_up {G : Int → Int} {b v hi : Int} (hb : 0 ≤ b) (h : 0 ≤ hi) : sm (up G b v) hi = if b < hi then sm G hi - G b + v else sm G hi := by
  refine i_ind (P := fun z => sm (up G b v) z = if b < z then sm G z - G b + v else sm G z) h ?_ ?_
  · rw [if_neg (by omega), sm_0, sm_0]
  · intro z h0 h1 ih
    rw [sm_s h0, sm_s h0, ih]
    by_cases c : b < z
    · rw [if_pos c, if_pos (by omega), up_ne (by omega)]
      omega
    · rw [if_neg c]
      by_cases e : z = b
      · subst e
        rw [if_pos (by omega), up_eq rfl]
        omega
      · rw [if_neg (by omega), up_ne e]
theorem sm_le {f g : Int → Int} {hi : Int} (h : 0 ≤ hi) (k : ∀ z, 0 ≤ z → z < hi → f z ≤ g z) : sm f hi ≤ sm g hi := by
  have e : ∀ z, z ≤ hi → True := fun _ _ => trivial
  refine i_ind (P := fun z => sm f z ≤ sm g z) h ?_ ?_
  · rw [sm_0, sm_0]
    exact Int.le_refl 0
  · intro z h0 h1 ih
    rw [sm_s h0, sm_s h0]
    have := k z h0 h1
    omega
theorem sm_one {hi : Int} (h : 0 ≤ hi) : sm (fun _ => 1) hi = hi := by
  refine i_ind (P := fun z => sm (fun _ => 1) z = z) h (sm_0 _) ?_
  intro z h0 h1 ih
  rw [sm_s h0, ih]
theorem sm_zero {f : Int → Int} {hi : Int} (h : 0 ≤ hi) (k : ∀ z, 0 ≤ z → z < hi → f z = 0) : sm f hi = 0 := by
  refine i_ind (P := fun z => sm f z = 0) h (sm_0 _) ?_
  intro z h0 h1 ih
  rw [sm_s h0, ih, k z h0 h1]
  rfl
theorem sm_full {f : Int → Int} {hi b : Int} (h : 0 ≤ hi) (k : ∀ z, 0 ≤ z → z < hi → f z ≤ 1) (e : hi ≤ sm f hi) (hb : 0 ≤ b) (hb2 : b < hi) : 1 ≤ f b := by
  have q : sm f hi ≤ sm (up (fun _ => 1) b (f b)) hi := by
    refine sm_le h ?_
    intro z h0 h1
    by_cases c : z = b
    · subst c
      rw [up_eq rfl]
      exact Int.le_refl _
    · rw [up_ne c]
      exact k z h0 h1
  rw [sm_up hb h, if_pos hb2, sm_one h] at q
  omega
theorem sm_add {f g : Int → Int} {hi : Int} (h : 0 ≤ hi) : sm (fun z => f z + g z) hi = sm f hi + sm g hi := by
  refine i_ind (P := fun z => sm (fun z => f z + g z) z = sm f z + sm g z) h ?_ ?_
  · rw [sm_0, sm_0, sm_0]
    rfl
  · intro z h0 h1 ih
    rw [sm_s h0, sm_s h0, sm_s h0, ih]
    omega
theorem sm_sub {f g : Int → Int} {hi : Int} (h : 0 ≤ hi) : sm (fun z => f z - g z) hi = sm f hi - sm g hi := by
  refine i_ind (P := fun z => sm (fun z => f z - g z) z = sm f z - sm g z) h ?_ ?_
  · rw [sm_0, sm_0, sm_0]
    rfl
  · intro z h0 h1 ih
    rw [sm_s h0, sm_s h0, sm_s h0, ih]
    omega
