/-! FOLDS over a span of integers, and loops -/
section FOLD
variable {α : Type} {g g' : Int → α → α} {s : α} {lo hi z : Int}
def foN (g : Int → α → α) (s : α) (lo : Int) : Nat → α
  | 0 => s
  | n + 1 => g (lo + n) (foN g s lo n)
def fd (g : Int → α → α) (s : α) (lo hi : Int) : α := foN g s lo (hi - lo).toNat
theorem fd_0 (h : hi ≤ lo) : fd g s lo hi = s := by
  unfold fd
  rw [show (hi - lo).toNat = 0 by omega]
  rfl
theorem fd_s (h : lo ≤ z) : fd g s lo (z + 1) = g z (fd g s lo z) := by
  unfold fd
  rw [show (z + 1 - lo).toNat = (z - lo).toNat + 1 by omega]
  show g (lo + ((z - lo).toNat : Int)) _ = _
  rw [show lo + ((z - lo).toNat : Int) = z by omega]
theorem fd_ind {P : Int → α → Prop} (h0 : P lo s) (hs : ∀ z x, lo ≤ z → z < hi → P z x → P (z + 1) (g z x)) (h : lo ≤ hi) : P hi (fd g s lo hi) := by
  have key : ∀ n : Nat, ∀ z, lo ≤ z → z ≤ hi → (z - lo).toNat = n → P z (fd g s lo z) := by
    intro n
    induction n with
    | zero =>
      intro z a b e
      rw [fd_0 (by omega), show z = lo by omega]
      exact h0
    | succ n ih =>
      intro z a b e
      have q := hs (z - 1) _ (by omega) (by omega) (ih (z - 1) (by omega) (by omega) (by omega))
      rw [← fd_s (by omega), show z - 1 + 1 = z by omega] at q
      exact q
  exact key _ hi h (Int.le_refl hi) rfl
theorem fd_cg (h : ∀ z x, lo ≤ z → z < hi → g z x = g' z x) : fd g s lo hi = fd g' s lo hi := by
  by_cases c : lo ≤ hi
  · refine fd_ind (P := fun z y => y = fd g' s lo z) (by rw [fd_0 (Int.le_refl lo)]) ?_ c
    intro z y a b e
    rw [fd_s a, e, h z _ a b]
  · rw [fd_0 (by omega), fd_0 (by omega)]
end FOLD
/-- a sum -/
def sm (f : Int → Int) (hi : Int) : Int := fd (fun z s => s + f z) 0 0 hi
theorem sm_0 (f : Int → Int) : sm f 0 = 0 := fd_0 (Int.le_refl 0)
theorem sm_s {f : Int → Int} {z : Int} (h : 0 ≤ z) : sm f (z + 1) = sm f z + f z := fd_s h
theorem sm_cg {f f' : Int → Int} {hi : Int} (h : ∀ z, 0 ≤ z → z < hi → f z = f' z) : sm f hi = sm f' hi := fd_cg (fun z x a b => by rw [h z a b])
theorem lp {N : Int} {I W : Int → sM → Prop} (hs : ∀ i m, i < N → I i m → (∀ m', I (i + 1) m' → W (i + 1) m') → W i m) (he : ∀ m, I N m → W N m) : ∀ i m, i ≤ N → I i m → W i m := by
  have key : ∀ n : Nat, ∀ i m, (N - i).toNat = n → i ≤ N → I i m → W i m := by
    intro n
    induction n with
    | zero =>
      intro i m e h hi
      have q : N = i := by omega
      subst q
      exact he m hi
    | succ n ih =>
      intro i m e h hi
      exact hs i m (by omega) hi (fun m' h' => ih (i + 1) m' (by omega) (by omega) h')
  intro i m h hi
  exact key _ i m rfl h hi
/-! THE MATHEMATICS of the calls: the reference's row a as a function on integers -/
def f_thing (A : Int → Int) (s l u f : Int) : Int × (Int → Int) := if (1 ≤ s ∧ s ≤ 99) ∧ (1 ≤ l ∧ l ≤ 40) ∧ (l ≤ u ∧ u ≤ 40) ∧ (0 ≤ f ∧ f ≤ 99) ∧ ¬ A 0 = 10 then (A 0, up (up (up (up (up A (10 + 4 * A 0) s) (10 + 4 * A 0 + 1) l) (10 + 4 * A 0 + 2) u) (10 + 4 * A 0 + 3) f) 0 (A 0 + 1)) else (-1, A)
def f_maker (A : Int → Int) (h c w : Int) : Int × (Int → Int) := if (0 ≤ h ∧ h ≤ 9999) ∧ (0 ≤ c ∧ c ≤ 1023) ∧ (0 ≤ w ∧ w ≤ 99) ∧ ¬ A 1 = 6 then (A 1, up (up (up (up (up (up A (60 + 5 * A 1) h) (60 + 5 * A 1 + 1) c) (60 + 5 * A 1 + 2) w) (60 + 5 * A 1 + 3) 0) (60 + 5 * A 1 + 4) 0) 1 (A 1 + 1)) else (-1, A)
def f_adds (A : Int → Int) (n w t c : Int) : Int → Int := up (up (up (up (up (up (up A (100 + 6 * A 2) n) (100 + 6 * A 2 + 1) w) (100 + 6 * A 2 + 2) t) (100 + 6 * A 2 + 3) c) (100 + 6 * A 2 + 4) 0) (100 + 6 * A 2 + 5) 0) 2 (A 2 + 1)
def f_buyer (A : Int → Int) (n w t c : Int) : Int × (Int → Int) := if (1 ≤ n ∧ n ≤ 999) ∧ (0 ≤ w ∧ w ≤ A 0 - 1) ∧ (0 ≤ t ∧ t ≤ 99) ∧ (1 ≤ c ∧ c ≤ 99) ∧ A 2 < 10 then (A 2, f_adds A n w t c) else (-1, A)
def f_house (A : Int → Int) (h p : Int) : Int × (Int → Int) := if (0 ≤ h ∧ h ≤ 3) ∧ 50 ≤ p ∧ p ≤ 150 then (1, up A (170 + h) p) else (0, A)
def f_opens (A : Int → Int) (o k h : Int) : Int → Int := up (up (fun z => if 180 + 13 * o ≤ z ∧ z < 180 + 13 * o + 13 then 0 else A z) (180 + 13 * o) k) (180 + 13 * o + 1) h
def f_offer (A : Int → Int) (k h : Int) : Int × (Int → Int) := if (0 ≤ k ∧ k ≤ A 1 - 1) ∧ (0 ≤ h ∧ h ≤ 3) ∧ ¬ A 3 = 20 then (A 3, up (f_opens A (A 3) k h) 3 (A 3 + 1)) else (-1, A)
def f_lays (A : Int → Int) (o t w v : Int) : Int → Int := up (up (up (up A (180 + 13 * o + 3 + 3 * A (180 + 13 * o + 2)) t) (180 + 13 * o + 3 + 3 * A (180 + 13 * o + 2) + 1) w) (180 + 13 * o + 3 + 3 * A (180 + 13 * o + 2) + 2) v) (180 + 13 * o + 2) (A (180 + 13 * o + 2) + 1)
def f_drop (A : Int → Int) (o : Int) : Int × (Int → Int) := if 0 ≤ o ∧ o ≤ A 3 - 1 then (A (180 + 13 * o + 2), up A (180 + 13 * o + 2) 0) else (-1, A)
def f_gift (A : Int → Int) (f t w : Int) : Int × (Int → Int) := if (0 ≤ f ∧ f ≤ 7) ∧ (0 ≤ t ∧ t ≤ 7) ∧ ¬ f = t ∧ (1 ≤ w ∧ w ≤ 999) ∧ ¬ A 6 = 30 then (A 6, up (up (up (up A (480 + 3 * A 6) f) (480 + 3 * A 6 + 1) t) (480 + 3 * A 6 + 2) w) 6 (A 6 + 1)) else (-1, A)
def f_by (A : Int → Int) (t : Int) : Int × (Int → Int) := if t = -1 ∨ 0 ≤ t ∧ t ≤ A 4 - 1 then (1, up A 5 t) else (0, A)
/-- the crafts' bit, as both sides ask it -/
def f_bit (A : Int → Int) (k t : Int) : Prop := (iI (A (60 + 5 * k + 1)) >>> (iI t &&& 31)) &&& iI 1 = iI 1
def f_makes (A : Int → Int) (k t : Int) : Prop := (0 ≤ t ∧ t ≤ A 0 - 1) ∧ f_bit A k t
/-- what holds of the row a at every moment -/
def WF (A : Int → Int) : Prop :=
  ((0 ≤ A 0 ∧ A 0 ≤ 10) ∧ (0 ≤ A 1 ∧ A 1 ≤ 6) ∧ (0 ≤ A 2 ∧ A 2 ≤ 10) ∧ (0 ≤ A 3 ∧ A 3 ≤ 20) ∧ (0 ≤ A 4 ∧ A 4 ≤ 6) ∧ (-1 ≤ A 5 ∧ A 5 ≤ A 4 - 1) ∧ (0 ≤ A 6 ∧ A 6 ≤ 30)) ∧
  (∀ t, 0 ≤ t → t < A 0 → (1 ≤ A (10 + 4 * t) ∧ A (10 + 4 * t) ≤ 99) ∧ (1 ≤ A (10 + 4 * t + 1) ∧ A (10 + 4 * t + 1) ≤ A (10 + 4 * t + 2) ∧ A (10 + 4 * t + 2) ≤ 40) ∧ (0 ≤ A (10 + 4 * t + 3) ∧ A (10 + 4 * t + 3) ≤ 99)) ∧
  (∀ k, 0 ≤ k → k < A 1 → (0 ≤ A (60 + 5 * k) ∧ A (60 + 5 * k) ≤ 9999) ∧ (0 ≤ A (60 + 5 * k + 1) ∧ A (60 + 5 * k + 1) ≤ 1023) ∧ (0 ≤ A (60 + 5 * k + 2) ∧ A (60 + 5 * k + 2) ≤ 99)) ∧
  (∀ b, 0 ≤ b → b < A 2 → (1 ≤ A (100 + 6 * b) ∧ A (100 + 6 * b) ≤ 999) ∧ (0 ≤ A (100 + 6 * b + 1) ∧ A (100 + 6 * b + 1) ≤ 9) ∧ (0 ≤ A (100 + 6 * b + 2) ∧ A (100 + 6 * b + 2) ≤ 99) ∧ (1 ≤ A (100 + 6 * b + 3) ∧ A (100 + 6 * b + 3) ≤ 99)) ∧
  (∀ h, 0 ≤ h → h < 4 → 50 ≤ A (170 + h) ∧ A (170 + h) ≤ 150) ∧
  (∀ o, 0 ≤ o → o < A 3 → (0 ≤ A (180 + 13 * o) ∧ A (180 + 13 * o) < A 1) ∧ (0 ≤ A (180 + 13 * o + 1) ∧ A (180 + 13 * o + 1) < 4) ∧ (0 ≤ A (180 + 13 * o + 2) ∧ A (180 + 13 * o + 2) ≤ 3) ∧
    ∀ i, 0 ≤ i → i < A (180 + 13 * o + 2) → (0 ≤ A (180 + 13 * o + 3 + 3 * i) ∧ A (180 + 13 * o + 3 + 3 * i) < A 0) ∧ (1 ≤ A (180 + 13 * o + 3 + 3 * i + 1) ∧ A (180 + 13 * o + 3 + 3 * i + 1) ≤ 40) ∧ (0 ≤ A (180 + 13 * o + 3 + 3 * i + 2) ∧ A (180 + 13 * o + 3 + 3 * i + 2) ≤ 9)) ∧
  ∀ g, 0 ≤ g → g < A 6 → (0 ≤ A (480 + 3 * g) ∧ A (480 + 3 * g) < 8) ∧ (0 ≤ A (480 + 3 * g + 1) ∧ A (480 + 3 * g + 1) < 8) ∧ ¬ A (480 + 3 * g) = A (480 + 3 * g + 1) ∧ (1 ≤ A (480 + 3 * g + 2) ∧ A (480 + 3 * g + 2) ≤ 999)
