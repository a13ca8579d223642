/-! BASE: ints as integers, the heap of the run as one state -/
theorem iI_add (a b : Int) : iI a + iI b = iI (a + b) := (Int32.ofInt_add a b).symm
theorem iI_sub (a b : Int) : iI a - iI b = iI (a - b) := (Int32.ofInt_sub a b).symm
theorem iI_mul (a b : Int) : iI a * iI b = iI (a * b) := (Int32.ofInt_mul a b).symm
theorem iI_neg (a : Int) : -iI a = iI (-a) := (Int32.ofInt_neg a).symm
def iR (z : Int) : Prop := -2147483648 ≤ z ∧ z < 2147483648
theorem iI_toInt {z : Int} (h : -2147483648 ≤ z ∧ z < 2147483648) : (iI z).toInt = z := Int32.toInt_ofInt_of_le (by omega) (by omega)
theorem iI_of (v : Int32) : v = iI v.toInt := (Int32.ofInt_toInt v).symm
theorem iI_ex (v : Int32) : ∃ z : Int, v = iI z ∧ -2147483648 ≤ z ∧ z < 2147483648 := ⟨v.toInt, iI_of v, by have := v.le_toInt; omega, by have := v.toInt_lt; omega⟩
theorem iI_lt {x y : Int} (h : (-2147483648 ≤ x ∧ x < 2147483648) ∧ -2147483648 ≤ y ∧ y < 2147483648) : (iI x < iI y) = (x < y) := by rw [Int32.lt_iff_toInt_lt, iI_toInt h.1, iI_toInt h.2]
theorem iI_le {x y : Int} (h : (-2147483648 ≤ x ∧ x < 2147483648) ∧ -2147483648 ≤ y ∧ y < 2147483648) : (iI x ≤ iI y) = (x ≤ y) := by rw [Int32.le_iff_toInt_le, iI_toInt h.1, iI_toInt h.2]
theorem iI_inj {x y : Int} (h : (-2147483648 ≤ x ∧ x < 2147483648) ∧ -2147483648 ≤ y ∧ y < 2147483648) : (iI x = iI y) = (x = y) := by
  apply propext
  constructor
  · intro e
    rw [← iI_toInt h.1, e, iI_toInt h.2]
  · intro e
    rw [e]
theorem iI_zero : (0 : Int32) = iI 0 := rfl
theorem ix_iI {z : Int} (h : 0 ≤ z ∧ z < 2147483648) : ix (iI z) = z.toNat := by
  show (iI z).toInt.toNat = _
  rw [iI_toInt ⟨by omega, h.2⟩]
theorem iI_div {x y : Int} (h : (0 ≤ x ∧ x < 2147483648) ∧ 0 < y ∧ y < 2147483648) : iI x / iI y = iI (x / y) := by
  obtain ⟨⟨a, b⟩, c, d⟩ := h
  have e := Int32.ofInt_tdiv (a := x) (b := y) (by show (-2147483648 : Int) ≤ x; omega) (by show x ≤ (2147483647 : Int); omega) (by show (-2147483648 : Int) ≤ y; omega) (by show y ≤ (2147483647 : Int); omega)
  rw [Int.tdiv_eq_ediv_of_nonneg a] at e
  exact e.symm
/-- 0 or 1 -/
noncomputable def bZ (p : Prop) : Int := @ite _ p (Classical.propDecidable p) 1 0
theorem bZ_T {p : Prop} (h : p) : bZ p = 1 := if_pos h
theorem bZ_F {p : Prop} (h : ¬ p) : bZ p = 0 := if_neg h
theorem bZ_r (p : Prop) : 0 ≤ bZ p ∧ bZ p ≤ 1 := by
  by_cases h : p
  · rw [bZ_T h]; decide
  · rw [bZ_F h]; decide
theorem bI_0 {p : Prop} : (iI (bZ p) = iI 0) = ¬ p := by
  apply propext
  by_cases h : p
  · rw [bZ_T h]
    exact ⟨fun e => absurd e (by decide), fun e => absurd h e⟩
  · rw [bZ_F h]
    exact ⟨fun _ => h, fun _ => rfl⟩
theorem bI_1 {p : Prop} : (iI (bZ p) = iI 1) = p := by
  apply propext
  by_cases h : p
  · rw [bZ_T h]
    exact ⟨fun _ => h, fun _ => rfl⟩
  · rw [bZ_F h]
    exact ⟨fun e => absurd e (by decide), fun e => absurd e h⟩
theorem bI_b {p : Prop} : (iI (bZ p) = iI 0 ∨ iI (bZ p) = iI 1) = True := by
  apply eq_true
  by_cases h : p
  · rw [bZ_T h]; exact Or.inr rfl
  · rw [bZ_F h]; exact Or.inl rfl
theorem bZ_cg {p q : Prop} (h : p ↔ q) : bZ p = bZ q := by rw [propext h]
theorem bZ_1 {p : Prop} : (bZ p = 1) = p := by
  apply propext
  by_cases h : p
  · rw [bZ_T h]; exact ⟨fun _ => h, fun _ => rfl⟩
  · rw [bZ_F h]; exact ⟨fun e => absurd e (by decide), fun e => absurd e h⟩
theorem bZ_0 {p : Prop} : (bZ p = 0) = ¬ p := by
  apply propext
  by_cases h : p
  · rw [bZ_T h]; exact ⟨fun e => absurd e (by decide), fun e => absurd h e⟩
  · rw [bZ_F h]; exact ⟨fun _ => h, fun _ => rfl⟩
theorem bT : iI (bZ True) = iI 1 := by rw [bZ_T trivial]
theorem bF : iI (bZ False) = iI 0 := by rw [bZ_F not_false]
theorem ii01 : (iI 0 = iI 0 ∨ iI 0 = iI 1) = True := eq_true (Or.inl rfl)
theorem ii11 : (iI 1 = iI 0 ∨ iI 1 = iI 1) = True := eq_true (Or.inr rfl)
/-- a condition that ends in 0 or 1 -/
theorem if_bZ {p : Prop} [Decidable p] {Q : Int32 → Prop} : (if p then Q (iI 1) else Q (iI 0)) = Q (iI (bZ p)) := by
  by_cases h : p
  · rw [if_pos h, bZ_T h]
  · rw [if_neg h, bZ_F h]
/-- decided by omega -/
theorem le_T {a b : Int} (h : a ≤ b) : (a ≤ b) = True := eq_true h
theorem le_F {a b : Int} (h : ¬ a ≤ b) : (a ≤ b) = False := eq_false h
theorem lt_T {a b : Int} (h : a < b) : (a < b) = True := eq_true h
theorem lt_F {a b : Int} (h : ¬ a < b) : (a < b) = False := eq_false h
theorem eq_T {a b : Int} (h : a = b) : (a = b) = True := eq_true h
theorem eq_F {a b : Int} (h : ¬ a = b) : (a = b) = False := eq_false h
/-! rows of ints -/
def iA (A : Int → Int) : Nat → Int32 := fun j => iI (A j)
def up (A : Int → Int) (z v : Int) : Int → Int := fun w => if w = z then v else A w
def upf (f : Nat → Int32) (j : Nat) (v : Int32) : Nat → Int32 := fun b => if b = j then v else f b
def ufd (f : Nat → Int32) (j : Nat) (v : Int32) : Nat → Int32 := fun b => if b = j then v else f b
theorem ufd_at (f : Nat → Int32) (j : Nat) (v : Int32) (b : Nat) : ufd f j v b = if b = j then v else f b := rfl
theorem up_at (A : Int → Int) (z v w : Int) : up A z v w = if w = z then v else A w := rfl
theorem up_eq {A : Int → Int} {z v w : Int} (h : w = z) : up A z v w = v := if_pos h
theorem up_ne {A : Int → Int} {z v w : Int} (h : ¬ w = z) : up A z v w = A w := if_neg h
theorem iA_nat (A : Int → Int) (j : Nat) : iA A j = iI (A j) := rfl
theorem iA_to {A : Int → Int} {z : Int} (h : 0 ≤ z) : iA A z.toNat = iI (A z) := by
  unfold iA
  rw [Int.toNat_of_nonneg h]
theorem iA_ix {A : Int → Int} {z : Int} (h : 0 ≤ z ∧ z < 2147483648) : iA A (ix (iI z)) = iI (A z) := by rw [ix_iI h, iA_to h.1]
theorem upf_to {A : Int → Int} {z v : Int} (h : 0 ≤ z) : upf (iA A) z.toNat (iI v) = iA (up A z v) := by
  funext b
  unfold upf iA up
  by_cases e : b = z.toNat
  · rw [if_pos e, if_pos (by omega)]
  · rw [if_neg e, if_neg (by omega)]
theorem upf_iA {A : Int → Int} {z v : Int} (h : 0 ≤ z ∧ z < 2147483648) : upf (iA A) (ix (iI z)) (iI v) = iA (up A z v) := by rw [ix_iI h, upf_to h.1]
theorem iA_ex (f : Nat → Int32) : ∃ A : Int → Int, f = iA A := ⟨fun z => (f z.toNat).toInt, by funext j; exact iI_of (f j)⟩
theorem iA_cg {A B : Int → Int} (h : ∀ z, 0 ≤ z → A z = B z) : iA A = iA B := by
  funext j
  unfold iA
  rw [h j (Int.natCast_nonneg j)]
/-! the state: ints, longs, the changing references -/
abbrev sM : Type := (Nat → Nat → Int32) × (Nat → Nat → Int64) × (Nat → Option Nat)
def mM (m : sM) : Nat → Nat → Int32 := m.1
def mL (m : sM) : Nat → Nat → Int64 := m.2.1
def mQ (m : sM) : Nat → Option Nat := m.2.2
def uM (m : sM) (k j : Nat) (v : Int32) : sM := ((fun a b => if a = k ∧ b = j then v else m.1 a b), m.2)
def uF (m : sM) (k j : Nat) (v : Int32) : sM := ((fun a b => if a = k ∧ b = j then v else m.1 a b), m.2)
def uL (m : sM) (k j : Nat) (v : Int64) : sM := (m.1, (fun a b => if a = k ∧ b = j then v else m.2.1 a b), m.2.2)
def uQ (m : sM) (k : Nat) (r : Option Nat) : sM := (m.1, m.2.1, (fun a => if a = k then r else m.2.2 a))
def uC (m : sM) (s sp d dp n : Nat) : sM := ((fun a b => if a = d ∧ dp ≤ b ∧ b < dp + n then m.1 s (sp + (b - dp)) else m.1 a b), m.2)
theorem mM_uM (m : sM) (k j : Nat) (v : Int32) (a : Nat) : mM (uM m k j v) a = if a = k then upf (mM m a) j v else mM m a := by
  by_cases e : a = k
  · subst e
    rw [if_pos rfl]
    funext b
    simp [mM, uM, upf]
  · rw [if_neg e]
    funext b
    simp [mM, uM, e]
theorem mM_uF (m : sM) (k j : Nat) (v : Int32) (a : Nat) : mM (uF m k j v) a = if a = k then ufd (mM m a) j v else mM m a := mM_uM m k j v a
theorem mM_uL (m : sM) (k j : Nat) (v : Int64) : mM (uL m k j v) = mM m := rfl
theorem mM_uQ (m : sM) (k : Nat) (r : Option Nat) : mM (uQ m k r) = mM m := rfl
theorem mQ_uM (m : sM) (k j : Nat) (v : Int32) : mQ (uM m k j v) = mQ m := rfl
theorem mQ_uF (m : sM) (k j : Nat) (v : Int32) : mQ (uF m k j v) = mQ m := rfl
theorem mQ_uL (m : sM) (k j : Nat) (v : Int64) : mQ (uL m k j v) = mQ m := rfl
theorem mQ_uQ (m : sM) (k : Nat) (r : Option Nat) (a : Nat) : mQ (uQ m k r) a = if a = k then r else mQ m a := rfl
theorem mL_uM (m : sM) (k j : Nat) (v : Int32) : mL (uM m k j v) = mL m := rfl
theorem mL_uF (m : sM) (k j : Nat) (v : Int32) : mL (uF m k j v) = mL m := rfl
theorem mL_uQ (m : sM) (k : Nat) (r : Option Nat) : mL (uQ m k r) = mL m := rfl
/-! what a method leaves as it is: W says which places may change (999: the changing reference) -/
def wf (l : List Nat) (f : List (Nat × Nat)) : Nat → Nat → Bool := fun k j => l.contains k || f.contains (k, j)
def Fr (l : List Nat) (f : List (Nat × Nat)) (m m' : sM) : Prop := (∀ k, wf l f k 999 = false → mQ m' k = mQ m k) ∧ ∀ k j, wf l f k j = false → mM m' k j = mM m k j
theorem Fr.rf {l : List Nat} {f : List (Nat × Nat)} (m : sM) : Fr l f m m := ⟨fun _ _ => rfl, fun _ _ _ => rfl⟩
theorem Fr.tr {l : List Nat} {f : List (Nat × Nat)} {m m1 m2 : sM} (h1 : Fr l f m m1) (h2 : Fr l f m1 m2) : Fr l f m m2 := ⟨fun k h => (h2.1 k h).trans (h1.1 k h), fun k j h => (h2.2 k j h).trans (h1.2 k j h)⟩
def wle (l : List Nat) (f : List (Nat × Nat)) (l' : List Nat) (f' : List (Nat × Nat)) : Bool := l.all (fun k => l'.contains k) && f.all (fun q => l'.contains q.1 || f'.contains q)
theorem wle_s {l l' : List Nat} {f f' : List (Nat × Nat)} (h : wle l f l' f' = true) (k j : Nat) (hk : wf l' f' k j = false) : wf l f k j = false := by
  unfold wle at h
  rw [Bool.and_eq_true] at h
  unfold wf at hk ⊢
  rw [Bool.or_eq_false_iff] at hk ⊢
  refine ⟨?_, ?_⟩
  · cases e : l.contains k with
    | false => rfl
    | true =>
      have a := List.all_eq_true.mp h.1 k (by simpa using e)
      rw [hk.1] at a
      cases a
  · cases e : f.contains (k, j) with
    | false => rfl
    | true =>
      have a := List.all_eq_true.mp h.2 (k, j) (by simpa using e)
      simp only [hk.1, hk.2, Bool.or_self] at a
      cases a
theorem Fr.up {l l' : List Nat} {f f' : List (Nat × Nat)} {m m' : sM} (h : Fr l f m m') (w : wle l f l' f' = true) : Fr l' f' m m' := ⟨fun k hk => h.1 k (wle_s w k 999 hk), fun k j hk => h.2 k j (wle_s w k j hk)⟩
theorem Fr.M {l : List Nat} {f : List (Nat × Nat)} {m m' : sM} {k j : Nat} {v : Int32} (h : Fr l f m m') (w : l.contains k = true) : Fr l f m (uM m' k j v) := by
  refine ⟨h.1, fun a b hw => ?_⟩
  show (if a = k ∧ b = j then v else mM m' a b) = _
  rw [if_neg ?_]
  · exact h.2 a b hw
  · rintro ⟨e, -⟩
    subst e
    unfold wf at hw
    rw [w] at hw
    cases hw
theorem Fr.F {l : List Nat} {f : List (Nat × Nat)} {m m' : sM} {k j : Nat} {v : Int32} (h : Fr l f m m') (w : wf l f k j = true) : Fr l f m (uF m' k j v) := by
  refine ⟨h.1, fun a b hw => ?_⟩
  show (if a = k ∧ b = j then v else mM m' a b) = _
  rw [if_neg ?_]
  · exact h.2 a b hw
  · rintro ⟨e, e2⟩
    subst e
    subst e2
    rw [w] at hw
    cases hw
theorem Fr.L {l : List Nat} {f : List (Nat × Nat)} {m m' : sM} {k j : Nat} {v : Int64} (h : Fr l f m m') : Fr l f m (uL m' k j v) := h
theorem Fr.Q {l : List Nat} {f : List (Nat × Nat)} {m m' : sM} {k : Nat} {r : Option Nat} (h : Fr l f m m') (w : wf l f k 999 = true) : Fr l f m (uQ m' k r) := by
  refine ⟨fun a hw => ?_, h.2⟩
  show (if a = k then r else mQ m' a) = _
  rw [if_neg ?_]
  · exact h.1 a hw
  · intro e
    subst e
    rw [w] at hw
    cases hw
theorem Fr.g {l : List Nat} {f : List (Nat × Nat)} {m m' : sM} (h : Fr l f m m') (k : Nat) (w : (l.contains k || f.any (fun q => Nat.beq q.1 k)) = false) : mM m' k = mM m k := by
  funext j
  refine h.2 k j ?_
  rw [Bool.or_eq_false_iff] at w
  unfold wf
  rw [w.1, Bool.false_or]
  cases e : f.contains (k, j) with
  | false => rfl
  | true =>
    have a := List.any_eq_false.mp w.2 (k, j) (by simpa using e)
    exact absurd (by show Nat.beq k k = true; exact Nat.beq_refl k) a
theorem Fr.v {l : List Nat} {f : List (Nat × Nat)} {m m' : sM} (h : Fr l f m m') (k j : Nat) (w : wf l f k j = false) : mM m' k j = mM m k j := h.2 k j w
theorem Fr.q {l : List Nat} {f : List (Nat × Nat)} {m m' : sM} (h : Fr l f m m') (k : Nat) (w : wf l f k 999 = false) : mQ m' k = mQ m k := h.1 k w
theorem catv_le (v : Value) : v.category ≤ 2 := by cases v <;> simp [Value.category]
theorem cat0 : (catOk [] = true) = True := by simp [catOk]
theorem cat1 (a : Value) : (catOk [a] = true) = True := eq_true (Nat.ble_eq_true_of_le (by have := catv_le a; simp; omega))
theorem cat2 (a b : Value) : (catOk [a, b] = true) = True := eq_true (Nat.ble_eq_true_of_le (by have := catv_le a; have := catv_le b; simp; omega))
theorem cat3 (a b c : Value) : (catOk [a, b, c] = true) = True := eq_true (Nat.ble_eq_true_of_le (by have := catv_le a; have := catv_le b; have := catv_le c; simp; omega))
theorem cat4 (a b c d : Value) : (catOk [a, b, c, d] = true) = True := eq_true (Nat.ble_eq_true_of_le (by have := catv_le a; have := catv_le b; have := catv_le c; have := catv_le d; simp; omega))
