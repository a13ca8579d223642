/-! BASE: ints as integers, the heap of the run as one function of integers -/
theorem iI_add (a b : Int) : iI a + iI b = iI (a + b) := (Int32.ofInt_add a b).symm
theorem iI_sub (a b : Int) : iI a - iI b = iI (a - b) := (Int32.ofInt_sub a b).symm
theorem iI_mul (a b : Int) : iI a * iI b = iI (a * b) := (Int32.ofInt_mul a b).symm
theorem iI_neg (a : Int) : -iI a = iI (-a) := (Int32.ofInt_neg a).symm
theorem iI_toInt {z : Int} (h : -2147483648 ≤ z ∧ z < 2147483648) : (iI z).toInt = z := Int32.toInt_ofInt_of_le (by omega) (by omega)
theorem iI_of (v : Int32) : v = iI v.toInt := (Int32.ofInt_toInt v).symm
theorem iI_ex (v : Int32) : ∃ z : Int, v = iI z ∧ -2147483648 ≤ z ∧ z < 2147483648 := ⟨v.toInt, iI_of v, by have := v.le_toInt; omega, by have := v.toInt_lt; omega⟩
theorem iI_lt {x y : Int} (h : (-2147483648 ≤ x ∧ x < 2147483648) ∧ -2147483648 ≤ y ∧ y < 2147483648) : (iI x < iI y) = (x < y) := by rw [Int32.lt_iff_toInt_lt, iI_toInt h.1, iI_toInt h.2]
theorem iI_le {x y : Int} (h : (-2147483648 ≤ x ∧ x < 2147483648) ∧ -2147483648 ≤ y ∧ y < 2147483648) : (iI x ≤ iI y) = (x ≤ y) := by rw [Int32.le_iff_toInt_le, iI_toInt h.1, iI_toInt h.2]
theorem iI_inj {x y : Int} (h : (-2147483648 ≤ x ∧ x < 2147483648) ∧ -2147483648 ≤ y ∧ y < 2147483648) : (iI x = iI y) = (x = y) := by
  apply propext
  constructor
  · intro e
    rw [← iI_toInt h.1, e, iI_toInt h.2]
  · intro e
    rw [e]
theorem iI_zero : (0 : Int32) = iI 0 := rfl
theorem iI_31 : (31 : Int32) = iI 31 := rfl
theorem ix_iI {z : Int} (h : 0 ≤ z ∧ z < 2147483648) : ix (iI z) = z.toNat := by
  show (iI z).toInt.toNat = _
  rw [iI_toInt ⟨by omega, h.2⟩]
theorem iI_tdiv {x y : Int} (h : (-2147483648 < x ∧ x < 2147483648) ∧ -2147483648 ≤ y ∧ y < 2147483648) : iI x / iI y = iI (Int.tdiv x y) := by
  obtain ⟨⟨a, b⟩, c, d⟩ := h
  exact (Int32.ofInt_tdiv (a := x) (b := y) (by show (-2147483648 : Int) ≤ x; omega) (by show x ≤ (2147483647 : Int); omega) (by show (-2147483648 : Int) ≤ y; omega) (by show y ≤ (2147483647 : Int); omega)).symm
theorem iI_div {x y : Int} (h : (0 ≤ x ∧ x < 2147483648) ∧ 0 < y ∧ y < 2147483648) : iI x / iI y = iI (x / y) := by
  obtain ⟨⟨a, b⟩, c, d⟩ := h
  rw [iI_tdiv ⟨⟨by omega, b⟩, by omega, d⟩, Int.tdiv_eq_ediv_of_nonneg a]
theorem emod_f {x z : Int} : x - x / z * z = x % z := by rw [Int.emod_def, Int.mul_comm]
theorem iI_max {x y : Int} (h : (-2147483648 ≤ x ∧ x < 2147483648) ∧ -2147483648 ≤ y ∧ y < 2147483648) : (if iI x < iI y then iI y else iI x) = iI (max x y) := by
  by_cases c : x < y
  · rw [if_pos (by rw [iI_lt h]; exact c), show max x y = y by omega]
  · rw [if_neg (by rw [iI_lt h]; exact c), show max x y = x by omega]
theorem iI_min {x y : Int} (h : (-2147483648 ≤ x ∧ x < 2147483648) ∧ -2147483648 ≤ y ∧ y < 2147483648) : (if iI y < iI x then iI y else iI x) = iI (min x y) := by
  by_cases c : y < x
  · rw [if_pos (by rw [iI_lt ⟨h.2, h.1⟩]; exact c), show min x y = y by omega]
  · rw [if_neg (by rw [iI_lt ⟨h.2, h.1⟩]; exact c), show min x y = x by omega]
/-- 0 or 1 -/
noncomputable def bZ (p : Prop) : Int := @ite _ p (Classical.propDecidable p) 1 0
theorem bZ_T {p : Prop} (h : p) : bZ p = 1 := if_pos h
theorem bZ_F {p : Prop} (h : ¬ p) : bZ p = 0 := if_neg h
theorem bZ_r (p : Prop) : 0 ≤ bZ p ∧ bZ p ≤ 1 := by
  by_cases h : p
  · rw [bZ_T h]; decide
  · rw [bZ_F h]; decide
theorem bI_0 {p : Prop} : (iI (bZ p) = iI 0) = ¬ p := by
  apply propext
  by_cases h : p
  · rw [bZ_T h]
    exact ⟨fun e => absurd e (by decide), fun e => absurd h e⟩
  · rw [bZ_F h]
    exact ⟨fun _ => h, fun _ => rfl⟩
theorem bI_1 {p : Prop} : (iI (bZ p) = iI 1) = p := by
  apply propext
  by_cases h : p
  · rw [bZ_T h]
    exact ⟨fun _ => h, fun _ => rfl⟩
  · rw [bZ_F h]
    exact ⟨fun e => absurd e (by decide), fun e => absurd e h⟩
theorem bI_b {p : Prop} : (iI (bZ p) = iI 0 ∨ iI (bZ p) = iI 1) = True := by
  apply eq_true
  by_cases h : p
  · rw [bZ_T h]; exact Or.inr rfl
  · rw [bZ_F h]; exact Or.inl rfl
theorem bZ_cg {p q : Prop} (h : p ↔ q) : bZ p = bZ q := by rw [propext h]
theorem bZ_1 {p : Prop} : (bZ p = 1) = p := by
  apply propext
  by_cases h : p
  · rw [bZ_T h]; exact ⟨fun _ => h, fun _ => rfl⟩
  · rw [bZ_F h]; exact ⟨fun e => absurd e (by decide), fun e => absurd e h⟩
theorem bZ_0 {p : Prop} : (bZ p = 0) = ¬ p := by
  apply propext
  by_cases h : p
  · rw [bZ_T h]; exact ⟨fun e => absurd e (by decide), fun e => absurd h e⟩
  · rw [bZ_F h]; exact ⟨fun _ => h, fun _ => rfl⟩
theorem ii01 : (iI 0 = iI 0 ∨ iI 0 = iI 1) = True := eq_true (Or.inl rfl)
theorem ii11 : (iI 1 = iI 0 ∨ iI 1 = iI 1) = True := eq_true (Or.inr rfl)
/-- decided by omega -/
theorem le_T {a b : Int} (h : a ≤ b) : (a ≤ b) = True := eq_true h
theorem le_F {a b : Int} (h : ¬ a ≤ b) : (a ≤ b) = False := eq_false h
theorem lt_T {a b : Int} (h : a < b) : (a < b) = True := eq_true h
theorem lt_F {a b : Int} (h : ¬ a < b) : (a < b) = False := eq_false h
theorem eq_T {a b : Int} (h : a = b) : (a = b) = True := eq_true h
theorem eq_F {a b : Int} (h : ¬ a = b) : (a = b) = False := eq_false h
/-- hidden from omega -/
def Hd (p : Prop) : Prop := p
theorem Hd_i {p : Prop} (h : p) : Hd p := h
theorem Hd_o {p : Prop} (h : Hd p) : p := h
theorem nn_p {p : Prop} : (¬ ¬ p) = p := propext ⟨fun h => Classical.byContradiction h, fun h n => n h⟩
/-! the walk stops where a branch is open -/
def Wl (d y pc : Nat) (ls st : List Value) (h : aH) (Q : Option Value → aH → Prop) : Prop := Wp d y pc ls st h Q
theorem Wl_i {d y pc : Nat} {ls st : List Value} {h : aH} {Q : Option Value → aH → Prop} (w : Wp d y pc ls st h Q) : Wl d y pc ls st h Q := w
def Br (c a b : Prop) : Prop := (c → a) ∧ (¬ c → b)
theorem Br_i {c a b : Prop} (h1 : c → a) (h2 : ¬ c → b) : Br c a b := ⟨h1, h2⟩
theorem ite_Br {c : Prop} [Decidable c] {a b : Prop} : (if c then a else b) = Br c a b := by
  apply propext
  by_cases h : c
  · rw [if_pos h]
    exact ⟨fun x => ⟨fun _ => x, fun n => absurd h n⟩, fun x => x.1 h⟩
  · rw [if_neg h]
    exact ⟨fun x => ⟨fun n => absurd n h, fun _ => x⟩, fun x => x.2 h⟩
section BR
variable {c c2 p q : Prop} {d y pc d2 y2 pc2 : Nat} {ls st ls2 st2 : List Value} {h h2 : aH} {Q Q2 : Option Value → aH → Prop}
theorem ite_ww [Decidable c] : (if c then Wp d y pc ls st h Q else Wp d2 y2 pc2 ls2 st2 h2 Q2) = Br c (Wl d y pc ls st h Q) (Wl d2 y2 pc2 ls2 st2 h2 Q2) := ite_Br
theorem ite_wi [Decidable c] [Decidable c2] : (if c then Wp d y pc ls st h Q else (if c2 then p else q)) = Br c (Wl d y pc ls st h Q) (if c2 then p else q) := ite_Br
theorem Br_n : Br (¬ c) p q = Br c q p := by
  unfold Br
  rw [nn_p]
  exact propext ⟨fun x => ⟨x.2, x.1⟩, fun x => ⟨x.2, x.1⟩⟩
theorem Br_TW : Br True (Wl d y pc ls st h Q) p = Wp d y pc ls st h Q := propext ⟨fun x => x.1 trivial, fun x => ⟨fun _ => x, fun n => absurd trivial n⟩⟩
theorem Br_FW : Br False p (Wl d y pc ls st h Q) = Wp d y pc ls st h Q := propext ⟨fun x => x.2 not_false, fun x => ⟨fun n => absurd n not_false, fun _ => x⟩⟩
theorem Br_FP : Br False p (Wp d y pc ls st h Q) = Wp d y pc ls st h Q := propext ⟨fun x => x.2 not_false, fun x => ⟨fun n => absurd n not_false, fun _ => x⟩⟩
theorem Br_FB : Br False p (Br c c2 q) = Br c c2 q := propext ⟨fun x => x.2 not_false, fun x => ⟨fun n => absurd n not_false, fun _ => x⟩⟩
end BR
/-! the state: a function of integers for each row (key: its cell) and each field (key: 1000 * cell + field, at 0) -/
abbrev sg : Type := Nat → Int → Int
def u (s : sg) (K : Nat) (f : Int → Int) : sg := fun k => if k = K then f else s k
def up (A : Int → Int) (z v : Int) : Int → Int := fun w => if w = z then v else A w
theorem u_at (s : sg) (K : Nat) (f : Int → Int) (k : Nat) : u s K f k = if k = K then f else s k := rfl
theorem u_eq (s : sg) (K : Nat) (f : Int → Int) : u s K f K = f := if_pos rfl
theorem u_ne {s : sg} {K : Nat} {f : Int → Int} {k : Nat} (h : ¬ k = K) : u s K f k = s k := if_neg h
theorem u_u (s : sg) (K : Nat) (f g : Int → Int) : u (u s K f) K g = u s K g := by
  funext k
  unfold u
  by_cases c : k = K
  · rw [if_pos c, if_pos c]
  · rw [if_neg c, if_neg c, if_neg c]
theorem up_at (A : Int → Int) (z v w : Int) : up A z v w = if w = z then v else A w := rfl
theorem up_eq {A : Int → Int} {z v w : Int} (h : w = z) : up A z v w = v := if_pos h
theorem up_ne {A : Int → Int} {z v w : Int} (h : ¬ w = z) : up A z v w = A w := if_neg h
/-- k isn't in the list -/
def nin (k : Nat) : List Nat → Bool
  | [] => true
  | a :: r => !(Nat.beq a k) && nin k r
def Fr (L : List Nat) (s s2 : sg) : Prop := ∀ k, nin k L = true → s2 k = s k
theorem Fr.rf {L : List Nat} (s : sg) : Fr L s s := fun _ _ => rfl
theorem Fr.tr {L : List Nat} {s s1 s2 : sg} (h1 : Fr L s s1) (h2 : Fr L s1 s2) : Fr L s s2 := fun k h => (h2 k h).trans (h1 k h)
theorem Fr.g {L : List Nat} {s s2 : sg} (h : Fr L s s2) (k : Nat) (w : nin k L = true) : s2 k = s k := h k w
theorem Fr.u {L : List Nat} {s s2 : sg} {K : Nat} {f : Int → Int} (h : Fr L s s2) (w : nin K L = false) : Fr L s (u s2 K f) := by
  intro k hk
  show (if k = K then f else s2 k) = _
  rw [if_neg ?_]
  · exact h k hk
  · intro e
    rw [e, w] at hk
    cases hk
/-- every one of the first list is in the second -/
def sub (L L2 : List Nat) : Bool := match L with
  | [] => true
  | a :: r => !(nin a L2) && sub r L2
theorem nin_sub {L L2 : List Nat} (h : sub L L2 = true) (k : Nat) (hk : nin k L2 = true) : nin k L = true := by
  induction L with
  | nil => rfl
  | cons a r ih =>
    simp only [sub, Bool.and_eq_true, Bool.not_eq_true'] at h
    simp only [nin, Bool.and_eq_true, Bool.not_eq_true']
    refine ⟨?_, ih h.2⟩
    cases e : Nat.beq a k with
    | false => rfl
    | true =>
      rw [Nat.eq_of_beq_eq_true e, hk] at h
      cases h.1
theorem Fr.up {L L2 : List Nat} {s s2 : sg} (h : Fr L s s2) (w : sub L L2 = true) : Fr L2 s s2 := fun k hk => h k (nin_sub w k hk)
theorem Fr.to {L L2 : List Nat} {s s1 s2 : sg} (h1 : Fr L2 s s1) (h2 : Fr L s1 s2) (w : sub L L2 = true) : Fr L2 s s2 := h1.tr (h2.up w)
theorem okF (x : UInt32) : okO (.float x) = true := rfl
theorem okI (x : Int32) : okO (.int x) = true := rfl
theorem okR (x : Nat) : okO (.ref x) = true := rfl
theorem okN : okO .null = true := rfl
theorem catv_le (v : Value) : v.category ≤ 2 := by cases v <;> simp [Value.category]
theorem cat0 : (catOk [] = true) = True := by simp [catOk]
theorem cat1 (a : Value) : (catOk [a] = true) = True := eq_true (Nat.ble_eq_true_of_le (by have := catv_le a; simp; omega))
theorem cat2 (a b : Value) : (catOk [a, b] = true) = True := eq_true (Nat.ble_eq_true_of_le (by have := catv_le a; have := catv_le b; simp; omega))
theorem cat3 (a b c : Value) : (catOk [a, b, c] = true) = True := eq_true (Nat.ble_eq_true_of_le (by have := catv_le a; have := catv_le b; have := catv_le c; simp; omega))
theorem cat4 (a b c d : Value) : (catOk [a, b, c, d] = true) = True := eq_true (Nat.ble_eq_true_of_le (by have := catv_le a; have := catv_le b; have := catv_le c; have := catv_le d; simp; omega))
/-! loops -/
theorem lp {N : Int} {I W : Int → sg → Prop} (hs : ∀ i m, i < N → I i m → (∀ m', I (i + 1) m' → W (i + 1) m') → W i m) (he : ∀ m, I N m → W N m) : ∀ i m, i ≤ N → I i m → W i m := by
  have key : ∀ n : Nat, ∀ i m, (N - i).toNat = n → i ≤ N → I i m → W i m := by
    intro n
    induction n with
    | zero =>
      intro i m e h hi
      have q : N = i := by omega
      subst q
      exact he m hi
    | succ n ih =>
      intro i m e h hi
      exact hs i m (by omega) hi (fun m' h' => ih (i + 1) m' (by omega) (by omega) h')
  intro i m h hi
  exact key _ i m rfl h hi
/-- a loop that counts up and leaves the state as it is -/
theorem lp0 {N lo : Int} {W : Int → Prop} (hs : ∀ i, lo ≤ i → i < N → W (i + 1) → W i) (he : W N) : ∀ i, lo ≤ i → i ≤ N → W i := by
  have key : ∀ n : Nat, ∀ i, (N - i).toNat = n → lo ≤ i → i ≤ N → W i := by
    intro n
    induction n with
    | zero =>
      intro i e h0 h
      have q : N = i := by omega
      subst q
      exact he
    | succ n ih =>
      intro i e h0 h
      exact hs i h0 (by omega) (ih (i + 1) (by omega) (by omega) (by omega))
  intro i h0 h
  exact key _ i rfl h0 h
/-- a loop by a measure -/
theorem lpm {α : Type} (mu : α → Nat) {I W : α → Prop} (hs : ∀ a, I a → (∀ b, mu b < mu a → I b → W b) → W a) : ∀ a, I a → W a := by
  have key : ∀ n : Nat, ∀ a, mu a < n → I a → W a := by
    intro n
    induction n with
    | zero => intro a h; exact absurd h (Nat.not_lt_zero _)
    | succ n ih => intro a h hi; exact hs a hi (fun b hb hib => ih b (by omega) hib)
  intro a hi
  exact key (mu a + 1) a (Nat.lt_succ_self _) hi
/-! an equation out of one run -/
def Re (r : Option Value) (h : aH) : Option Value → aH → Prop := fun r2 h2 => r2 = r ∧ h2 = h
theorem Re_i {r r2 : Option Value} {h h2 : aH} (e : r2 = r) (e2 : h2 = h) : Re r h r2 h2 := ⟨e, e2⟩
theorem wp_eq {d y pc : Nat} {ls st : List Value} {h : aH} {Q : Option Value → aH → Prop} {r : Option Value} {h2 : aH} (w : ∀ rr hh, rr = r → hh = h2 → Wp d y pc ls st h (Re rr hh)) : Wp d y pc ls st h Q = Q r h2 := by
  obtain ⟨n, r1, h1, e, e1, e2⟩ := w r h2 rfl rfl
  subst e1
  subst e2
  apply propext
  constructor
  · rintro ⟨k, r3, h3, e3, q⟩
    have a := ev_mono n d y _ h _ e k
    have b := ev_mono k d y _ h _ e3 n
    rw [Nat.add_comm k n, a] at b
    simp only [Option.some.injEq, Prod.mk.injEq] at b
    rw [b.1, b.2]
    exact q
  · intro q
    exact ⟨n, r1, h1, e, q⟩
theorem Re_T {p : Prop} {v : Int32} {h h2 : aH} (e : v = iI 1) (hp : p) (e2 : h2 = h) : Re (some (.int (iI (bZ p)))) h (some (.int v)) h2 := by
  rw [bZ_T hp, e]
  exact ⟨rfl, e2⟩
theorem Re_F {p : Prop} {v : Int32} {h h2 : aH} (e : v = iI 0) (hp : ¬ p) (e2 : h2 = h) : Re (some (.int (iI (bZ p)))) h (some (.int v)) h2 := by
  rw [bZ_F hp, e]
  exact ⟨rfl, e2⟩
theorem Re_b {p q : Prop} {h h2 : aH} (e : q ↔ p) (e2 : h2 = h) : Re (some (.int (iI (bZ p)))) h (some (.int (iI (bZ q)))) h2 := by
  rw [bZ_cg e]
  exact ⟨rfl, e2⟩
theorem Re_I {v w : Int} {h h2 : aH} (e : v = w) (e2 : h2 = h) : Re (some (.int (iI w))) h (some (.int (iI v))) h2 := by
  rw [e]
  exact ⟨rfl, e2⟩
/-! longs -/
theorem lI_add (a b : Int) : lI a + lI b = lI (a + b) := (Int64.ofInt_add a b).symm
theorem lI_sub (a b : Int) : lI a - lI b = lI (a - b) := (Int64.ofInt_sub a b).symm
theorem lI_mul (a b : Int) : lI a * lI b = lI (a * b) := (Int64.ofInt_mul a b).symm
theorem lI_neg (a : Int) : -lI a = lI (-a) := (Int64.ofInt_neg a).symm
theorem lI_toInt {z : Int} (h : -4611686018427387904 ≤ z ∧ z < 4611686018427387904) : (lI z).toInt = z := Int64.toInt_ofInt_of_le (by omega) (by omega)
theorem lI_lt {x y : Int} (h : (-4611686018427387904 ≤ x ∧ x < 4611686018427387904) ∧ -4611686018427387904 ≤ y ∧ y < 4611686018427387904) : (lI x < lI y) = (x < y) := by rw [Int64.lt_iff_toInt_lt, lI_toInt h.1, lI_toInt h.2]
theorem lI_inj {x y : Int} (h : (-4611686018427387904 ≤ x ∧ x < 4611686018427387904) ∧ -4611686018427387904 ≤ y ∧ y < 4611686018427387904) : (lI x = lI y) = (x = y) := by
  apply propext
  constructor
  · intro e
    rw [← lI_toInt h.1, e, lI_toInt h.2]
  · intro e
    rw [e]
theorem lI_zero : (0 : Int64) = lI 0 := rfl
theorem lI_tdiv {x y : Int} (h : (-4611686018427387904 ≤ x ∧ x < 4611686018427387904) ∧ -4611686018427387904 ≤ y ∧ y < 4611686018427387904) : lI x / lI y = lI (Int.tdiv x y) := by
  obtain ⟨⟨a, b⟩, c, d⟩ := h
  exact (Int64.ofInt_tdiv (a := x) (b := y) (by show (-9223372036854775808 : Int) ≤ x; omega) (by show x ≤ (9223372036854775807 : Int); omega) (by show (-9223372036854775808 : Int) ≤ y; omega) (by show y ≤ (9223372036854775807 : Int); omega)).symm
theorem i2l {z : Int} (h : -2147483648 ≤ z ∧ z < 2147483648) : (iI z).toInt64 = lI z := Int32.toInt64_ofInt (by show (-2147483648 : Int) ≤ z; omega) (by show z ≤ (2147483647 : Int); omega)
theorem l2i (z : Int) : (lI z).toInt32 = iI z := Int64.toInt32_ofInt
theorem lg_c {x y : Int} (h : (-4611686018427387904 ≤ x ∧ x < 4611686018427387904) ∧ -4611686018427387904 ≤ y ∧ y < 4611686018427387904) : (y < x ∧ lg_cmp (lI x) (lI y) = iI 1) ∨ (x = y ∧ lg_cmp (lI x) (lI y) = iI 0) ∨ (x < y ∧ lg_cmp (lI x) (lI y) = iI (-1)) := by
  unfold lg_cmp
  by_cases c : y < x
  · left
    refine ⟨c, if_pos ?_⟩
    show lI y < lI x
    rw [lI_lt ⟨h.2, h.1⟩]
    exact c
  · right
    rw [if_neg (by show ¬ lI y < lI x; rw [lI_lt ⟨h.2, h.1⟩]; exact c)]
    by_cases e : x = y
    · left
      exact ⟨e, if_pos (by rw [e])⟩
    · right
      exact ⟨by omega, if_neg (by rw [lI_inj h]; exact e)⟩
theorem lc_lt {x y : Int} (h : (-4611686018427387904 ≤ x ∧ x < 4611686018427387904) ∧ -4611686018427387904 ≤ y ∧ y < 4611686018427387904) : (lg_cmp (lI x) (lI y) < iI 0) = (x < y) := by
  rcases lg_c h with ⟨a, e⟩ | ⟨a, e⟩ | ⟨a, e⟩ <;> rw [e, iI_lt (by omega)] <;> apply propext <;> omega
theorem lc_le {x y : Int} (h : (-4611686018427387904 ≤ x ∧ x < 4611686018427387904) ∧ -4611686018427387904 ≤ y ∧ y < 4611686018427387904) : (lg_cmp (lI x) (lI y) ≤ iI 0) = (x ≤ y) := by
  rcases lg_c h with ⟨a, e⟩ | ⟨a, e⟩ | ⟨a, e⟩ <;> rw [e, iI_le (by omega)] <;> apply propext <;> omega
theorem lc_gt {x y : Int} (h : (-4611686018427387904 ≤ x ∧ x < 4611686018427387904) ∧ -4611686018427387904 ≤ y ∧ y < 4611686018427387904) : (iI 0 < lg_cmp (lI x) (lI y)) = (y < x) := by
  rcases lg_c h with ⟨a, e⟩ | ⟨a, e⟩ | ⟨a, e⟩ <;> rw [e, iI_lt (by omega)] <;> apply propext <;> omega
theorem lc_ge {x y : Int} (h : (-4611686018427387904 ≤ x ∧ x < 4611686018427387904) ∧ -4611686018427387904 ≤ y ∧ y < 4611686018427387904) : (iI 0 ≤ lg_cmp (lI x) (lI y)) = (y ≤ x) := by
  rcases lg_c h with ⟨a, e⟩ | ⟨a, e⟩ | ⟨a, e⟩ <;> rw [e, iI_le (by omega)] <;> apply propext <;> omega
theorem lc_eq {x y : Int} (h : (-4611686018427387904 ≤ x ∧ x < 4611686018427387904) ∧ -4611686018427387904 ≤ y ∧ y < 4611686018427387904) : (lg_cmp (lI x) (lI y) = iI 0) = (x = y) := by
  rcases lg_c h with ⟨a, e⟩ | ⟨a, e⟩ | ⟨a, e⟩ <;> rw [e, iI_inj (by omega)] <;> apply propext <;> omega
theorem lI_max {x y : Int} (h : (-4611686018427387904 ≤ x ∧ x < 4611686018427387904) ∧ -4611686018427387904 ≤ y ∧ y < 4611686018427387904) : (if lI x < lI y then lI y else lI x) = lI (max x y) := by
  by_cases c : x < y
  · rw [if_pos (by rw [lI_lt h]; exact c), show max x y = y by omega]
  · rw [if_neg (by rw [lI_lt h]; exact c), show max x y = x by omega]
theorem Re_J {v w : Int} {h h2 : aH} (e : v = w) (e2 : h2 = h) : Re (some (.long (lI w))) h (some (.long (lI v))) h2 := by
  rw [e]
  exact ⟨rfl, e2⟩
theorem mul_r {a b : Int} (ha : -1000000 ≤ a ∧ a ≤ 1000000) (hb : -1000000 ≤ b ∧ b ≤ 1000000) : -1000000000000 ≤ a * b ∧ a * b ≤ 1000000000000 := by
  have h1 : (a * b).natAbs = a.natAbs * b.natAbs := Int.natAbs_mul a b
  have h2 : a.natAbs * b.natAbs ≤ 1000000 * 1000000 := Nat.mul_le_mul (by omega) (by omega)
  omega
theorem lI_min {x y : Int} (h : (-4611686018427387904 ≤ x ∧ x < 4611686018427387904) ∧ -4611686018427387904 ≤ y ∧ y < 4611686018427387904) : (if lI x < lI y then lI x else lI y) = lI (min x y) := by
  by_cases c : x < y
  · rw [if_pos (by rw [lI_lt h]; exact c), show min x y = x by omega]
  · rw [if_neg (by rw [lI_lt h]; exact c), show min x y = y by omega]
