/-! WORDS by their letters' number: the mathematics -/
def Nn (F : Int → Int) (b e : Int) : Int := fd (fun z v => 64 * v + F z - 64) 0 b e
def wof (v : Int) : Int := if v = 818583781 then 0 else if v = 683629747 then 1 else if v = 935275816 then 2 else if v = 227700 then 3 else if v = 9051315 then 4 else if v = 3058 then 5 else if v = 138148 then 6 else if v = 191476 then 7 else if v = 883071911 then 8 else if v = 59687467572 then 9 else if v = 13541029 then 10 else if v = 13801828 then 11 else if v = 881278245 then 12 else if v = 14556084 then 13 else -1
def wk2 (v : Int) : Int := if v = 818583781 then 0 else if v = 683629747 then 1 else if v = 935275816 then 2 else if v = 227700 then 3 else if v = 9051315 then 4 else if v = 883071911 then 5 else if v = 59687467572 then 6 else if v = 13541029 then 7 else if v = 13801828 then 8 else if v = 881278245 then 9 else if v = 14556084 then 10 else if v = 3058 then 11 else if v = 138148 then 12 else if v = 191476 then 13 else 14
/-- the reference's number of a word, by the class's -/
def mwd (k : Int) : Int := if k ≤ 4 then k else if k ≤ 10 then k + 3 else k - 6
def sgT (k : Int) : Int := if k = 20 then 35 else if k = 21 then 61 else if k = 22 then 60 else if k = 23 then 62 else if k = 24 then 43 else if k = 25 then 45 else if k = 26 then 42 else if k = 27 then 47 else if k = 28 then 40 else if k = 29 then 41 else if k = 30 then 59 else if k = 31 then 300 else 301
section WD
variable {B F G : Int → Int} {a b c e z : Int}
theorem Nn_0 : Nn F b b = 0 := fd_0 (Int.le_refl b)
theorem Nn_s (h : b ≤ z) : Nn F b (z + 1) = 64 * Nn F b z + F z - 64 := fd_s h
theorem Nn_p (h : b ≤ e) (k : ∀ z, b ≤ z → z < e → 65 ≤ F z ∧ F z ≤ 127) : 0 ≤ Nn F b e ∧ (b < e → 1 ≤ Nn F b e) := by
  unfold Nn
  refine fd_ind (P := fun z v => 0 ≤ v ∧ (b < z → 1 ≤ v)) ⟨Int.le_refl 0, fun q => by omega⟩ ?_ h
  intro z v z0 z1 hv
  have := k z z0 z1
  refine ⟨by omega, fun _ => by omega⟩
theorem Nn_inj : ∀ (f : Nat) (b e a z : Int), (f : Int) = e - b → a ≤ z → (∀ x, b ≤ x → x < e → 65 ≤ F x ∧ F x ≤ 127) → (∀ x, a ≤ x → x < z → 65 ≤ G x ∧ G x ≤ 127) → Nn F b e = Nn G a z → e - b = z - a ∧ ∀ i, 0 ≤ i → i < z - a → G (a + i) = F (b + i) := by
  intro f
  induction f with
  | zero =>
    intro b e a z hf haz hF hG h
    have x : e = b := by omega
    subst x
    rw [Nn_0] at h
    have p := Nn_p haz hG
    have y : ¬ a < z := fun q => by have := p.2 q; omega
    exact ⟨by omega, fun i i0 i1 => by omega⟩
  | succ f ih =>
    intro b e a z hf haz hF hG h
    have p := Nn_p (F := F) (b := b) (e := e) (by omega) hF
    have p1 := p.2 (by omega)
    have y : a < z := by
      by_cases q : a = z
      · subst q
        rw [Nn_0] at h
        omega
      · omega
    have s1 := Nn_s (F := F) (b := b) (z := e - 1) (by omega)
    have s2 := Nn_s (F := G) (b := a) (z := z - 1) (by omega)
    rw [show e - 1 + 1 = e by omega] at s1
    rw [show z - 1 + 1 = z by omega] at s2
    have f1 := hF (e - 1) (by omega) (by omega)
    have g1 := hG (z - 1) (by omega) (by omega)
    have n1 : Nn F b (e - 1) = Nn G a (z - 1) := by omega
    have d1 : F (e - 1) = G (z - 1) := by omega
    obtain ⟨i1, i2⟩ := ih b (e - 1) a (z - 1) (by omega) (by omega) (fun x x0 x1 => hF x x0 (by omega)) (fun x x0 x1 => hG x x0 (by omega)) n1
    refine ⟨by omega, fun i i0 i3 => ?_⟩
    by_cases c : i = z - a - 1
    · rw [show a + i = z - 1 by omega, show b + i = e - 1 by omega, d1]
    · exact i2 i i0 (by omega)
theorem Nn_cg (h : e - b = z - a) (hb : b ≤ e) (k : ∀ i, 0 ≤ i → i < z - a → G (a + i) = F (b + i)) : Nn F b e = Nn G a z := by
  have key : ∀ n : Int, 0 ≤ n → n ≤ e - b → Nn F b (b + n) = Nn G a (a + n) := by
    intro n n0
    refine i_ind (P := fun n => n ≤ e - b → Nn F b (b + n) = Nn G a (a + n)) n0 (fun _ => by rw [Int.add_zero, Int.add_zero, Nn_0, Nn_0]) ?_
    intro y y0 y1 ih y2
    have ih := ih (by omega)
    rw [show b + (y + 1) = (b + y) + 1 by omega, show a + (y + 1) = (a + y) + 1 by omega, Nn_s (by omega), Nn_s (by omega), ih, k y y0 (by omega)]
  have q := key (e - b) (by omega) (Int.le_refl _)
  rw [show b + (e - b) = e by omega, show a + (e - b) = z by omega] at q
  exact q
theorem wEq_N (hb : b ≤ e) (haz : a ≤ z) (hF : ∀ x, b ≤ x → x < e → 65 ≤ B x ∧ B x ≤ 127) (hG : ∀ x, a ≤ x → x < z → 65 ≤ wW x ∧ wW x ≤ 127) : wEq B b e a z ↔ Nn B b e = Nn wW a z := by
  constructor
  · intro ⟨h1, h2⟩
    exact Nn_cg h1 hb h2
  · intro h
    exact Nn_inj (e - b).toNat b e a z (by omega) haz hF hG h
theorem wkl_N (hb : b ≤ e) (hF : ∀ x, b ≤ x → x < e → isLt (B x)) : wkl B b e WL 0 = wk2 (Nn B b e) := by
  have hF : ∀ x, b ≤ x → x < e → 65 ≤ B x ∧ B x ≤ 127 := fun x x0 x1 => by have := hF x x0 x1; unfold isLt at this; omega
  have chk : ∀ a z : Nat, ((List.range 71).all (fun j => !(Nat.ble a j && Nat.ble (j + 1) z) || (decide (65 ≤ (wch j).toInt ∧ (wch j).toInt ≤ 127)))) = true → z ≤ 71 → ∀ x : Int, (a : Int) ≤ x → x < z → 65 ≤ wW x ∧ wW x ≤ 127 := by
    intro a z h hz x x0 x1
    have y := List.all_eq_true.mp h x.toNat (List.mem_range.mpr (by omega))
    simp only [Bool.or_eq_true, Bool.not_eq_true', Bool.and_eq_false_iff, decide_eq_true_eq] at y
    rcases y with (y | y) | y
    · rw [Nat.ble_eq_true_of_le (by omega)] at y; cases y
    · rw [Nat.ble_eq_true_of_le (by omega)] at y; cases y
    · exact y
  have one : ∀ (a z : Nat) (c : Int), ((List.range 71).all (fun j => !(Nat.ble a j && Nat.ble (j + 1) z) || (decide (65 ≤ (wch j).toInt ∧ (wch j).toInt ≤ 127)))) = true → z ≤ 71 → a ≤ z → Nn wW a z = c → (wEq B b e a z) = (Nn B b e = c) := by
    intro a z c h1 h2 h3 h4
    rw [propext (wEq_N hb (by omega) hF (chk a z h1 h2)), h4]
  unfold WL wk2
  simp only [wkl]
  rw [one 0 5 818583781 (by decide +kernel) (by omega) (by omega) (by decide +kernel), one 6 11 683629747 (by decide +kernel) (by omega) (by omega) (by decide +kernel), one 12 17 935275816 (by decide +kernel) (by omega) (by omega) (by decide +kernel), one 18 21 227700 (by decide +kernel) (by omega) (by omega) (by decide +kernel), one 22 26 9051315 (by decide +kernel) (by omega) (by omega) (by decide +kernel), one 27 32 883071911 (by decide +kernel) (by omega) (by omega) (by decide +kernel), one 33 39 59687467572 (by decide +kernel) (by omega) (by omega) (by decide +kernel), one 40 44 13541029 (by decide +kernel) (by omega) (by omega) (by decide +kernel), one 45 49 13801828 (by decide +kernel) (by omega) (by omega) (by decide +kernel), one 50 55 881278245 (by decide +kernel) (by omega) (by omega) (by decide +kernel), one 56 60 14556084 (by decide +kernel) (by omega) (by omega) (by decide +kernel), one 61 63 3058 (by decide +kernel) (by omega) (by omega) (by decide +kernel), one 64 67 138148 (by decide +kernel) (by omega) (by omega) (by decide +kernel), one 68 71 191476 (by decide +kernel) (by omega) (by omega) (by decide +kernel)]
  generalize Nn B b e = v
  simp only [Int.zero_add, Int.reduceAdd]
  repeat' (split <;> try rfl)
theorem wkl_long (h : 7 < e - b) : wkl B b e WL 0 = 14 := by
  have key : ∀ (l : List (Nat × Nat)) (k : Int), (∀ q ∈ l, q.2 ≤ q.1 + 7) → wkl B b e l k = 14 := by
    intro l
    induction l with
    | nil => intro k _; rfl
    | cons q r ih =>
      intro k hl
      rw [wkl, if_neg]
      · exact ih (k + 1) (fun x hx => hl x (List.mem_cons_of_mem _ hx))
      · intro ⟨x, _⟩
        have := hl q List.mem_cons_self
        omega
  exact key WL 0 (by decide)
theorem wof_wk2 (v : Int) : (wk2 v = 14 ∧ wof v = -1) ∨ ((0 ≤ wk2 v ∧ wk2 v ≤ 13) ∧ wof v = mwd (wk2 v)) := by
  by_cases c0 : v = 818583781
  · subst c0; right; decide
  by_cases c1 : v = 683629747
  · subst c1; right; decide
  by_cases c2 : v = 935275816
  · subst c2; right; decide
  by_cases c3 : v = 227700
  · subst c3; right; decide
  by_cases c4 : v = 9051315
  · subst c4; right; decide
  by_cases c5 : v = 3058
  · subst c5; right; decide
  by_cases c6 : v = 138148
  · subst c6; right; decide
  by_cases c7 : v = 191476
  · subst c7; right; decide
  by_cases c8 : v = 883071911
  · subst c8; right; decide
  by_cases c9 : v = 59687467572
  · subst c9; right; decide
  by_cases c10 : v = 13541029
  · subst c10; right; decide
  by_cases c11 : v = 13801828
  · subst c11; right; decide
  by_cases c12 : v = 881278245
  · subst c12; right; decide
  by_cases c13 : v = 14556084
  · subst c13; right; decide
  left
  unfold wk2 wof
  simp only [c0, c1, c2, c3, c4, c5, c6, c7, c8, c9, c10, c11, c12, c13, if_false, and_self]
end WD
