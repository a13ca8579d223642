/-! WHAT HOLDS of the reference's row a; how the class's tables hold it; how both hold a text -/
def W0 (A : Int → Int) : Prop := (0 ≤ A 0 ∧ A 0 ≤ 10) ∧ (0 ≤ A 1 ∧ A 1 ≤ 6) ∧ (0 ≤ A 2 ∧ A 2 ≤ 10) ∧ (0 ≤ A 3 ∧ A 3 ≤ 20) ∧ (0 ≤ A 4 ∧ A 4 ≤ 6) ∧ (-1 ≤ A 5 ∧ A 5 ≤ A 4 - 1) ∧ (0 ≤ A 6 ∧ A 6 ≤ 30)
def WT (A : Int → Int) (t : Int) : Prop := (1 ≤ A (10 + 4 * t) ∧ A (10 + 4 * t) ≤ 99) ∧ (1 ≤ A (10 + (4 * t + 1)) ∧ A (10 + (4 * t + 1)) ≤ A (10 + (4 * t + 2)) ∧ A (10 + (4 * t + 2)) ≤ 40) ∧ (0 ≤ A (10 + (4 * t + 3)) ∧ A (10 + (4 * t + 3)) ≤ 99)
def WK (A : Int → Int) (k : Int) : Prop := (0 ≤ A (60 + 5 * k) ∧ A (60 + 5 * k) ≤ 9999) ∧ (0 ≤ A (60 + (5 * k + 1)) ∧ A (60 + (5 * k + 1)) ≤ 1023) ∧ (0 ≤ A (60 + (5 * k + 2)) ∧ A (60 + (5 * k + 2)) ≤ 99)
def WB (A : Int → Int) (b : Int) : Prop := (1 ≤ A (100 + 6 * b) ∧ A (100 + 6 * b) ≤ 999) ∧ (0 ≤ A (100 + (6 * b + 1)) ∧ A (100 + (6 * b + 1)) ≤ 9) ∧ (0 ≤ A (100 + (6 * b + 2)) ∧ A (100 + (6 * b + 2)) ≤ 99) ∧ (1 ≤ A (100 + (6 * b + 3)) ∧ A (100 + (6 * b + 3)) ≤ 99)
def WI (A : Int → Int) (o i : Int) : Prop := (0 ≤ A (180 + (13 * o + (3 + 3 * i))) ∧ A (180 + (13 * o + (3 + 3 * i))) < A 0) ∧ (1 ≤ A (180 + (13 * o + (3 + (3 * i + 1)))) ∧ A (180 + (13 * o + (3 + (3 * i + 1)))) ≤ 40) ∧ (0 ≤ A (180 + (13 * o + (3 + (3 * i + 2)))) ∧ A (180 + (13 * o + (3 + (3 * i + 2)))) ≤ 9)
def WO (A : Int → Int) (o : Int) : Prop := (0 ≤ A (180 + 13 * o) ∧ A (180 + 13 * o) < A 1) ∧ (0 ≤ A (180 + (13 * o + 1)) ∧ A (180 + (13 * o + 1)) < 4) ∧ (0 ≤ A (180 + (13 * o + 2)) ∧ A (180 + (13 * o + 2)) ≤ 3) ∧ ∀ i, 0 ≤ i → i < A (180 + (13 * o + 2)) → WI A o i
def WG (A : Int → Int) (g : Int) : Prop := (0 ≤ A (480 + 3 * g) ∧ A (480 + 3 * g) < 8) ∧ (0 ≤ A (480 + (3 * g + 1)) ∧ A (480 + (3 * g + 1)) < 8) ∧ ¬ A (480 + 3 * g) = A (480 + (3 * g + 1)) ∧ (1 ≤ A (480 + (3 * g + 2)) ∧ A (480 + (3 * g + 2)) ≤ 999)
/-- all but the offers: these the trials lay anew -/
def WF0 (A : Int → Int) : Prop := W0 A ∧ (∀ t, 0 ≤ t → t < A 0 → WT A t) ∧ (∀ k, 0 ≤ k → k < A 1 → WK A k) ∧ (∀ b, 0 ≤ b → b < A 2 → WB A b) ∧ (∀ h, 0 ≤ h → h < 4 → 50 ≤ A (170 + h) ∧ A (170 + h) ≤ 150) ∧ (∀ g, 0 ≤ g → g < A 6 → WG A g)
def WF (A : Int → Int) : Prop := WF0 A ∧ ∀ o, 0 ≤ o → o < A 3 → WO A o
/-- a table's row -/
def cT (q : Nat) (s : sg) (A : Int → Int) (t : Int) : Prop := s (50 + q) (t * 4) = A (10 + 4 * t) ∧ s (50 + q) (t * 4 + 1) = A (10 + (4 * t + 1)) ∧ s (50 + q) (t * 4 + 2) = A (10 + (4 * t + 2)) ∧ s (50 + q) (t * 4 + 3) = A (10 + (4 * t + 3))
def cK (q : Nat) (s : sg) (A : Int → Int) (k : Int) : Prop := s (52 + q) (k * 4) = A (60 + 5 * k) ∧ s (52 + q) (k * 4 + 1) = A (60 + (5 * k + 1)) ∧ s (52 + q) (k * 4 + 2) = A (60 + (5 * k + 2))
def cB (q : Nat) (s : sg) (A : Int → Int) (b : Int) : Prop := s (54 + q) (b * 4) = A (100 + 6 * b) ∧ s (54 + q) (b * 4 + 1) = A (100 + (6 * b + 1)) ∧ s (54 + q) (b * 4 + 2) = A (100 + (6 * b + 2)) ∧ s (54 + q) (b * 4 + 3) = A (100 + (6 * b + 3))
def cI (q : Nat) (s : sg) (A : Int → Int) (o i : Int) : Prop := s (56 + q) (o * 12 + (3 + 3 * i)) = A (180 + (13 * o + (3 + 3 * i))) ∧ s (56 + q) (o * 12 + (3 + (3 * i + 1))) = A (180 + (13 * o + (3 + (3 * i + 1)))) ∧ s (56 + q) (o * 12 + (3 + (3 * i + 2))) = A (180 + (13 * o + (3 + (3 * i + 2))))
def cO (q : Nat) (s : sg) (A : Int → Int) (o : Int) : Prop := s (56 + q) (o * 12) = A (180 + 13 * o) ∧ s (56 + q) (o * 12 + 1) = A (180 + (13 * o + 1)) ∧ s (56 + q) (o * 12 + 2) = A (180 + (13 * o + 2)) ∧ ∀ i, 0 ≤ i → i < A (180 + (13 * o + 2)) → cI q s A o i
def cG (q : Nat) (s : sg) (A : Int → Int) (g : Int) : Prop := s (58 + q) (g * 4) = A (480 + 3 * g) ∧ s (58 + q) (g * 4 + 1) = A (480 + (3 * g + 1)) ∧ s (58 + q) (g * 4 + 2) = A (480 + (3 * g + 2))
def cN (q : Nat) (s : sg) (A : Int → Int) : Prop := s (49004 + 1000 * q) 0 = A 0 ∧ s (51004 + 1000 * q) 0 = A 1 ∧ s (53004 + 1000 * q) 0 = A 2 ∧ s (55004 + 1000 * q) 0 = A 3 ∧ s (57004 + 1000 * q) 0 = A 6 ∧ s (48007 + 1000 * q) 0 = A 4
/-- the latest year -/
def cY (q : Nat) (s : sg) (A : Int → Int) : Prop :=
  (∀ o, 0 ≤ o → o < 22 → s (61 + q) o = if o < A 3 then A (180 + (13 * o + 12)) else 0) ∧
  (∀ k, 0 ≤ k → k < 6 → s (62 + q) k = (if k < A 1 then A (60 + (5 * k + 3)) else 0) ∧ s (63 + q) k = if k < A 1 then A (60 + (5 * k + 4)) else 0) ∧
  (∀ b, 0 ≤ b → b < 10 → s (64 + q) b = (if b < A 2 then A (100 + (6 * b + 4)) else 0) ∧ s (65 + q) b = if b < A 2 then A (100 + (6 * b + 5)) else 0)
/-- the tables but the offers -/
def IC0 (q : Nat) (s : sg) (A : Int → Int) : Prop := cN q s A ∧ (∀ t, 0 ≤ t → t < A 0 → cT q s A t) ∧ (∀ k, 0 ≤ k → k < A 1 → cK q s A k) ∧ (∀ b, 0 ≤ b → b < A 2 → cB q s A b) ∧ (∀ g, 0 ≤ g → g < A 6 → cG q s A g) ∧ (∀ h, 0 ≤ h → h < 4 → s (59 + q) h = A (170 + h))
def IC (q : Nat) (s : sg) (A : Int → Int) : Prop := IC0 q s A ∧ s (48008 + 1000 * q) 0 = A 5 ∧ (∀ o, 0 ≤ o → o < A 3 → cO q s A o) ∧ cY q s A
/-! texts -/
def seg (f : Int → Int) : Int → List Int → Prop
  | _, [] => True
  | p, x :: r => f p = x ∧ seg f (p + 1) r
theorem seg_app {f : Int → Int} {a b : List Int} {p : Int} : seg f p (a ++ b) ↔ seg f p a ∧ seg f (p + a.length) b := by
  induction a generalizing p with
  | nil => simp [seg]
  | cons x r ih =>
    simp only [List.cons_append, seg, ih, List.length_cons, and_assoc]
    rw [show p + ((r.length + 1 : Nat) : Int) = p + 1 + r.length by omega]
theorem seg_cg {f g : Int → Int} {a : List Int} {p : Int} (h : ∀ z, p ≤ z → z < p + a.length → g z = f z) (k : seg f p a) : seg g p a := by
  induction a generalizing p with
  | nil => trivial
  | cons x r ih =>
    have e : ((x :: r).length : Int) = r.length + 1 := by simp
    exact ⟨(h p (Int.le_refl p) (by omega)).trans k.1, ih (fun z a b => h z (by omega) (by omega)) k.2⟩
/-- an operation as the class writes it -/
def enc (q : Int × Int) : Int := if q.1 = 400 then q.2 else if q.1 = 401 then -(5 + q.2) else if q.1 = 402 then -33 else if q.1 = 405 then -13 else if q.1 = 406 then -12 else if q.1 = 407 then -11 else if q.1 = 43 then -24 else if q.1 = 45 then -25 else if q.1 = 42 then -26 else if q.1 = 47 then -27 else if q.1 = 60 then -22 else if q.1 = 62 then -23 else if q.1 = 61 then -21 else if q.1 = 35 then -20 else if q.1 = 300 then -31 else -32
/-- the class's Law at the cell k, from its clause i on -/
def lC (s : sg) (k : Nat) : Int → lawT → Prop
  | i, [] => s (1000 * k + 5) 0 = i
  | i, c :: r => (s (k + 2) i = c.1 ∧ 0 ≤ s (k + 3) i ∧ s (k + 4) i = s (k + 3) i + c.2.length ∧ s (k + 4) i ≤ 300 ∧ seg (s (k + 1)) (s (k + 3) i) (c.2.map enc)) ∧ lC s k (i + 1) r
/-- the reference's text t, from its clause i on -/
def lM (s : sg) (t : Int) : Int → lawT → Prop
  | i, [] => s 126 t = i
  | i, c :: r => (s 127 (10 * t + i) = c.1 ∧ 0 ≤ s 128 (10 * t + i) ∧ (s 128 (10 * t + i) + c.2.length < 2400 ∧ 400 * t ≤ s 128 (10 * t + i) ∧ s 128 (10 * t + i) + c.2.length < 400 * t + 400) ∧ seg (s 129) (s 128 (10 * t + i)) (c.2.map (fun q => q.1) ++ [408]) ∧ seg (s 130) (s 128 (10 * t + i)) (c.2.map (fun q => q.2))) ∧ lM s t (i + 1) r
def isLw (k : Nat) : Prop := k = 11 ∨ k = 18 ∨ k = 23 ∨ k = 28 ∨ k = 33 ∨ k = 38 ∨ k = 43
/-- the text that rules, in the reference -/
def curM (s : sg) (l : lawT) : Prop := (s 123 5 = -1 ∧ l = []) ∨ ((0 ≤ s 123 5 ∧ s 123 5 < 6) ∧ lM s (s 123 5) 0 l)
/-- the law that the class's scales use -/
def curC (s : sg) (l : lawT) : Prop := ∃ k : Nat, isLw k ∧ s 84900 0 = k ∧ lC s k 0 l
theorem lC_len {s : sg} {k : Nat} : ∀ {i : Int} {l : lawT}, lC s k i l → s (1000 * k + 5) 0 = i + l.length
  | i, [], h => by have e : s (1000 * k + 5) 0 = i := h; simp [e]
  | i, c :: r, h => by have e := lC_len h.2; simp only [List.length_cons]; omega
theorem lM_len {s : sg} {t : Int} : ∀ {i : Int} {l : lawT}, lM s t i l → s 126 t = i + l.length
  | i, [], h => by have e : s 126 t = i := h; simp [e]
  | i, c :: r, h => by have e := lM_len h.2; simp only [List.length_cons]; omega
theorem lC_cg {s s2 : sg} {k : Nat} (h : s2 (k + 1) = s (k + 1) ∧ s2 (k + 2) = s (k + 2) ∧ s2 (k + 3) = s (k + 3) ∧ s2 (k + 4) = s (k + 4) ∧ s2 (1000 * k + 5) = s (1000 * k + 5)) : ∀ {i : Int} {l : lawT}, lC s k i l → lC s2 k i l
  | i, [], e => by show s2 _ 0 = i; rw [h.2.2.2.2]; exact e
  | i, c :: r, e => by
    refine ⟨?_, lC_cg h e.2⟩
    rw [h.1, h.2.1, h.2.2.1, h.2.2.2.1]
    exact e.1
theorem lM_cg {s s2 : sg} {t : Int} (h : s2 126 = s 126 ∧ s2 127 = s 127 ∧ s2 128 = s 128 ∧ s2 129 = s 129 ∧ s2 130 = s 130) : ∀ {i : Int} {l : lawT}, lM s t i l → lM s2 t i l
  | i, [], e => by show s2 126 t = i; rw [h.1]; exact e
  | i, c :: r, e => by
    refine ⟨?_, lM_cg h e.2⟩
    rw [h.2.1, h.2.2.1, h.2.2.2.1, h.2.2.2.2]
    exact e.1
theorem curM_fr {L : List Nat} {s s2 : sg} {l : lawT} (f : Fr L s s2) (w : (nin 126 L && nin 127 L && nin 128 L && nin 129 L && nin 130 L) = true) (w5 : s2 123 5 = s 123 5) (h : curM s l) : curM s2 l := by
  simp only [Bool.and_eq_true] at w
  obtain ⟨⟨⟨⟨a, b⟩, c⟩, d⟩, e⟩ := w
  rcases h with ⟨h1, h2⟩ | ⟨h1, h2⟩
  · exact Or.inl ⟨w5.trans h1, h2⟩
  · refine Or.inr ⟨by rw [w5]; exact h1, ?_⟩
    rw [w5]
    exact lM_cg ⟨f 126 a, f 127 b, f 128 c, f 129 d, f 130 e⟩ h2
/-- no key of a text of the class is in the list -/
def ninL (L : List Nat) : Bool := match L with
  | [] => true
  | a :: r => !((Nat.ble 12 a && Nat.ble a 15) || (Nat.ble 19 a && Nat.ble a 47) || Nat.beq a 11005 || Nat.beq a 18005 || Nat.beq a 23005 || Nat.beq a 28005 || Nat.beq a 33005 || Nat.beq a 38005 || Nat.beq a 43005) && ninL r
theorem ninL_1 {L : List Nat} (h : ninL L = true) (a : Nat) (ha : (12 ≤ a ∧ a ≤ 15) ∨ (19 ≤ a ∧ a ≤ 47) ∨ a = 11005 ∨ a = 18005 ∨ a = 23005 ∨ a = 28005 ∨ a = 33005 ∨ a = 38005 ∨ a = 43005) : nin a L = true := by
  induction L with
  | nil => rfl
  | cons x r ih =>
    simp only [ninL, Bool.and_eq_true, Bool.not_eq_true', Bool.or_eq_false_iff, Bool.and_eq_false_iff] at h
    simp only [nin, Bool.and_eq_true, Bool.not_eq_true']
    refine ⟨?_, ih h.2⟩
    cases e : Nat.beq x a with
    | false => rfl
    | true =>
      exfalso
      have e := Nat.eq_of_beq_eq_true e
      subst e
      obtain ⟨⟨⟨⟨⟨⟨⟨⟨⟨h1, h2⟩, h3⟩, h4⟩, h5⟩, h6⟩, h7⟩, h8⟩, h9⟩, _⟩ := h
      have b1 : ∀ n m : Nat, Nat.ble n m = false → ¬ n ≤ m := fun n m e q => by rw [Nat.ble_eq_true_of_le q] at e; cases e
      have b2 : ∀ n m : Nat, Nat.beq n m = false → ¬ n = m := fun n m e q => by rw [q, Nat.beq_refl] at e; cases e
      have q1 : ¬ (12 ≤ x ∧ x ≤ 15) := by rcases h1 with h | h <;> have := b1 _ _ h <;> omega
      have q2 : ¬ (19 ≤ x ∧ x ≤ 47) := by rcases h2 with h | h <;> have := b1 _ _ h <;> omega
      have := b2 _ _ h3
      have := b2 _ _ h4
      have := b2 _ _ h5
      have := b2 _ _ h6
      have := b2 _ _ h7
      have := b2 _ _ h8
      have := b2 _ _ h9
      omega
theorem lC_fr {L : List Nat} {s s2 : sg} {k : Nat} {i : Int} {l : lawT} (f : Fr L s s2) (w : ninL L = true) (hk : isLw k) (h : lC s k i l) : lC s2 k i l := by
  unfold isLw at hk
  exact lC_cg ⟨f _ (ninL_1 w _ (by omega)), f _ (ninL_1 w _ (by omega)), f _ (ninL_1 w _ (by omega)), f _ (ninL_1 w _ (by omega)), f _ (ninL_1 w _ (by omega))⟩ h
theorem curC_fr {L : List Nat} {s s2 : sg} {l : lawT} (f : Fr L s s2) (w : (nin 84900 L && ninL L) = true) (h : curC s l) : curC s2 l := by
  simp only [Bool.and_eq_true] at w
  obtain ⟨k, h1, h2, h3⟩ := h
  exact ⟨k, h1, by rw [f 84900 w.1]; exact h2, lC_fr f w.2 h1 h3⟩
theorem IC0_cg {q : Nat} {s s2 : sg} {A : Int → Int} (h : s2 (49004 + 1000 * q) = s (49004 + 1000 * q) ∧ s2 (51004 + 1000 * q) = s (51004 + 1000 * q) ∧ s2 (53004 + 1000 * q) = s (53004 + 1000 * q) ∧ s2 (55004 + 1000 * q) = s (55004 + 1000 * q) ∧ s2 (57004 + 1000 * q) = s (57004 + 1000 * q) ∧ s2 (48007 + 1000 * q) = s (48007 + 1000 * q) ∧ s2 (48008 + 1000 * q) = s (48008 + 1000 * q) ∧ s2 (50 + q) = s (50 + q) ∧ s2 (52 + q) = s (52 + q) ∧ s2 (54 + q) = s (54 + q) ∧ s2 (58 + q) = s (58 + q) ∧ s2 (59 + q) = s (59 + q)) (k : IC0 q s A) : IC0 q s2 A := by
  obtain ⟨h1, h2, h3, h4, h5, h6, h7, h8, h9, h10, h11, h12⟩ := h
  unfold IC0 cN cT cK cB cG
  rw [h1, h2, h3, h4, h5, h6, h8, h9, h10, h11, h12]
  exact k
theorem IC0_fr {L : List Nat} {s s2 : sg} {A : Int → Int} (f : Fr L s s2) (w : (nin 49004 L && nin 51004 L && nin 53004 L && nin 55004 L && nin 57004 L && nin 48007 L && nin 48008 L && nin 50 L && nin 52 L && nin 54 L && nin 58 L && nin 59 L) = true) (k : IC0 0 s A) : IC0 0 s2 A := by
  simp only [Bool.and_eq_true] at w
  obtain ⟨⟨⟨⟨⟨⟨⟨⟨⟨⟨⟨h1, h2⟩, h3⟩, h4⟩, h5⟩, h6⟩, h7⟩, h8⟩, h9⟩, h10⟩, h11⟩, h12⟩ := w
  exact IC0_cg ⟨f _ h1, f _ h2, f _ h3, f _ h4, f _ h5, f _ h6, f _ h7, f _ h8, f _ h9, f _ h10, f _ h11, f _ h12⟩ k
theorem cO_cg {q : Nat} {s s2 : sg} {A : Int → Int} {o : Int} (h : s2 (56 + q) = s (56 + q)) (k : cO q s A o) : cO q s2 A o := by
  unfold cO cI
  rw [h]
  exact k
theorem cY_cg {q : Nat} {s s2 : sg} {A : Int → Int} (h : s2 (61 + q) = s (61 + q) ∧ s2 (62 + q) = s (62 + q) ∧ s2 (63 + q) = s (63 + q) ∧ s2 (64 + q) = s (64 + q) ∧ s2 (65 + q) = s (65 + q)) (k : cY q s A) : cY q s2 A := by
  obtain ⟨h1, h2, h3, h4, h5⟩ := h
  unfold cY
  rw [h1, h2, h3, h4, h5]
  exact k
/-- what is read of a law's cells -/
theorem H_Lw {k : Nat} (hk : isLw k) {X : hX} {s : sg} : gS (hp X s) k = (0, 1) ∧ gR (hp X s) k 0 = some (k + 1) ∧ gR (hp X s) k 1 = some (k + 2) ∧ gR (hp X s) k 2 = some (k + 3) ∧ gR (hp X s) k 3 = some (k + 4) ∧ gM (hp X s) k 4 = iI (s (1000 * k + 4) 0) ∧ gM (hp X s) k 5 = iI (s (1000 * k + 5) 0) ∧ (∀ {v : Int}, pM (hp X s) k 4 (iI v) = hp X (u s (1000 * k + 4) (fun _ => v))) ∧ (∀ {v : Int}, pM (hp X s) k 5 (iI v) = hp X (u s (1000 * k + 5) (fun _ => v))) ∧ gS (hp X s) (k + 1) = (1, 300) ∧ gS (hp X s) (k + 2) = (1, 10) ∧ gS (hp X s) (k + 3) = (1, 10) ∧ gS (hp X s) (k + 4) = (1, 10) := by
  rcases hk with e | e | e | e | e | e | e <;> subst e <;> exact ⟨rfl, rfl, rfl, rfl, rfl, gF_hp ⟨rfl, by decide, rfl⟩, gF_hp ⟨rfl, by decide, rfl⟩, pF_hp ⟨rfl, by decide, rfl⟩, pF_hp ⟨rfl, by decide, rfl⟩, rfl, rfl, rfl, rfl⟩
theorem H_La {k : Nat} (hk : isLw k) {X : hX} {s : sg} {j : Nat} (hj : 1 ≤ j ∧ j ≤ 4) : (∀ {z : Int}, 0 ≤ z ∧ z < 2147483648 → gM (hp X s) (k + j) (ix (iI z)) = iI (s (k + j) z)) ∧ (∀ {z v : Int}, 0 ≤ z ∧ z < 2147483648 → pM (hp X s) (k + j) (ix (iI z)) (iI v) = hp X (u s (k + j) (up (s (k + j)) z v))) := by
  have hj2 : j = 1 ∨ j = 2 ∨ j = 3 ∨ j = 4 := by omega
  rcases hk with e | e | e | e | e | e | e <;> rcases hj2 with f | f | f | f <;> subst e <;> subst f <;> exact ⟨gA_hp ⟨rfl, by decide⟩, pA_hp ⟨rfl, by decide⟩⟩
theorem H_L {k : Nat} (hk : isLw k) {X : hX} {s : sg} : (∀ {z : Int}, 0 ≤ z ∧ z < 300 → iaOK (hp X s) (k + 1) (iI z) = True) ∧ (∀ {z : Int}, 0 ≤ z ∧ z < 300 → isOK (hp X s) (k + 1) (iI z) = True) ∧ (∀ {z : Int}, 0 ≤ z ∧ z < 10 → iaOK (hp X s) (k + 2) (iI z) = True) ∧ (∀ {z : Int}, 0 ≤ z ∧ z < 10 → isOK (hp X s) (k + 2) (iI z) = True) ∧ (∀ {z : Int}, 0 ≤ z ∧ z < 10 → iaOK (hp X s) (k + 3) (iI z) = True) ∧ (∀ {z : Int}, 0 ≤ z ∧ z < 10 → isOK (hp X s) (k + 3) (iI z) = True) ∧ (∀ {z : Int}, 0 ≤ z ∧ z < 10 → iaOK (hp X s) (k + 4) (iI z) = True) ∧ (∀ {z : Int}, 0 ≤ z ∧ z < 10 → isOK (hp X s) (k + 4) (iI z) = True) ∧ lnOK (hp X s) (k + 1) = True ∧ lnOK (hp X s) (k + 2) = True := by
  have h := H_Lw hk (X := X) (s := s)
  have a1 := ok_1 h.2.2.2.2.2.2.2.2.2.1 (by decide)
  have a2 := ok_1 h.2.2.2.2.2.2.2.2.2.2.1 (by decide)
  have a3 := ok_1 h.2.2.2.2.2.2.2.2.2.2.2.1 (by decide)
  have a4 := ok_1 h.2.2.2.2.2.2.2.2.2.2.2.2 (by decide)
  exact ⟨a1.1, a1.2.1, a2.1, a2.2.1, a3.1, a3.2.1, a4.1, a4.2.1, a1.2.2, a2.2.2⟩
