/-! THE MATHEMATICS of a text's clauses: an operation is (what, value), as the reference has it -/
abbrev opl : Type := List (Int × Int)
abbrev lawT : Type := List (Int × opl)
/-- cut at a million -/
def cl (v : Int) : Int := max (-1000000) (min 1000000 v)
noncomputable def wk (o a b : Int) : Int :=
  if o = 43 then cl (a + b) else if o = 45 then cl (a - b) else if o = 42 then cl (a * b) else if o = 47 then (if b = 0 then 0 else Int.tdiv a b)
  else if o = 60 then bZ (a < b) else if o = 62 then bZ (b < a) else if o = 61 then bZ (a = b) else if o = 35 then bZ (¬ a = b) else if o = 300 then bZ (a ≤ b) else if o = 301 then bZ (b ≤ a)
  else if o = 406 then a * b else bZ (0 < a + b)
noncomputable def ev1 (nm : Int → Int) (q : Int × Int) (st : List Int) : List Int :=
  if q.1 = 400 then q.2 :: st else if q.1 = 401 then nm q.2 :: st else match st with
  | a :: r => if q.1 = 402 then -a :: r else if q.1 = 405 then (1 - a) :: r else (match r with
    | b :: r2 => wk q.1 b a :: r2
    | [] => [a])
  | [] => []
noncomputable def evs (nm : Int → Int) : opl → List Int → List Int
  | [], st => st
  | q :: r, st => evs nm r (ev1 nm q st)
theorem evs_app (nm : Int → Int) (a b : opl) (st : List Int) : evs nm (a ++ b) st = evs nm b (evs nm a st) := by
  induction a generalizing st with
  | nil => rfl
  | cons q r ih => exact ih _
/-- the kinds of what stands in the pile: true is 0 or 1 -/
def isCmp (o : Int) : Prop := o = 60 ∨ o = 62 ∨ o = 61 ∨ o = 35 ∨ o = 300 ∨ o = 301
def isAr (o : Int) : Prop := o = 43 ∨ o = 45 ∨ o = 42 ∨ o = 47
/-- one operation's types; w: taste and want are known -/
def ty1 (w : Bool) (q : Int × Int) (s s2 : List Bool) : Prop :=
  (q.1 = 400 ∧ (0 ≤ q.2 ∧ q.2 ≤ 9999) ∧ s2 = false :: s) ∨ (q.1 = 401 ∧ 0 ≤ q.2 ∧ q.2 ≤ 5 ∧ (q.2 ≤ 3 ∨ w = true) ∧ s2 = false :: s) ∨
  (q.1 = 402 ∧ ∃ r, s = false :: r ∧ s2 = false :: r) ∨ (q.1 = 405 ∧ ∃ r, s = true :: r ∧ s2 = true :: r) ∨
  (isAr q.1 ∧ ∃ r, s = false :: false :: r ∧ s2 = false :: r) ∨ (isCmp q.1 ∧ ∃ r, s = false :: false :: r ∧ s2 = true :: r) ∨
  ((q.1 = 406 ∨ q.1 = 407) ∧ ∃ r, s = true :: true :: r ∧ s2 = true :: r)
def tys (w : Bool) : opl → List Bool → List Bool → Prop
  | [], s, s2 => s2 = s
  | q :: r, s, s2 => ∃ s1, ty1 w q s s1 ∧ tys w r s1 s2
theorem tys_app {w : Bool} {a b : opl} {s s1 s2 : List Bool} (h : tys w a s s1) (k : tys w b s1 s2) : tys w (a ++ b) s s2 := by
  induction a generalizing s with
  | nil =>
    have e : s1 = s := h
    subst e
    exact k
  | cons q r ih =>
    obtain ⟨s3, a1, a2⟩ := h
    exact ⟨s3, a1, ih a2⟩
theorem tys_up {w : Bool} (t : List Bool) {a : opl} {s s1 : List Bool} (h : tys w a s s1) : tys w a (s ++ t) (s1 ++ t) := by
  induction a generalizing s with
  | nil =>
    have e : s1 = s := h
    rw [e]
    exact rfl
  | cons q r ih =>
    obtain ⟨s3, a1, a2⟩ := h
    refine ⟨s3 ++ t, ?_, ih a2⟩
    rcases a1 with ⟨e, v, e2⟩ | ⟨e, v, v2, v3, e2⟩ | ⟨e, r2, e2, e3⟩ | ⟨e, r2, e2, e3⟩ | ⟨e, r2, e2, e3⟩ | ⟨e, r2, e2, e3⟩ | ⟨e, r2, e2, e3⟩
    · exact Or.inl ⟨e, v, by rw [e2]; rfl⟩
    · exact Or.inr (Or.inl ⟨e, v, v2, v3, by rw [e2]; rfl⟩)
    · exact Or.inr (Or.inr (Or.inl ⟨e, r2 ++ t, by rw [e2]; rfl, by rw [e3]; rfl⟩))
    · exact Or.inr (Or.inr (Or.inr (Or.inl ⟨e, r2 ++ t, by rw [e2]; rfl, by rw [e3]; rfl⟩)))
    · exact Or.inr (Or.inr (Or.inr (Or.inr (Or.inl ⟨e, r2 ++ t, by rw [e2]; rfl, by rw [e3]; rfl⟩))))
    · exact Or.inr (Or.inr (Or.inr (Or.inr (Or.inr (Or.inl ⟨e, r2 ++ t, by rw [e2]; rfl, by rw [e3]; rfl⟩)))))
    · exact Or.inr (Or.inr (Or.inr (Or.inr (Or.inr (Or.inr ⟨e, r2 ++ t, by rw [e2]; rfl, by rw [e3]; rfl⟩)))))
/-- values of the types -/
def vok : Bool → Int → Prop
  | true, a => a = 0 ∨ a = 1
  | false, a => -1000000 ≤ a ∧ a ≤ 1000000
def vals : List Bool → List Int → Prop
  | [], [] => True
  | t :: r, a :: s => vok t a ∧ vals r s
  | _, _ => False
theorem cl_r (v : Int) : -1000000 ≤ cl v ∧ cl v ≤ 1000000 := by unfold cl; omega
theorem tdiv_r {a b : Int} (h : -1000000 ≤ a ∧ a ≤ 1000000) : -1000000 ≤ Int.tdiv a b ∧ Int.tdiv a b ≤ 1000000 := by
  have h1 : (Int.tdiv a b).natAbs = a.natAbs / b.natAbs := Int.natAbs_tdiv a b
  have h2 : a.natAbs / b.natAbs ≤ a.natAbs := Nat.div_le_self _ _
  omega
theorem bZ_v (p : Prop) : bZ p = 0 ∨ bZ p = 1 := by have := bZ_r p; omega
theorem wk_ar {o a b : Int} (h : isAr o) (ha : vok false a) : vok false (wk o a b) := by
  have ha : -1000000 ≤ a ∧ a ≤ 1000000 := ha
  show -1000000 ≤ wk o a b ∧ wk o a b ≤ 1000000
  unfold wk
  rcases h with e | e | e | e <;> subst e <;> simp only [Int.reduceEq, if_true, if_false, ↓reduceIte]
  · exact cl_r _
  · exact cl_r _
  · exact cl_r _
  · split
    · decide
    · exact tdiv_r ha
theorem wk_cmp {o a b : Int} (h : isCmp o) : vok true (wk o a b) := by
  show wk o a b = 0 ∨ wk o a b = 1
  unfold wk
  rcases h with e | e | e | e | e | e <;> subst e <;> simp only [Int.reduceEq, if_true, if_false, ↓reduceIte] <;> exact bZ_v _
theorem wk_ao {o a b : Int} (h : o = 406 ∨ o = 407) (ha : vok true a) (hb : vok true b) : vok true (wk o a b) := by
  have ha : a = 0 ∨ a = 1 := ha
  have hb : b = 0 ∨ b = 1 := hb
  show wk o a b = 0 ∨ wk o a b = 1
  unfold wk
  rcases h with e | e <;> subst e <;> simp only [Int.reduceEq, if_true, if_false, ↓reduceIte]
  · rcases ha with e | e <;> rcases hb with f | f <;> subst e <;> subst f <;> decide
  · exact bZ_v _
theorem ev1_ok {nm : Int → Int} {w : Bool} (hn : ∀ i, 0 ≤ i → i ≤ 5 → (i ≤ 3 ∨ w = true) → -1000000 ≤ nm i ∧ nm i ≤ 1000000) {q : Int × Int} {s s2 : List Bool} {st : List Int} (h : ty1 w q s s2) (v : vals s st) : vals s2 (ev1 nm q st) := by
  rcases h with ⟨e, k, e2⟩ | ⟨e, k, k2, k3, e2⟩ | ⟨e, r, e2, e3⟩ | ⟨e, r, e2, e3⟩ | ⟨e, r, e2, e3⟩ | ⟨e, r, e2, e3⟩ | ⟨e, r, e2, e3⟩
  · subst e2
    unfold ev1
    rw [if_pos e]
    exact ⟨⟨by omega, by omega⟩, v⟩
  · subst e2
    unfold ev1
    rw [if_neg (by omega), if_pos e]
    exact ⟨hn _ k k2 k3, v⟩
  · subst e2
    subst e3
    cases st with
    | nil => exact v.elim
    | cons a st =>
      unfold ev1
      rw [if_neg (by omega), if_neg (by omega)]
      simp only [e, if_true]
      obtain ⟨v1, v2⟩ := v
      have v1 : -1000000 ≤ a ∧ a ≤ 1000000 := v1
      exact ⟨⟨by omega, by omega⟩, v2⟩
  · subst e2
    subst e3
    cases st with
    | nil => exact v.elim
    | cons a st =>
      unfold ev1
      rw [if_neg (by omega), if_neg (by omega)]
      simp only [e, Int.reduceEq, if_true, if_false, ↓reduceIte]
      obtain ⟨v1, v2⟩ := v
      have v1 : a = 0 ∨ a = 1 := v1
      exact ⟨by show 1 - a = 0 ∨ 1 - a = 1; omega, v2⟩
  · subst e2
    subst e3
    match st, v with
    | a :: b :: st, v =>
      obtain ⟨v1, v2, v3⟩ := v
      unfold ev1
      have n : ¬ q.1 = 400 ∧ ¬ q.1 = 401 ∧ ¬ q.1 = 402 ∧ ¬ q.1 = 405 := by unfold isAr at e; omega
      simp only [n, if_false]
      exact ⟨wk_ar e v2, v3⟩
  · subst e2
    subst e3
    match st, v with
    | a :: b :: st, v =>
      obtain ⟨v1, v2, v3⟩ := v
      unfold ev1
      have n : ¬ q.1 = 400 ∧ ¬ q.1 = 401 ∧ ¬ q.1 = 402 ∧ ¬ q.1 = 405 := by unfold isCmp at e; omega
      simp only [n, if_false]
      exact ⟨wk_cmp e, v3⟩
  · subst e2
    subst e3
    match st, v with
    | a :: b :: st, v =>
      obtain ⟨v1, v2, v3⟩ := v
      unfold ev1
      have n : ¬ q.1 = 400 ∧ ¬ q.1 = 401 ∧ ¬ q.1 = 402 ∧ ¬ q.1 = 405 := by omega
      simp only [n, if_false]
      exact ⟨wk_ao e v2 v1, v3⟩
/-- a clause: its kind, its operations end with one number, a bars clause's with 0 or 1 -/
def clOK (c : Int × opl) : Prop := (0 ≤ c.1 ∧ c.1 ≤ 4) ∧ ((c.1 = 4 ∧ tys false c.2 [] [true]) ∨ (¬ c.1 = 4 ∧ tys (decide (c.1 = 2)) c.2 [] [false])) ∧ (c.2.length : Int) ≤ 300
/-- at most one clause of each kind but bars -/
def lawOK (l : lawT) : Prop := l.length ≤ 10 ∧ (∀ c ∈ l, clOK c) ∧ l.Pairwise (fun a b => ¬ a.1 = 4 → ¬ a.1 = b.1)
/-- the first clause of this kind -/
def look : lawT → Int → Option opl
  | [], _ => none
  | c :: r, w => if c.1 = w then some c.2 else look r w
def hd (l : List Int) : Int := l.headD 0
noncomputable def val (A : Int → Int) (c : opl) (t w n ta wa : Int) : Int := hd (evs (fun i => if i = 0 then t else if i = 1 then w else if i = 2 then A (10 + 4 * t) else if i = 3 then n else if i = 4 then ta else wa) c [])
noncomputable def vWet (A : Int → Int) (l : lawT) (t w : Int) : Int := match look l 3 with
  | none => 0
  | some c => max 0 (min 9 (val A c t w 1 0 0))
noncomputable def vHours (A : Int → Int) (l : lawT) (t w n : Int) : Int := match look l 1 with
  | none => 1 + w / 4
  | some c => max 1 (min 999 (val A c t w n 0 0))
noncomputable def vPrice (A : Int → Int) (l : lawT) (t wd n : Int) : Int := match look l 0 with
  | none => wd
  | some c => max 0 (min 9999 (val A c t wd n 0 0))
def vBars (A : Int → Int) (l : lawT) (t wd n : Int) : Prop := ∃ c, (4, c) ∈ l ∧ ¬ val A c t wd n 0 0 = 0
noncomputable def vWant (A : Int → Int) (b t : Int) : Int := bZ (A (100 + (6 * b + 1)) = t)
noncomputable def vWorth (A : Int → Int) (l : lawT) (b t w n : Int) : Int := match look l 2 with
  | none => A (100 + (6 * b + 2)) * vWant A b t
  | some c => max (-9999) (min 9999 (val A c t w n (A (100 + (6 * b + 2))) (vWant A b t)))
noncomputable def vCost (A : Int → Int) (l : lawT) (k t w n : Int) : Int := vHours A l t w n * A (60 + (5 * k + 2)) + A (10 + (4 * t + 3)) * w
/-! an offer's row -/
noncomputable def wghd (A : Int → Int) (o i : Int) : Int := (A (180 + (13 * o + (3 + (3 * i + 1)))) + A (180 + (13 * o + (3 + (3 * i + 2))))) * A (170 + A (180 + (13 * o + 1))) / 100
noncomputable def oHours (A : Int → Int) (l : lawT) (o j : Int) : Int := sm (fun i => vHours A l (A (180 + (13 * o + (3 + 3 * i)))) (A (180 + (13 * o + (3 + (3 * i + 1))))) (A (180 + (13 * o + 2)))) j
noncomputable def oPrice (A : Int → Int) (l : lawT) (o j : Int) : Int := sm (fun i => vPrice A l (A (180 + (13 * o + (3 + 3 * i)))) (wghd A o i) (A (180 + (13 * o + 2)))) j
noncomputable def oCost (A : Int → Int) (l : lawT) (o j : Int) : Int := sm (fun i => vCost A l (A (180 + 13 * o)) (A (180 + (13 * o + (3 + 3 * i)))) (A (180 + (13 * o + (3 + (3 * i + 1))))) (A (180 + (13 * o + 2)))) j
def oLoad (A : Int → Int) (o j : Int) : Int := sm (fun i => A (180 + (13 * o + (3 + (3 * i + 1)))) + A (180 + (13 * o + (3 + (3 * i + 2))))) j
def oLaw (A : Int → Int) (l : lawT) (o j : Int) : Prop := ∀ i, 0 ≤ i → i < j → ¬ vBars A l (A (180 + (13 * o + (3 + 3 * i)))) (wghd A o i) (A (180 + (13 * o + 2)))
noncomputable def oWorth (A : Int → Int) (l : lawT) (b o j : Int) : Int := sm (fun i => vWorth A l b (A (180 + (13 * o + (3 + 3 * i)))) (A (180 + (13 * o + (3 + (3 * i + 1))))) (A (180 + (13 * o + 2)))) j
def oNum (A : Int → Int) (o : Int) : Int := A (180 + (13 * o + 2))
/-- how far worth is over price, -1 where it isn't liked -/
noncomputable def oOver (A : Int → Int) (l : lawT) (b o : Int) : Int := @ite _ (0 < oNum A o ∧ oLaw A l o (oNum A o) ∧ oLoad A o (oNum A o) ≤ A (100 + (6 * b + 3))) (Classical.propDecidable _) (max (-1) (oWorth A l b o (oNum A o) - oPrice A l o (oNum A o))) (-1)
theorem evs_cg {nm nm2 : Int → Int} {w : Bool} (hn : ∀ i, 0 ≤ i → i ≤ 5 → (i ≤ 3 ∨ w = true) → nm2 i = nm i) : ∀ {c : opl} {s s2 : List Bool} (st : List Int), tys w c s s2 → evs nm2 c st = evs nm c st
  | [], _, _, _, _ => rfl
  | q :: r, s, s2, st, ⟨s1, h, k⟩ => by
    have e : ev1 nm2 q st = ev1 nm q st := by
      unfold ev1
      by_cases c0 : q.1 = 400
      · rw [if_pos c0, if_pos c0]
      · rw [if_neg c0, if_neg c0]
        by_cases c1 : q.1 = 401
        · rw [if_pos c1, if_pos c1]
          rcases h with ⟨e, _, _⟩ | ⟨e, a, b, c, _⟩ | ⟨e, _⟩ | ⟨e, _⟩ | ⟨e, _⟩ | ⟨e, _⟩ | ⟨e, _⟩
          · omega
          · rw [hn _ a b c]
          · omega
          · omega
          · unfold isAr at e; omega
          · unfold isCmp at e; omega
          · omega
        · rw [if_neg c1, if_neg c1]
    show evs nm2 r (ev1 nm2 q st) = evs nm r (ev1 nm q st)
    rw [e]
    exact evs_cg hn _ k
theorem ty1_t {w : Bool} {q : Int × Int} {s s2 : List Bool} (h : ty1 w q s s2) : ty1 true q s s2 := by
  rcases h with h | ⟨e, a, b, c, f⟩ | h
  · exact Or.inl h
  · exact Or.inr (Or.inl ⟨e, a, b, Or.inr rfl, f⟩)
  · exact Or.inr (Or.inr h)
/-- what a clause of the types says lies in its bounds -/
theorem evs_ok {nm : Int → Int} {w : Bool} (hn : ∀ i, 0 ≤ i → i ≤ 5 → (i ≤ 3 ∨ w = true) → -1000000 ≤ nm i ∧ nm i ≤ 1000000) : ∀ {c : opl} {s s2 : List Bool} {st : List Int}, tys w c s s2 → vals s st → vals s2 (evs nm c st)
  | [], s, s2, st, h, v => by
    have e : s2 = s := h
    rw [e]
    exact v
  | q :: r, s, s2, st, ⟨s1, h, k⟩, v => by
    show vals s2 (evs nm r (ev1 nm q st))
    exact evs_ok hn k (ev1_ok hn h v)
theorem hd_ok {nm : Int → Int} {w t : Bool} (hn : ∀ i, 0 ≤ i → i ≤ 5 → (i ≤ 3 ∨ w = true) → -1000000 ≤ nm i ∧ nm i ≤ 1000000) {c : opl} (h : tys w c [] [t]) : vok t (hd (evs nm c [])) := by
  have v := evs_ok hn h (st := []) trivial
  match evs nm c [], v with
  | a :: _, v => exact v.1
theorem look_in {l : lawT} {w : Int} {c : opl} (h : look l w = some c) : (w, c) ∈ l := by
  induction l with
  | nil => cases h
  | cons q r ih =>
    unfold look at h
    by_cases e : q.1 = w
    · rw [if_pos e] at h
      cases h
      subst e
      exact List.mem_cons_self
    · rw [if_neg e] at h
      exact List.mem_cons_of_mem _ (ih h)
theorem look_no {l : lawT} {w : Int} (h : ∀ q ∈ l, ¬ q.1 = w) : look l w = none := by
  induction l with
  | nil => rfl
  | cons q r ih =>
    unfold look
    rw [if_neg (h q List.mem_cons_self)]
    exact ih (fun q hq => h q (List.mem_cons_of_mem _ hq))
