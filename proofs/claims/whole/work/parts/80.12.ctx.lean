/-! THE CONCRETE SIDE: what a state holds of an abstract heap -/
abbrev gX : Type := (Nat → ClassId) × (Nat → Nat → Nat) × (Nat → ClassId) × Nat × (Nat → Nat) × Value × Nat × (Nat → Int32)
def xC (G : gX) : Nat → ClassId := G.1
def xI (G : gX) : Nat → Nat → Nat := G.2.1
def xA (G : gX) : Nat → ClassId := G.2.2.1
def xB (G : gX) : Nat := G.2.2.2.1
def xR (G : gX) : Nat → Nat := G.2.2.2.2.1
def xV (G : gX) : Value := G.2.2.2.2.2.1
def xL (G : gX) : Nat := G.2.2.2.2.2.2.1
def xS (G : gX) : Nat → Int32 := G.2.2.2.2.2.2.2
def ga (G : gX) (k : Nat) : Nat := if k < 5 then xR G k else xB G + (k - 5)
def cv (G : gX) : Value → Value
  | .ref k => .ref (ga G k)
  | .retAddr _ => xV G
  | v => v
def AA (G : gX) : Nat → Prop := fun q => xB G ≤ q
def tysG (G : gX) : List (ClassId × FieldType) := [(xA G 1, .int), (xA G 2, .boolean), (xA G 3, .byte), (xA G 4, .long), (xA G 5, .object "ByThePound$Law"), (xA G 6, .array .int)]
def fV (h : aH) (k ci j : Nat) : Value := match fk ci j with
  | 0 => .int (gM h k j)
  | 1 => .int (gM h k j)
  | 2 => rfV (gR h k j)
  | _ => rfV (gQ h k)
def ceB (G : gX) (h : aH) (k : Nat) (q : Nat × Nat) : va_E := match q.1 with
  | 0 => .inr (q.2, (List.range (kN q.2)).map (fun j => cv G (fV h k q.2 j)))
  | 1 => .inl (xA G 1, q.2, .inl (gM h k))
  | 2 => .inl (xA G 2, q.2, .inl (gM h k))
  | 3 => .inl (xA G 3, q.2, .inl (gM h k))
  | 4 => .inl (xA G 4, q.2, .inr (.inl (gL h k)))
  | t => .inl (xA G t, q.2, .inr (.inr (.inr (.inr (fun i => (gR h k i).map (ga G))))))
def ce (G : gX) (h : aH) (k : Nat) : va_E := ceB G h k (gS h k)
def tx0 : String := "price hours worth wet bars thing weight size tied taste want or and not"
def tx1 : String := "#=<>+-*/();"
def RO (G : gX) (h : aH) : Prop := gS h 0 = (7, xL G) ∧ (∀ j, gM h 0 j = xS G j) ∧ gS h 1 = (8, 0) ∧ gS h 2 = (9, 71) ∧ (∀ j, gM h 2 j = (sby.getD 0 []).getD j 0) ∧ gS h 3 = (8, 1) ∧ gS h 4 = (9, 11) ∧ (∀ j, gM h 4 j = (sby.getD 1 []).getD j 0)
def WD (G : gX) (h : aH) (H : Heap) : Prop := H.size = xB G + (gN h - 5) ∧ 5 ≤ gN h ∧ (∀ k, 5 ≤ k → k < gN h → va_at (xC G, xI G) kclL (ga G k, ce G h k) H ∧ (gS h k).1 ≤ 6 ∧ ((gS h k).1 = 0 → (gS h k).2 < 12)) ∧ (∀ k, gN h ≤ k → (gS h k).1 = 99) ∧ RO G h
/-- what is known of a state's tables and of the cells that nobody writes -/
def KS (G : gX) (U : State) (H : Heap) : Prop := va_K (xC G, xI G) kclL (tysG G) U ∧ va_Z "java/lang/String" "COMPACT_STRINGS" "Z" (.int 1) (AA G) U H ∧ va_Z "jdk/internal/util/Preconditions" "SIOOBE_FORMATTER" "Ljava/util/function/BiFunction;" (xV G) (AA G) U H ∧ (xV G = .null ∨ ∃ a, xV G = .ref a) ∧ vk_S 2 slen sby (fun i => xR G (2 * i + 1)) (fun i => xR G (2 * i + 2)) (AA G) U H ∧ vk_R "ByThePound$Tape" 69 tx0 (xR G 1) U ∧ vk_R "ByThePound$Tape" 59 tx1 (xR G 3) U ∧ va_X (xR G 0) (xL G) (xS G) U H ∧ (∀ k, k < 5 → xR G k < xB G) ∧ (∀ q ∈ MNd, va_Nw (.methodLinkNest (onm q.1) q.2.1 (mnm q.2.2.1) "ByThePound") U) ∧ va_AO "ByThePound$Law" U ∧ (Cond.arrayOver (.array .int)).before #[] U = true ∧ xL G < 2 ^ 31 ∧ xB G ≤ H.size
/-- the locals -/
def LRx (G : gX) (ls : List Value) (lc : Array Slot) (nL : Nat) : Prop := lc.size = nL ∧ lv_wf lc ∧ ls.length ≤ nL ∧ (∀ (i : Nat) (v : Value), ls[i]? = some v → okV v = true → lc[i]? = some (Slot.val (cv G v))) ∧ ∀ (i : Nat) (x : Int64), ls[i]? = some (.long x) → ∃ w : UInt64, ls[i + 1]? = some (.double w)
def lP (G : gX) (ls : List Value) : List (Nat × Value) := (List.range ls.length).filterMap (fun i => match ls[i]? with
  | some v => if okV v = true then some (i, cv G v) else none
  | none => none)
theorem lP_in {G : gX} {ls : List Value} {i : Nat} {v : Value} (h : ls[i]? = some v) (ho : okV v = true) : (i, cv G v) ∈ lP G ls := by
  refine List.mem_filterMap.mpr ⟨i, List.mem_range.mpr (List.getElem?_eq_some_iff.mp h).1, ?_⟩
  rw [h]
  simp [ho]
theorem lP_of {G : gX} {ls : List Value} {q : Nat × Value} (h : q ∈ lP G ls) : ∃ v, ls[q.1]? = some v ∧ okV v = true ∧ q.2 = cv G v := by
  obtain ⟨i, -, hi⟩ := List.mem_filterMap.mp h
  cases hl : ls[i]? with
  | none => rw [hl] at hi; simp at hi
  | some v =>
    rw [hl] at hi
    by_cases ho : okV v = true
    · simp only [ho, if_true, Option.some.injEq] at hi
      subst hi
      exact ⟨v, hl, ho, rfl⟩
    · simp [ho] at hi
theorem LRx.has {G : gX} {ls : List Value} {lc : Array Slot} {nL : Nat} (h : LRx G ls lc nL) : lv_has lc nL (lP G ls) := by
  refine ⟨h.1, h.2.1, fun q hq => ?_⟩
  obtain ⟨v, h1, h2, h3⟩ := lP_of hq
  rw [h3]
  exact h.2.2.2.1 _ _ h1 h2
theorem cv_cat (G : gX) (hV : xV G = .null ∨ ∃ a, xV G = .ref a) (v : Value) : (cv G v).category = v.category := by
  cases v <;> simp only [cv, Value.category]
  rcases hV with h | ⟨a, h⟩ <;> rw [h]
theorem stL_s {ls ls' : List Value} {k : Nat} {v : Value} (h : stL ls k v = some ls') : ls' = ls.set k v ∧ ∃ o, ls[k]? = some o ∧ (∀ x, o ≠ .long x) ∧ ∀ x, o ≠ .double x := by
  unfold stL at h
  cases ho : ls[k]? with
  | none => rw [ho] at h; simp at h
  | some o =>
    rw [ho] at h
    cases o <;> simp at h <;> exact ⟨h.symm, _, rfl, by intro x; simp, by intro x; simp⟩
theorem LR_st1 {G : gX} (hV : xV G = .null ∨ ∃ a, xV G = .ref a) {ls ls' : List Value} {lc lc' : Array Slot} {nL k : Nat} {v : Value} (h : LRx G ls lc nL) (hs : stL ls k v = some ls') (hc : ∀ x, v ≠ .long x) (h' : lv_has lc' nL ((k, cv G v) :: (lP G ls).filter (fun q => !(q.1 == k) && !(q.1 + 1 == k && q.2.category == 2)))) : LRx G ls' lc' nL := by
  obtain ⟨e, o, ho, hl, hd⟩ := stL_s hs
  subst e
  obtain ⟨q1, q2, q3, q4, q5⟩ := h
  have hk : k < ls.length := (List.getElem?_eq_some_iff.mp ho).1
  refine ⟨h'.1, h'.2.1, by rw [List.length_set]; exact q3, fun i w hi hw => ?_, fun i x hi => ?_⟩
  · by_cases e : i = k
    · subst e
      rw [List.getElem?_set_self hk] at hi
      cases hi
      exact h'.2.2 (i, cv G v) List.mem_cons_self
    · rw [List.getElem?_set_ne (Ne.symm e)] at hi
      refine h'.2.2 (i, cv G w) (List.mem_cons_of_mem _ (List.mem_filter.mpr ⟨lP_in hi hw, ?_⟩))
      have e1 : (i == k) = false := by simp [e]
      simp only [e1, Bool.not_false, Bool.true_and, Bool.not_eq_true', Bool.and_eq_false_iff]
      by_cases e2 : i + 1 = k
      · right
        rw [cv_cat G hV]
        cases w with
        | long x =>
          obtain ⟨z, hz⟩ := q5 i x hi
          rw [e2, ho] at hz
          exact absurd (Option.some.inj hz) (hd z)
        | double x => simp [okV] at hw
        | _ => simp [Value.category]
      · left
        simp [e2]
  · by_cases e : i = k
    · subst e
      rw [List.getElem?_set_self hk] at hi
      exact absurd (Option.some.inj hi) (hc x)
    · rw [List.getElem?_set_ne (Ne.symm e)] at hi
      obtain ⟨z, hz⟩ := q5 i x hi
      refine ⟨z, ?_⟩
      have e2 : i + 1 ≠ k := fun e2 => by
        rw [e2, ho] at hz
        exact hd z (Option.some.inj hz)
      rw [List.getElem?_set_ne (Ne.symm e2)]
      exact hz
theorem stJ_s {ls ls' : List Value} {k : Nat} {v : Int64} (h : stJ ls k v = some ls') : ls' = (ls.set k (.long v)).set (k + 1) (.double 0) ∧ k + 1 < ls.length ∧ (∀ w, ls[k]? ≠ some (.double w)) ∧ ∀ x, ls[k + 1]? ≠ some (.long x) := by
  unfold stJ at h
  cases h1 : ls[k]? with
  | none => rw [h1] at h; simp at h
  | some o =>
    cases h2 : ls[k + 1]? with
    | none => rw [h1, h2] at h; cases o <;> simp at h
    | some o2 =>
      have hl := (List.getElem?_eq_some_iff.mp h2).1
      rw [h1, h2] at h
      cases o <;> cases o2 <;> simp at h <;> exact ⟨h.symm, hl, by intro w; simp, by intro x; simp⟩
theorem LR_st2 {G : gX} (hV : xV G = .null ∨ ∃ a, xV G = .ref a) {ls ls' : List Value} {lc lc' : Array Slot} {nL k : Nat} {v : Int64} (h : LRx G ls lc nL) (hs : stJ ls k v = some ls') (h' : lv_has lc' nL ((k, .long v) :: (lP G ls).filter (fun q => !(q.1 == k) && (!(q.1 == k + 1) && !(q.1 + 1 == k && q.2.category == 2))))) : LRx G ls' lc' nL := by
  obtain ⟨e, hk, hd, hn⟩ := stJ_s hs
  subst e
  obtain ⟨q1, q2, q3, q4, q5⟩ := h
  refine ⟨h'.1, h'.2.1, by rw [List.length_set, List.length_set]; exact q3, fun i w hi hw => ?_, fun i x hi => ?_⟩
  · by_cases e1 : i = k + 1
    · subst e1
      rw [List.getElem?_set_self (by rw [List.length_set]; exact hk)] at hi
      cases hi
      simp [okV] at hw
    · rw [List.getElem?_set_ne (Ne.symm e1)] at hi
      by_cases e : i = k
      · subst e
        rw [List.getElem?_set_self (by omega)] at hi
        cases hi
        exact h'.2.2 (i, .long v) List.mem_cons_self
      · rw [List.getElem?_set_ne (Ne.symm e)] at hi
        refine h'.2.2 (i, cv G w) (List.mem_cons_of_mem _ (List.mem_filter.mpr ⟨lP_in hi hw, ?_⟩))
        have a1 : (i == k) = false := by simp [e]
        have a2 : (i == k + 1) = false := by simp [e1]
        simp only [a1, a2, Bool.not_false, Bool.true_and, Bool.not_eq_true', Bool.and_eq_false_iff]
        by_cases e2 : i + 1 = k
        · right
          rw [cv_cat G hV]
          cases w with
          | long x =>
            obtain ⟨z, hz⟩ := q5 i x hi
            rw [e2] at hz
            exact absurd hz (hd z)
          | double x => simp [okV] at hw
          | _ => simp [Value.category]
        · left
          simp [e2]
  · by_cases e1 : i = k + 1
    · subst e1
      rw [List.getElem?_set_self (by rw [List.length_set]; exact hk)] at hi
      cases hi
    · rw [List.getElem?_set_ne (Ne.symm e1)] at hi
      by_cases e : i = k
      · subst e
        exact ⟨0, List.getElem?_set_self (by rw [List.length_set]; exact hk)⟩
      · rw [List.getElem?_set_ne (Ne.symm e)] at hi
        obtain ⟨z, hz⟩ := q5 i x hi
        refine ⟨z, ?_⟩
        rw [List.getElem?_set_ne (by omega)]
        by_cases e2 : i + 1 = k
        · rw [e2] at hz
          exact absurd hz (hd z)
        · rw [List.getElem?_set_ne (Ne.symm e2)]
          exact hz
/-- a method's first locals, as a list -/
def fl0 : List Value → List Value
  | [] => []
  | .long v :: r => .long v :: .double 0 :: fl0 r
  | .double v :: r => .double v :: .double 0 :: fl0 r
  | v :: r => v :: fl0 r
theorem aJ_eq : ∀ (as ls : List Value), aJ ls as = ls ++ fl0 as
  | [], ls => by simp [aJ, fl0]
  | v :: r, ls => by
    cases v <;> simp [aJ, fl0, aJ_eq r]
theorem fl0_in {G : gX} (hV : xV G = .null ∨ ∃ a, xV G = .ref a) : ∀ (as : List Value) (n i : Nat) (v : Value), (fl0 as)[i]? = some v → okV v = true → (n + i, cv G v) ∈ lv_args n (as.map (cv G))
  | [], n, i, v, h, _ => by simp [fl0] at h
  | a :: r, n, i, v, h, ho => by
    have key : ∀ (w : Value), w.category = 2 → fl0 (a :: r) = w :: .double 0 :: fl0 r → w = a → (n + i, cv G v) ∈ lv_args n ((a :: r).map (cv G)) := by
      intro w hw e ew
      rw [e] at h
      rw [List.map_cons, lv_args, cv_cat G hV, ← ew, hw, if_pos rfl]
      match i, h with
      | 0, h =>
        simp only [List.getElem?_cons_zero, Option.some.injEq] at h
        subst h
        exact List.mem_cons_self
      | 1, h =>
        simp only [List.getElem?_cons_succ, List.getElem?_cons_zero, Option.some.injEq] at h
        subst h
        simp [okV] at ho
      | i + 2, h =>
        simp only [List.getElem?_cons_succ] at h
        refine List.mem_cons_of_mem _ ?_
        have := fl0_in hV r (n + 2) i v h ho
        rw [show n + (i + 2) = n + 2 + i by omega]
        exact this
    have key1 : a.category = 1 → fl0 (a :: r) = a :: fl0 r → (n + i, cv G v) ∈ lv_args n ((a :: r).map (cv G)) := by
      intro hw e
      rw [e] at h
      rw [List.map_cons, lv_args, cv_cat G hV, hw, if_neg (by decide)]
      match i, h with
      | 0, h =>
        simp only [List.getElem?_cons_zero, Option.some.injEq] at h
        subst h
        exact List.mem_cons_self
      | i + 1, h =>
        simp only [List.getElem?_cons_succ] at h
        refine List.mem_cons_of_mem _ ?_
        have := fl0_in hV r (n + 1) i v h ho
        rw [show n + (i + 1) = n + 1 + i by omega]
        exact this
    cases a with
    | long x => exact key (.long x) rfl rfl rfl
    | double x => exact key (.double x) rfl rfl rfl
    | int x => exact key1 rfl rfl
    | float x => exact key1 rfl rfl
    | null => exact key1 rfl rfl
    | ref x => exact key1 rfl rfl
    | retAddr x => exact key1 rfl rfl
theorem fl0_long : ∀ (as : List Value) (i : Nat) (x : Int64), (fl0 as)[i]? = some (.long x) → ∃ w, (fl0 as)[i + 1]? = some (.double w)
  | [], i, x, h => by simp [fl0] at h
  | a :: r, i, x, h => by
    have key : ∀ (w : Value), fl0 (a :: r) = w :: .double 0 :: fl0 r → ∃ w, (fl0 (a :: r))[i + 1]? = some (.double w) := by
      intro w e
      rw [e] at h ⊢
      match i, h with
      | 0, h => exact ⟨0, rfl⟩
      | 1, h => simp at h
      | i + 2, h => exact fl0_long r i x (by simpa using h)
    have key1 : (∀ x, a ≠ .long x) → fl0 (a :: r) = a :: fl0 r → ∃ w, (fl0 (a :: r))[i + 1]? = some (.double w) := by
      intro hn e
      rw [e] at h ⊢
      match i, h with
      | 0, h =>
        simp only [List.getElem?_cons_zero, Option.some.injEq] at h
        exact absurd h (hn x)
      | i + 1, h => exact fl0_long r i x (by simpa using h)
    cases a with
    | long x => exact key (.long x) rfl
    | double x => exact key (.double x) rfl
    | int x => exact key1 (by intro x; simp) rfl
    | float x => exact key1 (by intro x; simp) rfl
    | null => exact key1 (by intro x; simp) rfl
    | ref x => exact key1 (by intro x; simp) rfl
    | retAddr x => exact key1 (by intro x; simp) rfl
theorem sl_len {G : gX} (hV : xV G = .null ∨ ∃ a, xV G = .ref a) : ∀ (as : List Value), (lg_sl (as.map (cv G))).length = (fl0 as).length
  | [] => rfl
  | a :: r => by
    have ih := sl_len hV r
    have e : lg_sl ((a :: r).map (cv G)) = (if (cv G a).category = 2 then [.val (cv G a), .second] else [.val (cv G a)]) ++ lg_sl (r.map (cv G)) := by
      simp [lg_sl]
    rw [e, List.length_append, ih, cv_cat G hV]
    cases a <;> simp [Value.category, fl0] <;> omega
theorem LR_entry {G : gX} (hV : xV G = .null ∨ ∃ a, xV G = .ref a) (y : Nat) (as : List Value) (h : (fl0 as).length ≤ mml y) : LRx G (eLs mml y as) ((lg_sl (as.map (cv G)) ++ List.replicate (mml y - (lg_sl (as.map (cv G))).length) Slot.unset).toArray) (mml y) := by
  have h0 := lv_entry (as.map (cv G)) (n := mml y) (by rw [sl_len hV]; exact h)
  have e : eLs mml y as = fl0 as ++ List.replicate (mml y - (fl0 as).length) (.float 0) := by
    simp [eLs, aJ_eq]
  rw [e]
  refine ⟨h0.1, h0.2.1, by simp; omega, fun i v hi ho => ?_, fun i x hi => ?_⟩
  · by_cases hl : i < (fl0 as).length
    · rw [List.getElem?_append_left hl] at hi
      have := fl0_in hV as 0 i v hi ho
      rw [Nat.zero_add] at this
      exact h0.2.2 _ this
    · rw [List.getElem?_append_right (by omega)] at hi
      rw [List.getElem?_replicate] at hi
      split at hi
      · cases hi
        simp [okV] at ho
      · simp at hi
  · by_cases hl : i < (fl0 as).length
    · rw [List.getElem?_append_left hl] at hi
      obtain ⟨w, hw⟩ := fl0_long as i x hi
      exact ⟨w, by rw [List.getElem?_append_left (List.getElem?_eq_some_iff.mp hw).1]; exact hw⟩
    · rw [List.getElem?_append_right (by omega)] at hi
      rw [List.getElem?_replicate] at hi
      split at hi <;> simp at hi
