/-! SOUNDNESS: calls, returns, and the whole of it -/
def rmD (d mc ms : Nat) : Room := { frames := d + 1, cells := mc, slots := ms, locals := 64 * (d + 1) }
theorem mml_le : ∀ y, mml y ≤ 40 := by
  have h : mms.all (fun k => Nat.ble k 40) = true := by decide +kernel
  intro y
  unfold mml
  rw [List.getD_eq_getElem?_getD]
  cases e : mms[y]? with
  | none => simp
  | some k => exact Nat.le_of_ble_eq_true (List.all_eq_true.mp h k (List.mem_of_getElem? e))
/-- the counts never fall -/
theorem sem_mono {i : aI} {f f2 : aF} {h h2 : aH} (e : sem i f h = some (.inl (f2, h2))) : gN h ≤ gN h2 ∧ gZ h ≤ gZ h2 := by
  have go : ∀ {nx : Nat} {ls st : List Value} {h3 : aH}, ao_go nx ls st h3 = some (.inl (f2, h2)) → h2 = h3 := by
    intro nx ls st h3 q
    cases q
    rfl
  have same : h2 = h → gN h ≤ gN h2 ∧ gZ h ≤ gZ h2 := fun q => by rw [q]; exact ⟨Nat.le_refl _, Nat.le_refl _⟩
  have hM : ∀ k j v, h2 = pM h k j v → gN h ≤ gN h2 ∧ gZ h ≤ gZ h2 := fun k j v q => by rw [q]; exact ⟨Nat.le_refl _, Nat.le_refl _⟩
  have hL : ∀ k j v, h2 = pL h k j v → gN h ≤ gN h2 ∧ gZ h ≤ gZ h2 := fun k j v q => by rw [q]; exact ⟨Nat.le_refl _, Nat.le_refl _⟩
  have hRr : ∀ k j v, h2 = pR h k j v → gN h ≤ gN h2 ∧ gZ h ≤ gZ h2 := fun k j v q => by rw [q]; exact ⟨Nat.le_refl _, Nat.le_refl _⟩
  have hQ : ∀ k v, h2 = pQ h k v → gN h ≤ gN h2 ∧ gZ h ≤ gZ h2 := fun k v q => by rw [q]; exact ⟨Nat.le_refl _, Nat.le_refl _⟩
  have hC : ∀ a b c d n, h2 = pC h a b c d n → gN h ≤ gN h2 ∧ gZ h ≤ gZ h2 := fun a b c d n q => by rw [q]; exact ⟨Nat.le_refl _, Nat.le_refl _⟩
  have hNw : ∀ q z, h2 = pN h q z → gN h ≤ gN h2 ∧ gZ h ≤ gZ h2 := fun q z e => by rw [e]; exact ⟨Nat.le_succ _, Nat.le_add_right _ _⟩
  have hAw : ∀ a b, h2 = pA h a b → gN h ≤ gN h2 ∧ gZ h ≤ gZ h2 := fun a b e => by
    rw [e]
    refine ⟨?_, ?_⟩
    · show gN h ≤ gN h + 1 + a
      omega
    · show gZ h ≤ gZ h + a + a * b
      omega
  obtain ⟨op, nx, a, b, v, ts⟩ := i
  obtain ⟨pc, ls, st⟩ := f
  unfold sem m_ald at e
  dsimp only at e
  split at e
  all_goals (repeat' split at e)
  all_goals first
    | (cases e; done)
    | exact same (go e)
    | exact hM _ _ _ (go e)
    | exact hL _ _ _ (go e)
    | exact hRr _ _ _ (go e)
    | exact hQ _ _ (go e)
    | exact hC _ _ _ _ _ (go e)
    | exact hNw _ _ (go e)
    | exact hAw _ _ (go e)
    | (exact absurd e (by simp))
theorem ev_cnt : ∀ (n d y : Nat) (f : aF) (h : aH) (r : Option Value) (hE : aH), ev n d y f h = some (r, hE) → gN h ≤ gN hE ∧ gZ h ≤ gZ hE := by
  intro n
  induction n with
  | zero => intro d y f h r hE e; simp [ev, evG] at e
  | succ n ih =>
    intro d y f h r hE e
    unfold ev evG at e
    cases hi : ins y f.1 with
    | none => rw [hi] at e; simp at e
    | some i =>
      rw [hi] at e
      simp only at e
      cases hs : sem i f h with
      | none => rw [hs] at e; simp at e
      | some o =>
        rw [hs] at e
        rcases o with ⟨f', h'⟩ | ⟨y', as, f'⟩ | r'
        · have a := sem_mono hs
          have b := ih d y f' h' r hE e
          omega
        · cases d with
          | zero => simp at e
          | succ d =>
            simp only at e
            cases hc : evG ins mml n d y' (0, eLs mml y' as, []) h with
            | none => rw [hc] at e; simp at e
            | some q =>
              obtain ⟨r1, h1⟩ := q
              rw [hc] at e
              have a := ih d y' _ h r1 h1 hc
              have b := ih (d + 1) y _ h1 r hE e
              omega
        · simp only [Option.some.injEq, Prod.mk.injEq] at e
          rw [e.2]
          exact ⟨Nat.le_refl _, Nat.le_refl _⟩
/-- a place at which a method returns r -/
def RetI (y pc : Nat) (r : Option Value) : Prop := match r with
  | some (.int x) => decode (mby y) pc = .ok (.ireturn, 1) ∧ ∃ ty, mrt y = some ty ∧ narrow ty (.int x) = .int x
  | some (.long _) => decode (mby y) pc = .ok (.lreturn, 1) ∧ mrt y = some .long
  | some (.ref _) => decode (mby y) pc = .ok (.areturn, 1) ∧ ∃ n, mrt y = some (.object n)
  | none => decode (mby y) pc = .ok (.return_, 1) ∧ mrt y = none
  | _ => False
theorem sem_ret {i : aI} {y pc : Nat} {ls st : List Value} {h : aH} {r : Option Value} (hk : ckI y pc i = true) (e : sem i (pc, ls, st) h = some (.inr (.inr r))) : RetI y pc r ∧ st = r.toList := by
  obtain ⟨op, nx, a, b, v, ts⟩ := i
  have no : ∀ {nx : Nat} {ls st : List Value} {h3 : aH}, ao_go nx ls st h3 ≠ some (.inr (.inr r)) := by
    intro nx ls st h3 q
    cases q
  by_cases h172 : op = 172
  · subst h172
    simp only [sem] at e
    have hk : ck172 y pc (172, nx, a, b, v, ts) = true := hk
    unfold ck172 at hk
    rw [Bool.and_eq_true] at hk
    obtain ⟨h1, h2⟩ := hk
    have hd := of_decide_eq_true h1
    split at e
    · rename_i x
      split at e
      · rename_i hc
        cases e
        refine ⟨⟨hd, ?_⟩, rfl⟩
        split at h2
        · rename_i e0
          exact ⟨_, e0, rfl⟩
        · rename_i e0
          have h2 : a = 1 := Nat.eq_of_beq_eq_true h2
          subst h2
          refine ⟨_, e0, ?_⟩
          rcases hc with q | ⟨-, q⟩ | ⟨q, -⟩ | ⟨q, -⟩
          · cases q
          · rcases q with q | q <;> rw [q] <;> decide
          · cases q
          · cases q
        · rename_i e0
          have h2 : a = 2 := Nat.eq_of_beq_eq_true h2
          subst h2
          refine ⟨_, e0, ?_⟩
          rcases hc with q | ⟨q, -⟩ | ⟨-, q⟩ | ⟨q, -⟩
          · cases q
          · cases q
          · exact q
          · cases q
        · rename_i e0
          have h2 : a = 3 := Nat.eq_of_beq_eq_true h2
          subst h2
          refine ⟨_, e0, ?_⟩
          rcases hc with q | ⟨q, -⟩ | ⟨q, -⟩ | ⟨-, q⟩
          · cases q
          · cases q
          · cases q
          · exact q
        · cases h2
      · cases e
    · cases e
  · by_cases h173 : op = 173
    · subst h173
      simp only [sem] at e
      have hk : (decide (decode (mby y) pc = .ok (.lreturn, 1)) && decide (mrt y = some .long)) = true := hk
      rw [Bool.and_eq_true] at hk
      split at e
      · cases e
        exact ⟨⟨of_decide_eq_true hk.1, of_decide_eq_true hk.2⟩, rfl⟩
      · cases e
    · by_cases h176 : op = 176
      · subst h176
        simp only [sem] at e
        have hk : (decide (decode (mby y) pc = .ok (.areturn, 1)) && (match mrt y with
          | some (.object _) => true
          | _ => false)) = true := hk
        rw [Bool.and_eq_true] at hk
        split at e
        · cases e
          refine ⟨⟨of_decide_eq_true hk.1, ?_⟩, rfl⟩
          have h2 := hk.2
          split at h2
          · rename_i n e0
            exact ⟨n, e0⟩
          · cases h2
        · cases e
      · by_cases h177 : op = 177
        · subst h177
          simp only [sem] at e
          have hk : (decide (decode (mby y) pc = .ok (.return_, 1)) && decide (mrt y = none)) = true := hk
          rw [Bool.and_eq_true] at hk
          split at e
          · cases e
            exact ⟨⟨of_decide_eq_true hk.1, of_decide_eq_true hk.2⟩, rfl⟩
          · cases e
        · exfalso
          unfold sem m_ald at e
          dsimp only at e
          split at e
          all_goals (repeat' split at e)
          all_goals first
            | (cases e; done)
            | exact no e
            | exact h172 rfl
            | exact h173 rfl
            | exact h176 rfl
            | exact h177 rfl
