/-! Wp: the abstract machine comes from here to a return with Q -/
def ev (n d y : Nat) (f : aF) (h : aH) : Option (Option Value × aH) := evG ins mml n d y f h
def Wp (d y pc : Nat) (ls st : List Value) (h : aH) (Q : Option Value → aH → Prop) : Prop := ∃ n r h', ev n d y (pc, ls, st) h = some (r, h') ∧ Q r h'
def Kt (d y pc : Nat) (ls st : List Value) (Q : Option Value → aH → Prop) : Option Value → aH → Prop := fun r h => Wp d y pc ls (r.toList ++ st) h Q
theorem ev_mono : ∀ (n d y : Nat) (f : aF) (h : aH) (x : Option Value × aH), ev n d y f h = some x → ∀ k, ev (n + k) d y f h = some x := by
  intro n
  induction n with
  | zero => intro d y f h x e; simp [ev, evG] at e
  | succ n ih =>
    intro d y f h x e k
    rw [show n + 1 + k = (n + k) + 1 by omega]
    unfold ev evG at e ⊢
    cases hi : ins y f.1 with
    | none => rw [hi] at e; simp at e
    | some i =>
      rw [hi] at e
      simp only at e ⊢
      cases hs : sem i f h with
      | none => rw [hs] at e; simp at e
      | some o =>
        rw [hs] at e
        rcases o with ⟨f', h'⟩ | ⟨y', as, f'⟩ | r
        · exact ih d y f' h' x e k
        · cases d with
          | zero => simp at e
          | succ d =>
            simp only at e ⊢
            cases hc : evG ins mml n d y' (0, eLs mml y' as, []) h with
            | none => rw [hc] at e; simp at e
            | some q =>
              obtain ⟨r, h1⟩ := q
              rw [hc] at e
              have h2 := ih d y' _ h _ hc k
              unfold ev at h2
              rw [h2]
              exact ih (d + 1) y _ h1 x e k
        · exact e
theorem wp_go {d y pc : Nat} {ls st : List Value} {h : aH} {Q : Option Value → aH → Prop} {i : aI} {pc' : Nat} {ls' st' : List Value} {h' : aH} (hi : ins y pc = some i) (hs : sem i (pc, ls, st) h = some (.inl ((pc', ls', st'), h'))) : Wp d y pc ls st h Q = Wp d y pc' ls' st' h' Q := by
  apply propext
  constructor
  · rintro ⟨n, r, h1, e, q⟩
    cases n with
    | zero => simp [ev, evG] at e
    | succ n =>
      refine ⟨n, r, h1, ?_, q⟩
      unfold ev evG at e
      rw [hi] at e
      simp only [hs] at e
      exact e
  · rintro ⟨n, r, h1, e, q⟩
    refine ⟨n + 1, r, h1, ?_, q⟩
    unfold ev evG
    rw [hi]
    simp only [hs]
    exact e
theorem wp_no {d y pc : Nat} {ls st : List Value} {h : aH} {Q : Option Value → aH → Prop} {i : aI} (hi : ins y pc = some i) (hs : sem i (pc, ls, st) h = none) : Wp d y pc ls st h Q = False := by
  apply propext
  refine ⟨?_, False.elim⟩
  rintro ⟨n, r, h1, e, q⟩
  cases n with
  | zero => simp [ev, evG] at e
  | succ n =>
    unfold ev evG at e
    rw [hi] at e
    simp [hs] at e
theorem wp_rt {d y pc : Nat} {ls st : List Value} {h : aH} {Q : Option Value → aH → Prop} {i : aI} {r : Option Value} (hi : ins y pc = some i) (hs : sem i (pc, ls, st) h = some (.inr (.inr r))) : Wp d y pc ls st h Q = Q r h := by
  apply propext
  constructor
  · rintro ⟨n, r1, h1, e, q⟩
    cases n with
    | zero => simp [ev, evG] at e
    | succ n =>
      unfold ev evG at e
      rw [hi] at e
      simp only [hs, Option.some.injEq, Prod.mk.injEq] at e
      obtain ⟨rfl, rfl⟩ := e
      exact q
  · intro q
    refine ⟨1, r, h, ?_, q⟩
    unfold ev evG
    rw [hi]
    simp only [hs]
theorem wp_cl {d y pc : Nat} {ls st : List Value} {h : aH} {Q : Option Value → aH → Prop} {i : aI} {y' : Nat} {as : List Value} {pc' : Nat} {ls' st' : List Value} (hi : ins y pc = some i) (hs : sem i (pc, ls, st) h = some (.inr (.inl (y', as, (pc', ls', st'))))) : Wp (d + 1) y pc ls st h Q = Wp d y' 0 (eLs mml y' as) [] h (Kt (d + 1) y pc' ls' st' Q) := by
  apply propext
  constructor
  · rintro ⟨n, r, h1, e, q⟩
    cases n with
    | zero => simp [ev, evG] at e
    | succ n =>
      unfold ev evG at e
      rw [hi] at e
      simp only [hs] at e
      cases hc : evG ins mml n d y' (0, eLs mml y' as, []) h with
      | none => rw [hc] at e; simp at e
      | some x =>
        obtain ⟨r2, h2⟩ := x
        rw [hc] at e
        exact ⟨n, r2, h2, hc, n, r, h1, e, q⟩
  · rintro ⟨n, r2, h2, e, k, r, h1, e2, q⟩
    refine ⟨n + k + 1, r, h1, ?_, q⟩
    unfold ev evG
    rw [hi]
    simp only [hs]
    have a := ev_mono n d y' _ h _ e k
    have b := ev_mono k (d + 1) y _ h2 _ e2 n
    rw [Nat.add_comm k n] at b
    unfold ev at a b
    rw [a]
    exact b
theorem Kt_s (d y pc : Nat) (ls st : List Value) (Q : Option Value → aH → Prop) (v : Value) (h : aH) : Kt d y pc ls st Q (some v) h = Wp d y pc ls (v :: st) h Q := rfl
theorem Kt_n (d y pc : Nat) (ls st : List Value) (Q : Option Value → aH → Prop) (h : aH) : Kt d y pc ls st Q none h = Wp d y pc ls st h Q := rfl
theorem Wp.to {d y pc : Nat} {ls st : List Value} {h : aH} {Q Q' : Option Value → aH → Prop} (w : Wp d y pc ls st h Q) (k : ∀ r h', Q r h' → Q' r h') : Wp d y pc ls st h Q' := by
  obtain ⟨n, r, h', e, q⟩ := w
  exact ⟨n, r, h', e, k r h' q⟩
