/-! SOUNDNESS: the whole: what ev says, the machine does -/
theorem ret_at {G : gX} {p : Program} {l : Launch} {e : Env} {R : Room} {s : State} {m : MethodId} {args : Array Value} {below : List Frame} {meth : Method} {c : Code} {y : Nat} (C : Cx G p R s m args meth c y) {n0 z0 : Nat} {hE : aH} {r : Option Value} {pcr : Nat} {lsr : List Value} (hr : RetI y pcr r) : Atx G p l e R s m args below meth c (MQ below (QcD G hE r) args s (gN hE - n0) (gZ hE - z0) (AA G)) y n0 z0 hE pcr lsr r.toList := by
  obtain ⟨hx, hb, -, -, -, hrt, hlk, -⟩ := C
  intro H locs lc hw hS hL
  have hq : ∀ t : State, t.heap = H → s.WarmedH t.vm → QcD G hE r args s (.returned (r.map (cv G))) t := fun t ht _ => ⟨rfl, by rw [ht]; exact hw, by rw [ht]; exact hS.1, fun q h1 h2 => by rw [ht]; exact hS.2.1 q h1 h2⟩
  have hf : ∀ q ∈ locs, AA G q.base := hS.2.2
  cases r with
  | none =>
    obtain ⟨hd, hm⟩ := hr
    rw [hm] at hrt
    exact W.vret hx hb hrt hq hf hd hlk
  | some v =>
    cases v with
    | int x =>
      obtain ⟨hd, ty, hm, hn⟩ := hr
      rw [hm] at hrt
      exact W.zret hx hb hrt hn hq hf hd hlk
    | long x =>
      obtain ⟨hd, hm⟩ := hr
      rw [hm] at hrt
      exact W.lret hx hb hrt hq hf hd hlk
    | ref x =>
      obtain ⟨hd, n, hm⟩ := hr
      rw [hm] at hrt
      exact W.aret hx hb hrt (Or.inl ⟨n, rfl⟩) (Or.inr ⟨ga G x, rfl⟩) hq hf hd hlk
    | _ => exact absurd hr (by simp [RetI])
theorem snd_main (G : gX) (l : Launch) : ∀ (n d y pc : Nat) (ls st : List Value) (h : aH) (r : Option Value) (hE : aH), ev n d y (pc, ls, st) h = some (r, hE) → ∀ (p : Program) (e : Env) (R : Room) (s : State) (m : MethodId) (args : Array Value) (below : List Frame) (meth : Method) (c : Code) (Q : State → Prop) (n0 z0 : Nat), Cx G p R s m args meth c y → d + 1 ≤ R.frames → 64 * (d + 1) ≤ R.locals → (n0 ≤ gN h ∧ z0 ≤ gZ h) → (gN hE - n0 ≤ R.cells ∧ gZ hE - z0 ≤ R.slots) → (∀ pcr lsr, RetI y pcr r → Atx G p l e R s m args below meth c Q y n0 z0 hE pcr lsr r.toList) → Atx G p l e R s m args below meth c Q y n0 z0 h pc ls st := by
  intro n
  induction n with
  | zero => intro d y pc ls st h r hE e; simp [ev, evG] at e
  | succ n ih =>
    intro d y pc ls st h r hE e0 p e R s m args below meth c Q n0 z0 C hd1 hd2 h0 hR hret
    have hcE := ev_cnt _ _ _ _ _ _ _ e0
    unfold ev evG at e0
    cases hi : ins y pc with
    | none => rw [hi] at e0; simp at e0
    | some i =>
      have hk := ins_ck hi
      simp only [hi] at e0
      cases hs : sem i (pc, ls, st) h with
      | none => rw [hs] at e0; simp at e0
      | some o =>
        rw [hs] at e0
        rcases o with ⟨⟨pc2, ls2, st2⟩, h2⟩ | ⟨y2, as, pc3, ls3, st3⟩ | r'
        · have e1 : ev n d y (pc2, ls2, st2) h2 = some (r, hE) := e0
          have hm := sem_mono hs
          have hm2 := ev_cnt _ _ _ _ _ _ _ e1
          exact A_step C h0 (by omega) hk hs (ih d y pc2 ls2 st2 h2 r hE e1 p e R s m args below meth c Q n0 z0 C hd1 hd2 (by omega) hR hret)
        · cases d with
          | zero => simp at e0
          | succ d =>
            simp only at e0
            cases hc : evG ins mml n d y2 (0, eLs mml y2 as, []) h with
            | none => rw [hc] at e0; simp at e0
            | some q =>
              obtain ⟨r1, h1⟩ := q
              rw [hc] at e0
              have ec : ev n d y2 (0, eLs mml y2 as, []) h = some (r1, h1) := hc
              have e1 : ev n (d + 1) y (pc3, ls3, r1.toList ++ st3) h1 = some (r, hE) := e0
              have hm := ev_cnt _ _ _ _ _ _ _ ec
              have hm2 := ev_cnt _ _ _ _ _ _ _ e1
              obtain ⟨hop, hy2, hlen⟩ := sem_call hs
              have hV := Cx.V C
              have K := ih (d + 1) y pc3 ls3 (r1.toList ++ st3) h1 r hE e1 p e R s m args below meth c Q n0 z0 C hd1 hd2 (by omega) hR hret
              obtain ⟨op, nx, a, b, v, ts⟩ := i
              have hY : 0 < y2 ∧ y2 < 270 ∧ (fl0 as).length ≤ mml y2 := by
                have hYk : ckY y (op, nx, a, b, v, ts) = true := by
                  rcases hop with q | q | q | q <;> (simp only at q; subst q)
                  · have hk2 : ck182 y pc (182, nx, a, b, v, ts) = true := hk
                    unfold ck182 at hk2
                    exact (Bool.and_eq_true_iff.mp hk2).1
                  · have hk2 : ck1182 y pc (1182, nx, a, b, v, ts) = true := hk
                    unfold ck1182 at hk2
                    exact (Bool.and_eq_true_iff.mp hk2).1
                  · have hk2 : ck2182 y pc (2182, nx, a, b, v, ts) = true := hk
                    unfold ck2182 at hk2
                    exact (Bool.and_eq_true_iff.mp hk2).1
                  · have hk2 : ck3182 y pc (3182, nx, a, b, v, ts) = true := hk
                    unfold ck3182 at hk2
                    exact (Bool.and_eq_true_iff.mp hk2).1
                obtain ⟨q1, q2, q3⟩ := ckY_s hYk
                simp only at q1 q2 q3 hy2 hlen
                subst hy2
                refine ⟨q1, q2, ?_⟩
                rw [aJ_eq, List.nil_append, q3] at hlen
                simpa using hlen
              obtain ⟨y1, y3, hfl⟩ := hY
              have hM : Met l (mnm y2) (mW y2) (rmD d (gN h1 - gN h) (gZ h1 - gZ h)) (PcD G as h) (QcD G h1 r1) (gN h1 - gN h) (gZ h1 - gZ h) (AA G) := by
                refine Met.ofW (cc := mby y2) (maxL := mml y2) (ret := mrt y2) (o_ok _ (my_lt y2 y3).2).1 rfl ?_
                intro p' e' s' m' args' below' meth' c' s₁ B hml hP
                obtain ⟨ea, hKS, hWD⟩ := hP
                subst ea
                have hts := atoms_spec (ws := mW y2) B.pre
                have C' : Cx G p' (headSpec (mW y2) (rmD d (gN h1 - gN h) (gZ h1 - gZ h))).room s' m' (as.map (cv G)).toArray meth' c' y2 := ⟨B.exec, B.bytes, hml, findClass_of_methodNamed B.named, fun w hw => hts w (List.mem_cons_of_mem _ hw), B.returns, B.notSynchronized, (name_of_methodNamed B.named B.method).1, hKS, y3, by show 1 ≤ d + 1; omega, by show 32 ≤ 64 * (d + 1); omega⟩
                rw [lg_entry_eq]
                have W1 := ih d y2 0 (eLs mml y2 as) [] h r1 h1 ec p' e' _ s' m' _ below' meth' c' (MQ below' (QcD G h1 r1) (as.map (cv G)).toArray s' (gN h1 - gN h) (gZ h1 - gZ h) (AA G)) (gN h) (gZ h) C' (Nat.le_refl _) (Nat.le_refl _) ⟨Nat.le_refl _, Nat.le_refl _⟩ ⟨Nat.le_refl _, Nat.le_refl _⟩ (fun pcr lsr hr => ret_at C' hr) s'.heap [] _ hWD va_S.rf (LR_entry hV y2 as hfl)
                rw [Nat.sub_self, Nat.sub_self] at W1
                exact W1
              simp only at hop hy2
              rcases hop with q | q | q | q
              · subst q
                exact A_182 (i := (182, nx, a, b, v, ts)) C hd1 hd2 h0 hm (by omega) hk hs hM K
              · subst q
                exact A_1182 C hd1 hd2 h0 hm (by omega) hk hs hM K
              · subst q
                exact A_2182 C hd1 hd2 h0 hm (by omega) hk hs hM K
              · subst q
                exact A_3182 C hd1 hd2 h0 hm (by omega) hk hs hM K
        · simp only [Option.some.injEq, Prod.mk.injEq] at e0
          obtain ⟨er, eh⟩ := e0
          subst er
          subst eh
          obtain ⟨hri, est⟩ := sem_ret hk hs
          rw [est]
          exact hret pc ls hri
