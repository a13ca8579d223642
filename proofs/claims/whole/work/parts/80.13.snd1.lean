/-! SOUNDNESS, an operation at a time: what the abstract machine does, the machine does -/
def Cx (G : gX) (p : Program) (R : Room) (s : State) (m : MethodId) (args : Array Value) (meth : Method) (c : Code) (y : Nat) : Prop := p.tables.exec = Jvm.exec ∧ c.code = mby y ∧ c.maxLocals = mml y ∧ s.vm.findClass (onm (mow y)) = some m.cls ∧ (∀ w ∈ wAll, w.before args s = true) ∧ meth.sig.returnType = mrt y ∧ meth.locks = false ∧ meth.name = (mnm y).name ∧ KS G s s.heap ∧ y < 270 ∧ 1 ≤ R.frames ∧ 32 ≤ R.locals
def Atx (G : gX) (p : Program) (l : Launch) (e : Env) (R : Room) (s : State) (m : MethodId) (args : Array Value) (below : List Frame) (meth : Method) (c : Code) (Q : State → Prop) (y n0 z0 : Nat) (h : aH) (pc : Nat) (ls st : List Value) : Prop := ∀ (H : Heap) (locs : List Loc) (lc : Array Slot), WD G h H → va_S (AA G) s.heap H locs → LRx G ls lc (mml y) → W p l e R s m args below meth c H locs (gN h - n0) (gZ h - z0) Q (F0 m pc lc (st.map (cv G)))
section SND1
variable {G : gX} {p : Program} {l : Launch} {e : Env} {R : Room} {s : State} {m : MethodId} {args : Array Value} {below : List Frame} {meth : Method} {c : Code} {Q : State → Prop} {y n0 z0 : Nat}
variable {pc nx a b pc2 : Nat} {v : Int} {ts : List (Int × Nat)} {ls ls2 st st2 : List Value} {h h2 : aH}
theorem Cx.V (C : Cx G p R s m args meth c y) : xV G = .null ∨ ∃ a, xV G = .ref a := by
  obtain ⟨-, -, -, -, -, -, -, -, K, -⟩ := C
  exact K.2.2.2.1
theorem go_s {ls st : List Value} {h : aH} {o : aO} (e : ao_go nx ls st h = some o) : o = .inl ((nx, ls, st), h) := (Option.some.inj e).symm
theorem A_1 (C : Cx G p R s m args meth c y) (hk : ckI y pc (1, nx, a, b, v, ts) = true) (hs : sem (1, nx, a, b, v, ts) (pc, ls, st) h = some (.inl ((pc2, ls2, st2), h2))) (k : Atx G p l e R s m args below meth c Q y n0 z0 h2 pc2 ls2 st2) : Atx G p l e R s m args below meth c Q y n0 z0 h pc ls st := by
  obtain ⟨hx, hb, -⟩ := C
  obtain ⟨hd, hn⟩ := dk_s (show dk y pc .aconst_null _ = true from hk)
  cases hn
  cases hs
  intro H locs lc hw hS hL
  exact lv_null hx hb hd (k H locs lc hw hS hL)
theorem A_2 (C : Cx G p R s m args meth c y) (hk : ckI y pc (2, nx, a, b, v, ts) = true) (hs : sem (2, nx, a, b, v, ts) (pc, ls, st) h = some (.inl ((pc2, ls2, st2), h2))) (k : Atx G p l e R s m args below meth c Q y n0 z0 h2 pc2 ls2 st2) : Atx G p l e R s m args below meth c Q y n0 z0 h pc ls st := by
  obtain ⟨hx, hb, -⟩ := C
  obtain ⟨hd, hn⟩ := dk_s (show dk y pc (binC a) _ = true from hk)
  cases hn
  simp only [sem] at hs
  split at hs
  · rename_i z x r
    split at hs
    · rename_i w hw0
      cases hs
      intro H locs lc hw hS hL
      have K := k H locs lc hw hS hL
      unfold binI at hw0
      split at hw0
      · cases hw0; exact lv_iadd hx hb hd K
      · cases hw0; exact lv_isub hx hb hd K
      · cases hw0; exact lv_imul hx hb hd K
      · split at hw0
        · cases hw0
        · rename_i hz
          cases hw0; exact lv_idiv hx hb hd hz K
      · split at hw0
        · cases hw0
        · rename_i hz
          cases hw0; exact lv_irem hx hb hd hz K
      · cases hw0; exact lv_ishl hx hb hd K
      · cases hw0; exact lv_ishr hx hb hd K
      · cases hw0; exact lv_iand hx hb hd K
      · cases hw0; exact lv_ior hx hb hd K
      · cases hw0
    · cases hs
  · cases hs
theorem A_3 (C : Cx G p R s m args meth c y) (hk : ckI y pc (3, nx, a, b, v, ts) = true) (hs : sem (3, nx, a, b, v, ts) (pc, ls, st) h = some (.inl ((pc2, ls2, st2), h2))) (k : Atx G p l e R s m args below meth c Q y n0 z0 h2 pc2 ls2 st2) : Atx G p l e R s m args below meth c Q y n0 z0 h pc ls st := by
  obtain ⟨hx, hb, -⟩ := C
  obtain ⟨hd, hn⟩ := dk_s (show dk y pc (binCJ a) _ = true from hk)
  cases hn
  simp only [sem] at hs
  split at hs
  · rename_i z x r
    split at hs
    · rename_i w hw0
      cases hs
      intro H locs lc hw hS hL
      have K := k H locs lc hw hS hL
      unfold binJ at hw0
      split at hw0
      · cases hw0; exact lv_ladd hx hb hd K
      · cases hw0; exact lv_lsub hx hb hd K
      · cases hw0; exact lv_lmul hx hb hd K
      · split at hw0
        · cases hw0
        · rename_i hz
          cases hw0; exact lv_ldiv hx hb hd hz K
      · cases hw0
    · cases hs
  · cases hs
theorem A_4 (C : Cx G p R s m args meth c y) (hk : ckI y pc (4, nx, a, b, v, ts) = true) (hs : sem (4, nx, a, b, v, ts) (pc, ls, st) h = some (.inl ((pc2, ls2, st2), h2))) (k : Atx G p l e R s m args below meth c Q y n0 z0 h2 pc2 ls2 st2) : Atx G p l e R s m args below meth c Q y n0 z0 h pc ls st := by
  obtain ⟨hx, hb, -⟩ := C
  obtain ⟨hd, hn⟩ := dk_s (show dk y pc (unC a) _ = true from hk)
  cases hn
  simp only [sem] at hs
  split at hs
  · rename_i x r
    split at hs
    · rename_i w hw0
      cases hs
      intro H locs lc hw hS hL
      have K := k H locs lc hw hS hL
      unfold unI at hw0
      split at hw0
      · cases hw0; exact lv_ineg hx hb hd K
      · cases hw0; exact lv_i2b hx hb hd rfl K
      · cases hw0; exact lv_i2c hx hb hd rfl K
      · cases hw0
    · cases hs
  · cases hs
theorem A_18 (C : Cx G p R s m args meth c y) (hk : ckI y pc (18, nx, a, b, v, ts) = true) (hs : sem (18, nx, a, b, v, ts) (pc, ls, st) h = some (.inl ((pc2, ls2, st2), h2))) (k : Atx G p l e R s m args below meth c Q y n0 z0 h2 pc2 ls2 st2) : Atx G p l e R s m args below meth c Q y n0 z0 h pc ls st := by
  obtain ⟨hx, hb, -, ho, ht, -⟩ := C
  cases hs
  intro H locs lc hw hS hL
  have K := k H locs lc hw hS hL
  have hk : ck18 y pc (18, nx, a, b, v, ts) = true := hk
  unfold ck18 at hk
  split at hk
  · rename_i hd
    rw [Bool.and_eq_true] at hk
    cases nxk_s hk.1
    exact lv_iconst hx hb hd (of_decide_eq_true hk.2) K
  · rename_i hd
    rw [Bool.and_eq_true] at hk
    cases nxk_s hk.1
    exact lv_bipush hx hb hd (of_decide_eq_true hk.2) K
  · rename_i hd
    rw [Bool.and_eq_true] at hk
    cases nxk_s hk.1
    exact lv_sipush hx hb hd (of_decide_eq_true hk.2) K
  · rename_i hd
    rw [Bool.and_eq_true] at hk
    cases nxk_s hk.1
    exact lv_ldc hx hb ho (ht _ (wAll_in (inKI_w hk.2) rfl)) hd K
  · rename_i hd
    rw [Bool.and_eq_true] at hk
    cases nxk_s hk.1
    exact lv_ldcw hx hb ho (ht _ (wAll_in (inKI_w hk.2) rfl)) hd K
  · cases hk
theorem A_20 (C : Cx G p R s m args meth c y) (hk : ckI y pc (20, nx, a, b, v, ts) = true) (hs : sem (20, nx, a, b, v, ts) (pc, ls, st) h = some (.inl ((pc2, ls2, st2), h2))) (k : Atx G p l e R s m args below meth c Q y n0 z0 h2 pc2 ls2 st2) : Atx G p l e R s m args below meth c Q y n0 z0 h pc ls st := by
  obtain ⟨hx, hb, -, ho, ht, -⟩ := C
  cases hs
  intro H locs lc hw hS hL
  have K := k H locs lc hw hS hL
  have hk : ck20 y pc (20, nx, a, b, v, ts) = true := hk
  unfold ck20 at hk
  split at hk
  · rename_i hd
    rw [Bool.and_eq_true] at hk
    cases nxk_s hk.1
    exact lv_lconst hx hb hd (of_decide_eq_true hk.2) K
  · rename_i hd
    rw [Bool.and_eq_true] at hk
    cases nxk_s hk.1
    exact lv_ldc2 hx hb ho (ht _ (wAll_in (inKL_w hk.2) rfl)) hd K
  · cases hk
theorem A_19 (C : Cx G p R s m args meth c y) (hk : ckI y pc (19, nx, a, b, v, ts) = true) (hs : sem (19, nx, a, b, v, ts) (pc, ls, st) h = some (.inl ((pc2, ls2, st2), h2))) (k : Atx G p l e R s m args below meth c Q y n0 z0 h2 pc2 ls2 st2) : Atx G p l e R s m args below meth c Q y n0 z0 h pc ls st := by
  obtain ⟨hx, hb, -, ho, -, -, -, -, KK, -⟩ := C
  cases hs
  intro H locs lc hw hS hL
  have K := k H locs lc hw hS hL
  have hk : ck19 y pc (19, nx, a, b, v, ts) = true := hk
  unfold ck19 at hk
  split at hk
  · rename_i hd
    simp only [Bool.and_eq_true, Bool.or_eq_true] at hk
    obtain ⟨h1, h2, h3⟩ := hk
    cases nxk_s h1
    rw [Nat.eq_of_beq_eq_true h2] at ho
    rcases h3 with ⟨h4, h5⟩ | ⟨h4, h5⟩
    · cases Nat.eq_of_beq_eq_true h4
      cases Nat.eq_of_beq_eq_true h5
      exact va_ldcS hx hb ho KK.2.2.2.2.2.1 hd K
    · cases Nat.eq_of_beq_eq_true h4
      cases Nat.eq_of_beq_eq_true h5
      exact va_ldcS hx hb ho KK.2.2.2.2.2.2.1 hd K
  · cases hk
theorem A_21 (C : Cx G p R s m args meth c y) (hk : ckI y pc (21, nx, a, b, v, ts) = true) (hs : sem (21, nx, a, b, v, ts) (pc, ls, st) h = some (.inl ((pc2, ls2, st2), h2))) (k : Atx G p l e R s m args below meth c Q y n0 z0 h2 pc2 ls2 st2) : Atx G p l e R s m args below meth c Q y n0 z0 h pc ls st := by
  obtain ⟨hx, hb, -⟩ := C
  simp only [sem] at hs
  split at hs
  · rename_i x hl
    cases hs
    intro H locs lc hw hS hL
    have K := k H locs lc hw hS hL
    have hg := hL.2.2.2.1 _ _ hl rfl
    have hk : ck21 y pc (21, nx, a, b, v, ts) = true := hk
    unfold ck21 at hk
    split at hk
    · rename_i hd
      rw [Bool.and_eq_true] at hk
      cases nxk_s hk.1
      exact lv_iload_n hx hb hd (Nat.eq_of_beq_eq_true hk.2) hg K
    · rename_i hd
      rw [Bool.and_eq_true] at hk
      cases nxk_s hk.1
      cases Nat.eq_of_beq_eq_true hk.2
      exact lv_iload hx hb hd hg K
    · cases hk
  · cases hs
theorem A_22 (C : Cx G p R s m args meth c y) (hk : ckI y pc (22, nx, a, b, v, ts) = true) (hs : sem (22, nx, a, b, v, ts) (pc, ls, st) h = some (.inl ((pc2, ls2, st2), h2))) (k : Atx G p l e R s m args below meth c Q y n0 z0 h2 pc2 ls2 st2) : Atx G p l e R s m args below meth c Q y n0 z0 h pc ls st := by
  obtain ⟨hx, hb, -⟩ := C
  simp only [sem] at hs
  split at hs
  · rename_i x hl
    cases hs
    intro H locs lc hw hS hL
    have K := k H locs lc hw hS hL
    have hg := hL.2.2.2.1 _ _ hl rfl
    have hk : ck22 y pc (22, nx, a, b, v, ts) = true := hk
    unfold ck22 at hk
    split at hk
    · rename_i hd
      rw [Bool.and_eq_true] at hk
      cases nxk_s hk.1
      exact lv_lload_n hx hb hd (Nat.eq_of_beq_eq_true hk.2) hg K
    · rename_i hd
      rw [Bool.and_eq_true] at hk
      cases nxk_s hk.1
      cases Nat.eq_of_beq_eq_true hk.2
      exact lv_lload hx hb hd hg K
    · cases hk
  · cases hs
theorem A_25 (C : Cx G p R s m args meth c y) (hk : ckI y pc (25, nx, a, b, v, ts) = true) (hs : sem (25, nx, a, b, v, ts) (pc, ls, st) h = some (.inl ((pc2, ls2, st2), h2))) (k : Atx G p l e R s m args below meth c Q y n0 z0 h2 pc2 ls2 st2) : Atx G p l e R s m args below meth c Q y n0 z0 h pc ls st := by
  obtain ⟨hx, hb, -⟩ := C
  simp only [sem] at hs
  have hk : ck25 y pc (25, nx, a, b, v, ts) = true := hk
  split at hs
  · rename_i x hl
    cases hs
    intro H locs lc hw hS hL
    have K := k H locs lc hw hS hL
    have hg := hL.2.2.2.1 _ _ hl rfl
    unfold ck25 at hk
    split at hk
    · rename_i hd
      rw [Bool.and_eq_true] at hk
      cases nxk_s hk.1
      exact lv_aload_n hx hb hd (Nat.eq_of_beq_eq_true hk.2) hg K
    · rename_i hd
      rw [Bool.and_eq_true] at hk
      cases nxk_s hk.1
      cases Nat.eq_of_beq_eq_true hk.2
      exact lv_aload hx hb hd hg K
    · cases hk
  · rename_i hl
    cases hs
    intro H locs lc hw hS hL
    have K := k H locs lc hw hS hL
    have hg := hL.2.2.2.1 _ _ hl rfl
    unfold ck25 at hk
    split at hk
    · rename_i hd
      rw [Bool.and_eq_true] at hk
      cases nxk_s hk.1
      exact lv_aload_nN hx hb hd (Nat.eq_of_beq_eq_true hk.2) hg K
    · rename_i hd
      rw [Bool.and_eq_true] at hk
      cases nxk_s hk.1
      cases Nat.eq_of_beq_eq_true hk.2
      exact lv_aloadN hx hb hd hg K
    · cases hk
  · cases hs
theorem A_54 (C : Cx G p R s m args meth c y) (hk : ckI y pc (54, nx, a, b, v, ts) = true) (hs : sem (54, nx, a, b, v, ts) (pc, ls, st) h = some (.inl ((pc2, ls2, st2), h2))) (k : Atx G p l e R s m args below meth c Q y n0 z0 h2 pc2 ls2 st2) : Atx G p l e R s m args below meth c Q y n0 z0 h pc ls st := by
  have hV := Cx.V C
  obtain ⟨hx, hb, -⟩ := C
  simp only [sem] at hs
  split at hs
  · rename_i x r
    split at hs
    · rename_i l' hl
      cases hs
      intro H locs lc hw hS hL
      have hlt : a < mml y := by
        obtain ⟨-, o, ho, -⟩ := stL_s hl
        exact Nat.lt_of_lt_of_le (List.getElem?_eq_some_iff.mp ho).1 hL.2.2.1
      have hk : ck54 y pc (54, nx, a, b, v, ts) = true := hk
      unfold ck54 at hk
      split at hk
      · rename_i hd
        rw [Bool.and_eq_true] at hk
        cases nxk_s hk.1
        exact lv_istore_n hx hb hd (Nat.eq_of_beq_eq_true hk.2) hL.has hlt rfl (fun lc' h' => k H locs lc' hw hS (LR_st1 hV hL hl (by intro x; simp) h'))
      · rename_i hd
        rw [Bool.and_eq_true] at hk
        cases nxk_s hk.1
        cases Nat.eq_of_beq_eq_true hk.2
        exact lv_istore hx hb hd hL.has hlt rfl (fun lc' h' => k H locs lc' hw hS (LR_st1 hV hL hl (by intro x; simp) h'))
      · cases hk
    · cases hs
  · cases hs
theorem A_58 (C : Cx G p R s m args meth c y) (hk : ckI y pc (58, nx, a, b, v, ts) = true) (hs : sem (58, nx, a, b, v, ts) (pc, ls, st) h = some (.inl ((pc2, ls2, st2), h2))) (k : Atx G p l e R s m args below meth c Q y n0 z0 h2 pc2 ls2 st2) : Atx G p l e R s m args below meth c Q y n0 z0 h pc ls st := by
  have hV := Cx.V C
  obtain ⟨hx, hb, -⟩ := C
  simp only [sem] at hs
  split at hs
  · rename_i x r
    split at hs
    · rename_i l' hl
      cases hs
      intro H locs lc hw hS hL
      have hlt : a < mml y := by
        obtain ⟨-, o, ho, -⟩ := stL_s hl
        exact Nat.lt_of_lt_of_le (List.getElem?_eq_some_iff.mp ho).1 hL.2.2.1
      have hk : ck58 y pc (58, nx, a, b, v, ts) = true := hk
      unfold ck58 at hk
      split at hk
      · rename_i hd
        rw [Bool.and_eq_true] at hk
        cases nxk_s hk.1
        exact lv_astore_n hx hb hd (Nat.eq_of_beq_eq_true hk.2) hL.has hlt rfl (fun lc' h' => k H locs lc' hw hS (LR_st1 hV hL hl (by intro x; simp) h'))
      · rename_i hd
        rw [Bool.and_eq_true] at hk
        cases nxk_s hk.1
        cases Nat.eq_of_beq_eq_true hk.2
        exact lv_astore hx hb hd hL.has hlt rfl (fun lc' h' => k H locs lc' hw hS (LR_st1 hV hL hl (by intro x; simp) h'))
      · cases hk
    · cases hs
  · cases hs
theorem A_55 (C : Cx G p R s m args meth c y) (hk : ckI y pc (55, nx, a, b, v, ts) = true) (hs : sem (55, nx, a, b, v, ts) (pc, ls, st) h = some (.inl ((pc2, ls2, st2), h2))) (k : Atx G p l e R s m args below meth c Q y n0 z0 h2 pc2 ls2 st2) : Atx G p l e R s m args below meth c Q y n0 z0 h pc ls st := by
  have hV := Cx.V C
  obtain ⟨hx, hb, -⟩ := C
  simp only [sem] at hs
  split at hs
  · rename_i x r
    split at hs
    · rename_i l' hl
      cases hs
      intro H locs lc hw hS hL
      have hlt : a + 1 < mml y := by
        obtain ⟨-, o, -⟩ := stJ_s hl
        exact Nat.lt_of_lt_of_le o hL.2.2.1
      have hk : ck55 y pc (55, nx, a, b, v, ts) = true := hk
      unfold ck55 at hk
      split at hk
      · rename_i hd
        rw [Bool.and_eq_true] at hk
        cases nxk_s hk.1
        exact lv_lstore_n hx hb hd (Nat.eq_of_beq_eq_true hk.2) hL.has hlt rfl (fun lc' h' => k H locs lc' hw hS (LR_st2 hV hL hl h'))
      · rename_i hd
        rw [Bool.and_eq_true] at hk
        cases nxk_s hk.1
        cases Nat.eq_of_beq_eq_true hk.2
        exact lv_lstore hx hb hd hL.has hlt rfl (fun lc' h' => k H locs lc' hw hS (LR_st2 hV hL hl h'))
      · cases hk
    · cases hs
  · cases hs
theorem lP_at {ls : List Value} {i : Nat} {v : Value} (h : ls[i]? = some v) (ho : okV v = true) : ∃ k : Nat, (lP G ls)[k]? = some (i, cv G v) := List.getElem?_of_mem (lP_in h ho)
theorem A_132 (C : Cx G p R s m args meth c y) (hk : ckI y pc (132, nx, a, b, v, ts) = true) (hs : sem (132, nx, a, b, v, ts) (pc, ls, st) h = some (.inl ((pc2, ls2, st2), h2))) (k : Atx G p l e R s m args below meth c Q y n0 z0 h2 pc2 ls2 st2) : Atx G p l e R s m args below meth c Q y n0 z0 h pc ls st := by
  have hV := Cx.V C
  obtain ⟨hx, hb, -⟩ := C
  simp only [sem] at hs
  split at hs
  · rename_i x hl
    cases hs
    intro H locs lc hw hS hL
    have hlt : a < mml y := Nat.lt_of_lt_of_le (List.getElem?_eq_some_iff.mp hl).1 hL.2.2.1
    have hst : stL ls a (.int (x + iI v)) = some (ls.set a (.int (x + iI v))) := by unfold stL; rw [hl]
    obtain ⟨q, hq⟩ := lP_at (G := G) hl rfl
    have hk : ck132 y pc (132, nx, a, b, v, ts) = true := hk
    unfold ck132 at hk
    split at hk
    · rename_i hd
      simp only [Bool.and_eq_true] at hk
      cases nxk_s hk.1
      cases Nat.eq_of_beq_eq_true hk.2.1
      have hv := of_decide_eq_true hk.2.2
      subst hv
      exact lv_iinc hx hb hd hL.has hq rfl hlt rfl (fun lc' h' => k H locs lc' hw hS (LR_st1 hV hL hst (by intro x; simp) h'))
    · cases hk
  · cases hs
theorem A_87 (C : Cx G p R s m args meth c y) (hk : ckI y pc (87, nx, a, b, v, ts) = true) (hs : sem (87, nx, a, b, v, ts) (pc, ls, st) h = some (.inl ((pc2, ls2, st2), h2))) (k : Atx G p l e R s m args below meth c Q y n0 z0 h2 pc2 ls2 st2) : Atx G p l e R s m args below meth c Q y n0 z0 h pc ls st := by
  obtain ⟨hx, hb, -⟩ := C
  obtain ⟨hd, hn⟩ := dk_s (show dk y pc .pop _ = true from hk)
  cases hn
  simp only [sem] at hs
  split at hs
  · cases hs
    intro H locs lc hw hS hL
    exact lv_pop hx hb hd rfl (k H locs lc hw hS hL)
  · cases hs
theorem A_89 (C : Cx G p R s m args meth c y) (hk : ckI y pc (89, nx, a, b, v, ts) = true) (hs : sem (89, nx, a, b, v, ts) (pc, ls, st) h = some (.inl ((pc2, ls2, st2), h2))) (k : Atx G p l e R s m args below meth c Q y n0 z0 h2 pc2 ls2 st2) : Atx G p l e R s m args below meth c Q y n0 z0 h pc ls st := by
  obtain ⟨hx, hb, -⟩ := C
  obtain ⟨hd, hn⟩ := dk_s (show dk y pc .dup _ = true from hk)
  cases hn
  simp only [sem] at hs
  split at hs
  · cases hs
    intro H locs lc hw hS hL
    exact lv_dup hx hb hd rfl (k H locs lc hw hS hL)
  · cases hs
    intro H locs lc hw hS hL
    exact lv_dup hx hb hd rfl (k H locs lc hw hS hL)
  · cases hs
theorem A_92 (C : Cx G p R s m args meth c y) (hk : ckI y pc (92, nx, a, b, v, ts) = true) (hs : sem (92, nx, a, b, v, ts) (pc, ls, st) h = some (.inl ((pc2, ls2, st2), h2))) (k : Atx G p l e R s m args below meth c Q y n0 z0 h2 pc2 ls2 st2) : Atx G p l e R s m args below meth c Q y n0 z0 h pc ls st := by
  obtain ⟨hx, hb, -⟩ := C
  obtain ⟨hd, hn⟩ := dk_s (show dk y pc .dup2 _ = true from hk)
  cases hn
  simp only [sem] at hs
  split at hs
  · cases hs
    intro H locs lc hw hS hL
    exact lv_dup2_11 hx hb hd rfl rfl (k H locs lc hw hS hL)
  · cases hs
theorem A_117 (C : Cx G p R s m args meth c y) (hk : ckI y pc (117, nx, a, b, v, ts) = true) (hs : sem (117, nx, a, b, v, ts) (pc, ls, st) h = some (.inl ((pc2, ls2, st2), h2))) (k : Atx G p l e R s m args below meth c Q y n0 z0 h2 pc2 ls2 st2) : Atx G p l e R s m args below meth c Q y n0 z0 h pc ls st := by
  obtain ⟨hx, hb, -⟩ := C
  obtain ⟨hd, hn⟩ := dk_s (show dk y pc .lneg _ = true from hk)
  cases hn
  simp only [sem] at hs
  split at hs
  · cases hs
    intro H locs lc hw hS hL
    exact lv_lneg hx hb hd (k H locs lc hw hS hL)
  · cases hs
theorem A_133 (C : Cx G p R s m args meth c y) (hk : ckI y pc (133, nx, a, b, v, ts) = true) (hs : sem (133, nx, a, b, v, ts) (pc, ls, st) h = some (.inl ((pc2, ls2, st2), h2))) (k : Atx G p l e R s m args below meth c Q y n0 z0 h2 pc2 ls2 st2) : Atx G p l e R s m args below meth c Q y n0 z0 h pc ls st := by
  obtain ⟨hx, hb, -⟩ := C
  obtain ⟨hd, hn⟩ := dk_s (show dk y pc .i2l _ = true from hk)
  cases hn
  simp only [sem] at hs
  split at hs
  · cases hs
    intro H locs lc hw hS hL
    exact lv_i2l hx hb hd rfl (k H locs lc hw hS hL)
  · cases hs
theorem A_136 (C : Cx G p R s m args meth c y) (hk : ckI y pc (136, nx, a, b, v, ts) = true) (hs : sem (136, nx, a, b, v, ts) (pc, ls, st) h = some (.inl ((pc2, ls2, st2), h2))) (k : Atx G p l e R s m args below meth c Q y n0 z0 h2 pc2 ls2 st2) : Atx G p l e R s m args below meth c Q y n0 z0 h pc ls st := by
  obtain ⟨hx, hb, -⟩ := C
  obtain ⟨hd, hn⟩ := dk_s (show dk y pc .l2i _ = true from hk)
  cases hn
  simp only [sem] at hs
  split at hs
  · cases hs
    intro H locs lc hw hS hL
    exact lv_l2i hx hb hd rfl (k H locs lc hw hS hL)
  · cases hs
theorem A_148 (C : Cx G p R s m args meth c y) (hk : ckI y pc (148, nx, a, b, v, ts) = true) (hs : sem (148, nx, a, b, v, ts) (pc, ls, st) h = some (.inl ((pc2, ls2, st2), h2))) (k : Atx G p l e R s m args below meth c Q y n0 z0 h2 pc2 ls2 st2) : Atx G p l e R s m args below meth c Q y n0 z0 h pc ls st := by
  obtain ⟨hx, hb, -⟩ := C
  obtain ⟨hd, hn⟩ := dk_s (show dk y pc .lcmp _ = true from hk)
  cases hn
  simp only [sem] at hs
  split at hs
  · cases hs
    intro H locs lc hw hS hL
    exact W.lcmp hx hb hd (k H locs lc hw hS hL)
  · cases hs
theorem A_153 (C : Cx G p R s m args meth c y) (hk : ckI y pc (153, nx, a, b, v, ts) = true) (hs : sem (153, nx, a, b, v, ts) (pc, ls, st) h = some (.inl ((pc2, ls2, st2), h2))) (k : Atx G p l e R s m args below meth c Q y n0 z0 h2 pc2 ls2 st2) : Atx G p l e R s m args below meth c Q y n0 z0 h pc ls st := by
  obtain ⟨hx, hb, -⟩ := C
  simp only [sem] at hs
  split at hs
  · rename_i x r
    intro H locs lc hw hS hL
    have hk : ck153 y pc (153, nx, a, b, v, ts) = true := hk
    unfold ck153 at hk
    split at hk
    all_goals first
      | cases hk; done
      | rename_i hd
        simp only [Bool.and_eq_true] at hk
        obtain ⟨e1, e2, e3⟩ := hk
        cases nxk_s e1
        cases Nat.eq_of_beq_eq_true e3
        have ht := of_decide_eq_true e2
        simp only [cndZ, decide_eq_true_eq] at hs
        first
          | exact lv_if_eq hx hb hd ht (fun q => by rw [if_pos q] at hs; cases hs; exact k H locs lc hw hS hL) (fun q => by rw [if_neg q] at hs; cases hs; exact k H locs lc hw hS hL)
          | exact lv_if_ne hx hb hd ht (fun q => by rw [if_pos q] at hs; cases hs; exact k H locs lc hw hS hL) (fun q => by rw [if_neg (fun z => z q)] at hs; cases hs; exact k H locs lc hw hS hL)
          | exact lv_if_lt hx hb hd ht (fun q => by rw [if_pos q] at hs; cases hs; exact k H locs lc hw hS hL) (fun q => by rw [if_neg q] at hs; cases hs; exact k H locs lc hw hS hL)
          | exact lv_if_ge hx hb hd ht (fun q => by rw [if_pos q] at hs; cases hs; exact k H locs lc hw hS hL) (fun q => by rw [if_neg q] at hs; cases hs; exact k H locs lc hw hS hL)
          | exact lv_if_gt hx hb hd ht (fun q => by rw [if_pos q] at hs; cases hs; exact k H locs lc hw hS hL) (fun q => by rw [if_neg q] at hs; cases hs; exact k H locs lc hw hS hL)
          | exact lv_if_le hx hb hd ht (fun q => by rw [if_pos q] at hs; cases hs; exact k H locs lc hw hS hL) (fun q => by rw [if_neg q] at hs; cases hs; exact k H locs lc hw hS hL)
  · cases hs
theorem A_159 (C : Cx G p R s m args meth c y) (hk : ckI y pc (159, nx, a, b, v, ts) = true) (hs : sem (159, nx, a, b, v, ts) (pc, ls, st) h = some (.inl ((pc2, ls2, st2), h2))) (k : Atx G p l e R s m args below meth c Q y n0 z0 h2 pc2 ls2 st2) : Atx G p l e R s m args below meth c Q y n0 z0 h pc ls st := by
  obtain ⟨hx, hb, -⟩ := C
  simp only [sem] at hs
  split at hs
  · rename_i z x r
    intro H locs lc hw hS hL
    have hk : ck159 y pc (159, nx, a, b, v, ts) = true := hk
    unfold ck159 at hk
    split at hk
    all_goals first
      | cases hk; done
      | rename_i hd
        simp only [Bool.and_eq_true] at hk
        obtain ⟨e1, e2, e3⟩ := hk
        cases nxk_s e1
        cases Nat.eq_of_beq_eq_true e3
        have ht := of_decide_eq_true e2
        simp only [cndC, decide_eq_true_eq] at hs
        first
          | exact lv_icmp_eq hx hb hd ht (fun q => by rw [if_pos q] at hs; cases hs; exact k H locs lc hw hS hL) (fun q => by rw [if_neg q] at hs; cases hs; exact k H locs lc hw hS hL)
          | exact lv_icmp_ne hx hb hd ht (fun q => by rw [if_pos q] at hs; cases hs; exact k H locs lc hw hS hL) (fun q => by rw [if_neg (fun z => z q)] at hs; cases hs; exact k H locs lc hw hS hL)
          | exact lv_icmp_lt hx hb hd ht (fun q => by rw [if_pos q] at hs; cases hs; exact k H locs lc hw hS hL) (fun q => by rw [if_neg q] at hs; cases hs; exact k H locs lc hw hS hL)
          | exact lv_icmp_ge hx hb hd ht (fun q => by rw [if_pos q] at hs; cases hs; exact k H locs lc hw hS hL) (fun q => by rw [if_neg q] at hs; cases hs; exact k H locs lc hw hS hL)
          | exact lv_icmp_gt hx hb hd ht (fun q => by rw [if_pos q] at hs; cases hs; exact k H locs lc hw hS hL) (fun q => by rw [if_neg q] at hs; cases hs; exact k H locs lc hw hS hL)
          | exact lv_icmp_le hx hb hd ht (fun q => by rw [if_pos q] at hs; cases hs; exact k H locs lc hw hS hL) (fun q => by rw [if_neg q] at hs; cases hs; exact k H locs lc hw hS hL)
  · cases hs
theorem A_167 (C : Cx G p R s m args meth c y) (hk : ckI y pc (167, nx, a, b, v, ts) = true) (hs : sem (167, nx, a, b, v, ts) (pc, ls, st) h = some (.inl ((pc2, ls2, st2), h2))) (k : Atx G p l e R s m args below meth c Q y n0 z0 h2 pc2 ls2 st2) : Atx G p l e R s m args below meth c Q y n0 z0 h pc ls st := by
  obtain ⟨hx, hb, -⟩ := C
  cases hs
  intro H locs lc hw hS hL
  have hk : ck167 y pc (167, nx, a, b, v, ts) = true := hk
  unfold ck167 at hk
  split at hk
  · rename_i hd
    exact lv_goto hx hb hd (of_decide_eq_true hk) (k H locs lc hw hS hL)
  · cases hk
theorem A_198 (C : Cx G p R s m args meth c y) (hk : ckI y pc (198, nx, a, b, v, ts) = true) (hs : sem (198, nx, a, b, v, ts) (pc, ls, st) h = some (.inl ((pc2, ls2, st2), h2))) (k : Atx G p l e R s m args below meth c Q y n0 z0 h2 pc2 ls2 st2) : Atx G p l e R s m args below meth c Q y n0 z0 h pc ls st := by
  obtain ⟨hx, hb, -⟩ := C
  simp only [sem] at hs
  have hk : ck198 y pc (198, nx, a, b, v, ts) = true := hk
  unfold ck198 at hk
  split at hk
  · rename_i hd
    rw [Bool.and_eq_true] at hk
    cases nxk_s hk.1
    have ht := of_decide_eq_true hk.2
    split at hs
    · cases hs
      intro H locs lc hw hS hL
      exact lv_ifnullN hx hb hd ht (k H locs lc hw hS hL)
    · cases hs
      intro H locs lc hw hS hL
      exact lv_ifnull hx hb hd (k H locs lc hw hS hL)
    · cases hs
  · cases hk
end SND1
