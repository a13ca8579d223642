/-! SOUNDNESS: calls and the whole -/
theorem kC_on : ∀ ci, ci < 12 → kC ci = onm (ci + 5) := by
  intro ci hci
  rcases (show ci = 0 ∨ ci = 1 ∨ ci = 2 ∨ ci = 3 ∨ ci = 4 ∨ ci = 5 ∨ ci = 6 ∨ ci = 7 ∨ ci = 8 ∨ ci = 9 ∨ ci = 10 ∨ ci = 11 by omega) with rfl | rfl | rfl | rfl | rfl | rfl | rfl | rfl | rfl | rfl | rfl | rfl <;> rfl
theorem ckY_s {y : Nat} {i : aI} (h : ckY y i = true) : 0 < i.2.2.1 ∧ i.2.2.1 < 270 ∧ i.2.2.2.2.1 = (mml i.2.2.1 : Int) := by
  unfold ckY at h
  simp only [Bool.and_eq_true] at h
  exact ⟨Nat.le_of_ble_eq_true h.1, Nat.le_of_ble_eq_true h.2.1, of_decide_eq_true h.2.2⟩
section SND8
variable {G : gX} {p : Program} {l : Launch} {e : Env} {R : Room} {s : State} {m : MethodId} {args : Array Value} {below : List Frame} {meth : Method} {c : Code} {Q : State → Prop} {y n0 z0 : Nat}
variable {pc nx a b pc2 : Nat} {v : Int} {ts : List (Int × Nat)} {ls ls2 st st2 : List Value} {h h2 : aH}
theorem A_182 {i : aI} {y2 : Nat} {as : List Value} {pc3 : Nat} {ls3 st3 : List Value} {d : Nat} {r2 : Option Value} (C : Cx G p R s m args meth c y) (hd1 : d + 2 ≤ R.frames) (hd2 : 64 * (d + 2) ≤ R.locals) (h0 : n0 ≤ gN h ∧ z0 ≤ gZ h) (hc : gN h ≤ gN h2 ∧ gZ h ≤ gZ h2) (hR : gN h2 - n0 ≤ R.cells ∧ gZ h2 - z0 ≤ R.slots) (hk : ckI y pc (182, nx, a, b, v, ts) = true) (hs : sem (182, nx, a, b, v, ts) (pc, ls, st) h = some (.inr (.inl (y2, as, (pc3, ls3, st3))))) (hM : Met l (mnm y2) (mW y2) (rmD d (gN h2 - gN h) (gZ h2 - gZ h)) (PcD G as h) (QcD G h2 r2) (gN h2 - gN h) (gZ h2 - gZ h) (AA G)) (k : Atx G p l e R s m args below meth c Q y n0 z0 h2 pc3 ls3 (r2.toList ++ st3)) : Atx G p l e R s m args below meth c Q y n0 z0 h pc ls st := by
  have hV := Cx.V C
  have hk : ck182 y pc (182, nx, a, b, v, ts) = true := hk
  unfold ck182 at hk
  rw [Bool.and_eq_true] at hk
  obtain ⟨hY, hk⟩ := hk
  obtain ⟨y1, y3, -⟩ := ckY_s hY
  split at hk
  · rename_i idx hd
    simp only [Bool.and_eq_true] at hk
    obtain ⟨e1, e2, e3, e4⟩ := hk
    have e1 := nxk_s e1
    have hmk : mkd a = 0 := Nat.eq_of_beq_eq_true e3
    have hnp : b = mnp a := Nat.eq_of_beq_eq_true e4
    obtain ⟨hx, hb, hml, ho, hts, -, -, -, KK, -⟩ := C
    simp only [sem] at hs
    split at hs
    · split at hs
      · rename_i as0 r htk hcond
        obtain ⟨hcat, hlen⟩ := hcond
        cases hs
        obtain ⟨t1, t2⟩ := tkA_s htk
        obtain ⟨m1, m2, m3, m4, m5⟩ := m_ok a y1 y3
        rw [hmk] at m2
        intro H locs lc hw hS hL
        refine A_back (mc := gN h2 - gN h) (ms := gZ h2 - gZ h) h0 hc rfl rfl k hw hS hL e1 (aa := (as.map (cv G)).toArray) ?_
        refine va_runS (n := mnp a) (nL := mml y) (bytes := mby a) (maxL := mml a) (ret := mrt a) (own := onm (mow y)) (Ts := wAll) ⟨hx, hb, hml, ho, hts⟩ hM ⟨callB_of (mnp a) hts (mW_good y1 y3) rfl rfl rfl (hts _ (wAll_in m3 rfl)) (hts _ (wAll_in (inML_w e2) rfl)) (y_desc y3) ⟨by show d + 1 + 1 ≤ _; omega, by have := mml_le a; show _ + 64 * (d + 1) ≤ _; omega⟩, hts _ (wAll_in m2 rfl)⟩ ⟨PcD_blind G as h, fun U hU hW => ⟨rfl, KS.to KK hW hS hU, by rw [hU]; exact hw⟩⟩ rfl (by rw [List.length_map, t2]; exact hnp) hL.1 (by show st.map (cv G) = _; rw [t1, List.map_append, List.map_reverse]) (lv_room (cat_le hV hcat)) hd ⟨by omega, by omega⟩
      · cases hs
    · cases hs
  · cases hk
theorem A_1182 {y2 : Nat} {as : List Value} {pc3 : Nat} {ls3 st3 : List Value} {d : Nat} {r2 : Option Value} (C : Cx G p R s m args meth c y) (hd1 : d + 2 ≤ R.frames) (hd2 : 64 * (d + 2) ≤ R.locals) (h0 : n0 ≤ gN h ∧ z0 ≤ gZ h) (hc : gN h ≤ gN h2 ∧ gZ h ≤ gZ h2) (hR : gN h2 - n0 ≤ R.cells ∧ gZ h2 - z0 ≤ R.slots) (hk : ckI y pc (1182, nx, a, b, v, ts) = true) (hs : sem (1182, nx, a, b, v, ts) (pc, ls, st) h = some (.inr (.inl (y2, as, (pc3, ls3, st3))))) (hM : Met l (mnm y2) (mW y2) (rmD d (gN h2 - gN h) (gZ h2 - gZ h)) (PcD G as h) (QcD G h2 r2) (gN h2 - gN h) (gZ h2 - gZ h) (AA G)) (k : Atx G p l e R s m args below meth c Q y n0 z0 h2 pc3 ls3 (r2.toList ++ st3)) : Atx G p l e R s m args below meth c Q y n0 z0 h pc ls st := by
  have hV := Cx.V C
  have hk : ck1182 y pc (1182, nx, a, b, v, ts) = true := hk
  unfold ck1182 at hk
  rw [Bool.and_eq_true] at hk
  obtain ⟨hY, hk⟩ := hk
  obtain ⟨y1, y3, -⟩ := ckY_s hY
  split at hk
  · rename_i idx hd
    simp only [Bool.and_eq_true] at hk
    obtain ⟨e1, e2, e3, e4, e5, e6⟩ := hk
    have e1 := nxk_s e1
    have hmk : mkd a = 1 := Nat.eq_of_beq_eq_true e3
    have hnp : b / 100 = mnp a + 1 := Nat.eq_of_beq_eq_true e4
    have hci : b % 100 < 12 := Nat.le_of_ble_eq_true e5
    have hmo : mow a = b % 100 + 5 := Nat.eq_of_beq_eq_true e6
    obtain ⟨hx, hb, hml, ho, hts, -, -, -, KK, -⟩ := C
    simp only [sem] at hs
    split at hs
    · split at hs
      · rename_i q as0 r htk hcond
        obtain ⟨⟨hcat, hq⟩, hlen⟩ := hcond
        cases hs
        obtain ⟨t1, t2⟩ := tkA_s htk
        obtain ⟨m1, m2, m3, m4, m5⟩ := m_ok a y1 y3
        have m4 := m4 hmk
        rw [hmk] at m2
        have hcls : (mnm a).cls = kC (b % 100) := by
          rw [kC_on _ hci, ← hmo]
          rfl
        intro H locs lc hw hS hL
        obtain ⟨-, -, hat⟩ := hw.cell (k := q) (by rw [hq]; exact Nat.zero_le _)
        rw [ce_0 hq] at hat
        obtain ⟨rr, g1, cell, g2, g3, g4, -⟩ := hat
        have hfc := (KK.1.1 _ _ (kcl_eq _ hci)).2.1
        refine A_back (mc := gN h2 - gN h) (ms := gZ h2 - gZ h) h0 hc rfl rfl k hw hS hL e1 (aa := (Value.ref (ga G q) :: as0.map (cv G)).toArray) ?_
        refine va_runV (n := mnp a) (nL := mml y) (bytes := mby a) (maxL := mml a) (ret := mrt a) (own := onm (mow y)) (Ts := wAll) (C := (mnm a).cls) (As := as0.map (cv G)) (b := ga G q) ⟨hx, hb, hml, ho, hts⟩ hM ⟨callB_of (mnp a) hts (mW_good y1 y3) rfl rfl rfl (hts _ (wAll_in m3 rfl)) (hts _ (wAll_in (inML_w e2) rfl)) (y_desc y3) ⟨by show d + 1 + 1 ≤ _; omega, by have := mml_le a; show _ + 64 * (d + 1) ≤ _; omega⟩, hts _ (wAll_in m2 rfl), hts _ (wAll_in m4 rfl)⟩ ⟨PcD_blind G _ h, ⟨cell, g2, by rw [g4]; rfl, by rw [hcls, g3]; exact hfc⟩, fun U hU hW => ⟨rfl, KS.to KK hW hS hU, by rw [hU]; exact hw⟩⟩ rfl (by rw [List.length_map]; rw [List.length_cons] at t2; omega) hL.1 (by show st.map (cv G) = _; rw [t1, List.map_append, List.map_reverse, List.map_cons, List.reverse_cons, List.append_assoc]; rfl) (lv_room (cat_le hV hcat)) hd ⟨by omega, by omega⟩
      · cases hs
    · cases hs
  · cases hk
theorem A_2182 {y2 : Nat} {as : List Value} {pc3 : Nat} {ls3 st3 : List Value} {d : Nat} {r2 : Option Value} (C : Cx G p R s m args meth c y) (hd1 : d + 2 ≤ R.frames) (hd2 : 64 * (d + 2) ≤ R.locals) (h0 : n0 ≤ gN h ∧ z0 ≤ gZ h) (hc : gN h ≤ gN h2 ∧ gZ h ≤ gZ h2) (hR : gN h2 - n0 ≤ R.cells ∧ gZ h2 - z0 ≤ R.slots) (hk : ckI y pc (2182, nx, a, b, v, ts) = true) (hs : sem (2182, nx, a, b, v, ts) (pc, ls, st) h = some (.inr (.inl (y2, as, (pc3, ls3, st3))))) (hM : Met l (mnm y2) (mW y2) (rmD d (gN h2 - gN h) (gZ h2 - gZ h)) (PcD G as h) (QcD G h2 r2) (gN h2 - gN h) (gZ h2 - gZ h) (AA G)) (k : Atx G p l e R s m args below meth c Q y n0 z0 h2 pc3 ls3 (r2.toList ++ st3)) : Atx G p l e R s m args below meth c Q y n0 z0 h pc ls st := by
  have hV := Cx.V C
  have hk : ck2182 y pc (2182, nx, a, b, v, ts) = true := hk
  unfold ck2182 at hk
  rw [Bool.and_eq_true] at hk
  obtain ⟨hY, hk⟩ := hk
  obtain ⟨y1, y3, -⟩ := ckY_s hY
  split at hk
  · rename_i idx hd
    simp only [Bool.and_eq_true] at hk
    obtain ⟨e1, e2, e3, e4, e6⟩ := hk
    have e1 := nxk_s e1
    have hmk : mkd a = 1 := Nat.eq_of_beq_eq_true e3
    have hnp : b = mnp a + 1 := Nat.eq_of_beq_eq_true e4
    have hmo : mow a = 1 := Nat.eq_of_beq_eq_true e6
    obtain ⟨hx, hb, hml, ho, hts, -, -, -, KK, -⟩ := C
    simp only [sem] at hs
    split at hs
    · split at hs
      · rename_i q as0 r htk hcond
        obtain ⟨⟨hcat, hq⟩, hlen⟩ := hcond
        cases hs
        obtain ⟨t1, t2⟩ := tkA_s htk
        obtain ⟨m1, m2, m3, m4, m5⟩ := m_ok a y1 y3
        have m4 := m4 hmk
        rw [hmk] at m2
        have hcls : (mnm a).cls = "java/lang/String" := by
          show onm (mow a) = _
          rw [hmo]
          rfl
        intro H locs lc hw hS hL
        obtain ⟨i0, hi0, eq⟩ := RO_8 hw hq
        obtain ⟨cell, g2, g4, g3⟩ := vk_recv KK.2.2.2.2.1 hi0 hS
        have ega : ga G q = xR G (2 * i0 + 1) := by rw [eq, ga_ro (by omega)]
        refine A_back (mc := gN h2 - gN h) (ms := gZ h2 - gZ h) h0 hc rfl rfl k hw hS hL e1 (aa := (Value.ref (ga G q) :: as0.map (cv G)).toArray) ?_
        refine va_runV (n := mnp a) (nL := mml y) (bytes := mby a) (maxL := mml a) (ret := mrt a) (own := onm (mow y)) (Ts := wAll) (C := (mnm a).cls) (As := as0.map (cv G)) (b := ga G q) ⟨hx, hb, hml, ho, hts⟩ hM ⟨callB_of (mnp a) hts (mW_good y1 y3) rfl rfl rfl (hts _ (wAll_in m3 rfl)) (hts _ (wAll_in (inML_w e2) rfl)) (y_desc y3) ⟨by show d + 1 + 1 ≤ _; omega, by have := mml_le a; show _ + 64 * (d + 1) ≤ _; omega⟩, hts _ (wAll_in m2 rfl), hts _ (wAll_in m4 rfl)⟩ ⟨PcD_blind G _ h, ⟨cell, by rw [ega]; exact g2, g4, by rw [hcls]; exact g3⟩, fun U hU hW => ⟨rfl, KS.to KK hW hS hU, by rw [hU]; exact hw⟩⟩ rfl (by rw [List.length_map]; rw [List.length_cons] at t2; omega) hL.1 (by show st.map (cv G) = _; rw [t1, List.map_append, List.map_reverse, List.map_cons, List.reverse_cons, List.append_assoc]; rfl) (lv_room (cat_le hV hcat)) hd ⟨by omega, by omega⟩
      · cases hs
    · cases hs
  · cases hk
theorem A_3182 {y2 : Nat} {as : List Value} {pc3 : Nat} {ls3 st3 : List Value} {d : Nat} {r2 : Option Value} (C : Cx G p R s m args meth c y) (hd1 : d + 2 ≤ R.frames) (hd2 : 64 * (d + 2) ≤ R.locals) (h0 : n0 ≤ gN h ∧ z0 ≤ gZ h) (hc : gN h ≤ gN h2 ∧ gZ h ≤ gZ h2) (hR : gN h2 - n0 ≤ R.cells ∧ gZ h2 - z0 ≤ R.slots) (hk : ckI y pc (3182, nx, a, b, v, ts) = true) (hs : sem (3182, nx, a, b, v, ts) (pc, ls, st) h = some (.inr (.inl (y2, as, (pc3, ls3, st3))))) (hM : Met l (mnm y2) (mW y2) (rmD d (gN h2 - gN h) (gZ h2 - gZ h)) (PcD G as h) (QcD G h2 r2) (gN h2 - gN h) (gZ h2 - gZ h) (AA G)) (k : Atx G p l e R s m args below meth c Q y n0 z0 h2 pc3 ls3 (r2.toList ++ st3)) : Atx G p l e R s m args below meth c Q y n0 z0 h pc ls st := by
  have hV := Cx.V C
  have hk : ck3182 y pc (3182, nx, a, b, v, ts) = true := hk
  unfold ck3182 at hk
  rw [Bool.and_eq_true] at hk
  obtain ⟨hY, hk⟩ := hk
  obtain ⟨y1, y3, -⟩ := ckY_s hY
  split at hk
  · rename_i idx hd
    simp only [Bool.and_eq_true, Bool.or_eq_true] at hk
    obtain ⟨e1, e2, e4⟩ := hk
    have e1 := nxk_s e1
    have hnp : b = mnp a + 1 := Nat.eq_of_beq_eq_true e4
    obtain ⟨hx, hb, hml, ho, hts, -, -, -, KK, -⟩ := C
    simp only [sem] at hs
    split at hs
    · split at hs
      · rename_i q as0 r htk hcond
        obtain ⟨hcat, hlen⟩ := hcond
        cases hs
        obtain ⟨t1, t2⟩ := tkA_s htk
        obtain ⟨m1, m2, m3, m4, m5⟩ := m_ok a y1 y3
        intro H locs lc hw hS hL
        refine A_back (mc := gN h2 - gN h) (ms := gZ h2 - gZ h) h0 hc rfl rfl k hw hS hL e1 (aa := (Value.ref (ga G q) :: as0.map (cv G)).toArray) ?_
        rcases e2 with ⟨e2, e3⟩ | ⟨e2, e3⟩
        · have hmk : mkd a = 2 := Nat.eq_of_beq_eq_true e3
          rw [hmk] at m2
          have m5 := m5 (by rw [hmk]; exact Nat.le_refl _)
          refine va_runI (n := mnp a) (nL := mml y) (bytes := mby a) (maxL := mml a) (own := onm (mow y)) (Ts := wAll) (As := as0.map (cv G)) (b := ga G q) ⟨hx, hb, hml, ho, hts⟩ hM ⟨callB_of (mnp a) hts (mW_good y1 y3) (by unfold mW; rw [m5.2]) rfl rfl (hts _ (wAll_in m3 rfl)) (hts _ (wAll_in (inML_w e2) rfl)) (y_desc y3) ⟨by show d + 1 + 1 ≤ _; omega, by have := mml_le a; show _ + 64 * (d + 1) ≤ _; omega⟩, m5.1, hts _ (wAll_in m2 rfl)⟩ ⟨PcD_blind G _ h, fun U hU hW => ⟨rfl, KS.to KK hW hS hU, by rw [hU]; exact hw⟩⟩ rfl (by rw [List.length_map]; rw [List.length_cons] at t2; omega) hL.1 (by show st.map (cv G) = _; rw [t1, List.map_append, List.map_reverse, List.map_cons, List.reverse_cons, List.append_assoc]; rfl) (lv_room (cat_le hV hcat)) hd ⟨by omega, by omega⟩
        · have hmk : mkd a = 3 := Nat.eq_of_beq_eq_true e3
          rw [hmk] at m2
          have m5 := m5 (by rw [hmk]; exact Nat.le_succ _)
          obtain ⟨qq, hqq, e5⟩ := List.any_eq_true.mp e2
          simp only [Bool.and_eq_true] at e5
          have hnst := KK.2.2.2.2.2.2.2.2.2.1 qq hqq
          rw [Nat.eq_of_beq_eq_true e5.1, Nat.eq_of_beq_eq_true e5.2.1, Nat.eq_of_beq_eq_true e5.2.2] at hnst
          refine va_runIN (n := mnp a) (nL := mml y) (bytes := mby a) (maxL := mml a) (own := onm (mow y)) (host := "ByThePound") (Ts := wAll) (As := as0.map (cv G)) (b := ga G q) ⟨hx, hb, hml, ho, hts⟩ hM ⟨va_cnB (mnp a) hts (mW_good y1 y3) (by unfold mW; rw [m5.2]) rfl rfl hnst (hts _ (wAll_in m3 rfl)) (y_desc y3) ⟨by show d + 1 + 1 ≤ _; omega, by have := mml_le a; show _ + 64 * (d + 1) ≤ _; omega⟩, m5.1, hts _ (wAll_in m2 rfl)⟩ ⟨PcD_blind G _ h, fun U hU hW => ⟨rfl, KS.to KK hW hS hU, by rw [hU]; exact hw⟩⟩ rfl (by rw [List.length_map]; rw [List.length_cons] at t2; omega) hL.1 (by show st.map (cv G) = _; rw [t1, List.map_append, List.map_reverse, List.map_cons, List.reverse_cons, List.append_assoc]; rfl) (lv_room (cat_le hV hcat)) hd ⟨by omega, by omega⟩
      · cases hs
    · cases hs
  · cases hk
theorem sem_call {i : aI} {y2 : Nat} {as : List Value} {f3 : aF} (hs : sem i (pc, ls, st) h = some (.inr (.inl (y2, as, f3)))) : (i.1 = 182 ∨ i.1 = 1182 ∨ i.1 = 2182 ∨ i.1 = 3182) ∧ y2 = i.2.2.1 ∧ (aJ [] as).length ≤ i.2.2.2.2.1.toNat := by
  have no : ∀ {nx : Nat} {ls st : List Value} {h3 : aH}, ao_go nx ls st h3 ≠ some (.inr (.inl (y2, as, f3))) := by
    intro nx ls st h3 q
    cases q
  obtain ⟨op, nx, a, b, v, ts⟩ := i
  by_cases h1 : op = 182
  · subst h1
    simp only [sem] at hs
    split at hs
    · split at hs
      · rename_i hc
        cases hs
        exact ⟨Or.inl rfl, rfl, Nat.le_of_ble_eq_true hc.2⟩
      · cases hs
    · cases hs
  · by_cases h2 : op = 1182
    · subst h2
      simp only [sem] at hs
      split at hs
      · split at hs
        · rename_i hc
          cases hs
          exact ⟨Or.inr (Or.inl rfl), rfl, Nat.le_of_ble_eq_true hc.2⟩
        · cases hs
      · cases hs
    · by_cases h3 : op = 2182
      · subst h3
        simp only [sem] at hs
        split at hs
        · split at hs
          · rename_i hc
            cases hs
            exact ⟨Or.inr (Or.inr (Or.inl rfl)), rfl, Nat.le_of_ble_eq_true hc.2⟩
          · cases hs
        · cases hs
      · by_cases h4 : op = 3182
        · subst h4
          simp only [sem] at hs
          split at hs
          · split at hs
            · rename_i hc
              cases hs
              exact ⟨Or.inr (Or.inr (Or.inr rfl)), rfl, Nat.le_of_ble_eq_true hc.2⟩
            · cases hs
          · cases hs
        · exfalso
          unfold sem m_ald at hs
          simp only at hs
          repeat' split at hs
          all_goals first
            | (cases hs; done)
            | exact no hs
            | exact h1 rfl
            | exact h2 rfl
            | exact h3 rfl
            | exact h4 rfl
end SND8
