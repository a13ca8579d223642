/-! SOUNDNESS: texts, statics, making, copying, switches, Math -/
section SND4
variable {G : gX} {p : Program} {l : Launch} {e : Env} {R : Room} {s : State} {m : MethodId} {args : Array Value} {below : List Frame} {meth : Method} {c : Code} {Q : State → Prop} {y n0 z0 : Nat}
variable {pc nx a b pc2 : Nat} {v : Int} {ts : List (Int × Nat)} {ls ls2 st st2 : List Value} {h h2 : aH}
theorem o_own (C : Cx G p R s m args meth c y) {k : Nat} (h : mow y = k) : s.vm.findClass (onm k) = some m.cls := by
  obtain ⟨-, -, -, ho, -⟩ := C
  rw [← h]
  exact ho
theorem A_3180 (C : Cx G p R s m args meth c y) (hk : ckI y pc (3180, nx, a, b, v, ts) = true) (hs : sem (3180, nx, a, b, v, ts) (pc, ls, st) h = some (.inl ((pc2, ls2, st2), h2))) (k : Atx G p l e R s m args below meth c Q y n0 z0 h2 pc2 ls2 st2) : Atx G p l e R s m args below meth c Q y n0 z0 h pc ls st := by
  have hk : ckStr y pc (3180, nx, a, b, v, ts) 9 = true := hk
  unfold ckStr at hk
  split at hk
  · rename_i idx hd
    simp only [Bool.and_eq_true] at hk
    obtain ⟨e1, e2, e3⟩ := hk
    cases nxk_s e1
    have ho := o_own C (Nat.eq_of_beq_eq_true e2)
    cases Nat.eq_of_beq_eq_true e3
    obtain ⟨hx, hb, -, -, hts, -, -, -, KK, -⟩ := C
    simp only [sem] at hs
    split at hs
    · split at hs
      · rename_i t r ht
        cases hs
        intro H locs lc hw hS hL
        have K := k H locs lc hw hS hL
        obtain ⟨i0, hi0, e0⟩ := RO_8 hw ht
        have hE := (KK.2.2.2.2.1.1 i0 hi0).2.2.1
        subst e0
        rw [List.map_cons, show cv G (.ref (2 * i0 + 1 + 1)) = .ref (xR G (2 * i0 + 2)) by show Value.ref (ga G _) = _; rw [ga_ro (by omega)]] at K
        show W p l e R s m args below meth c H locs _ _ Q (F0 m pc lc (.ref (ga G (2 * i0 + 1)) :: _))
        rw [ga_ro (by omega)]
        exact vk_getf hx hb hE hS ho (hts _ (wAll_in sw_value rfl)) (fun x hx => hx) hd K
      · cases hs
    · cases hs
  · cases hk
theorem A_4180 (C : Cx G p R s m args meth c y) (hk : ckI y pc (4180, nx, a, b, v, ts) = true) (hs : sem (4180, nx, a, b, v, ts) (pc, ls, st) h = some (.inl ((pc2, ls2, st2), h2))) (k : Atx G p l e R s m args below meth c Q y n0 z0 h2 pc2 ls2 st2) : Atx G p l e R s m args below meth c Q y n0 z0 h pc ls st := by
  have hk : ckStr y pc (4180, nx, a, b, v, ts) 15 = true := hk
  unfold ckStr at hk
  split at hk
  · rename_i idx hd
    simp only [Bool.and_eq_true] at hk
    obtain ⟨e1, e2, e3⟩ := hk
    cases nxk_s e1
    have ho := o_own C (Nat.eq_of_beq_eq_true e2)
    cases Nat.eq_of_beq_eq_true e3
    obtain ⟨hx, hb, -, -, hts, -, -, -, KK, -⟩ := C
    simp only [sem] at hs
    split at hs
    · split at hs
      · rename_i t r ht
        cases hs
        intro H locs lc hw hS hL
        have K := k H locs lc hw hS hL
        obtain ⟨i0, hi0, e0⟩ := RO_8 hw ht
        have hE := (KK.2.2.2.2.1.1 i0 hi0).2.1
        subst e0
        show W p l e R s m args below meth c H locs _ _ Q (F0 m pc lc (.ref (ga G (2 * i0 + 1)) :: _))
        rw [ga_ro (by omega)]
        exact vk_getf hx hb hE hS ho (hts _ (wAll_in sw_coder rfl)) (fun x hx => hx) hd K
      · cases hs
    · cases hs
  · cases hk
theorem A_178 (C : Cx G p R s m args meth c y) (hk : ckI y pc (178, nx, a, b, v, ts) = true) (hs : sem (178, nx, a, b, v, ts) (pc, ls, st) h = some (.inl ((pc2, ls2, st2), h2))) (k : Atx G p l e R s m args below meth c Q y n0 z0 h2 pc2 ls2 st2) : Atx G p l e R s m args below meth c Q y n0 z0 h pc ls st := by
  have hk : (ckSt y pc (178, nx, a, b, v, ts) 38 && decide (v = 1)) = true := hk
  rw [Bool.and_eq_true] at hk
  obtain ⟨hk, hv⟩ := hk
  cases of_decide_eq_true hv
  unfold ckSt at hk
  split at hk
  · rename_i idx hd
    simp only [Bool.and_eq_true] at hk
    obtain ⟨e1, e2, e3⟩ := hk
    cases nxk_s e1
    have ho := o_own C (Nat.eq_of_beq_eq_true e2)
    cases Nat.eq_of_beq_eq_true e3
    obtain ⟨hx, hb, -, -, hts, -, -, -, KK, -⟩ := C
    cases hs
    intro H locs lc hw hS hL
    exact va_gets hx hb KK.2.1 hS ho (hts _ (wAll_in sw_compact rfl)) (fun x hx => hx) hd (k H locs lc hw hS hL)
  · cases hk
theorem A_179 (C : Cx G p R s m args meth c y) (hk : ckI y pc (179, nx, a, b, v, ts) = true) (hs : sem (179, nx, a, b, v, ts) (pc, ls, st) h = some (.inl ((pc2, ls2, st2), h2))) (k : Atx G p l e R s m args below meth c Q y n0 z0 h2 pc2 ls2 st2) : Atx G p l e R s m args below meth c Q y n0 z0 h pc ls st := by
  have hk : ckSt y pc (179, nx, a, b, v, ts) 1053 = true := hk
  unfold ckSt at hk
  split at hk
  · rename_i idx hd
    simp only [Bool.and_eq_true] at hk
    obtain ⟨e1, e2, e3⟩ := hk
    cases nxk_s e1
    have ho := o_own C (Nat.eq_of_beq_eq_true e2)
    cases Nat.eq_of_beq_eq_true e3
    obtain ⟨hx, hb, -, -, hts, -, -, -, KK, -⟩ := C
    cases hs
    intro H locs lc hw hS hL
    exact va_gets hx hb KK.2.2.1 hS ho (hts _ (wAll_in sw_sioobe rfl)) (fun x hx => hx) hd (k H locs lc hw hS hL)
  · cases hk
theorem cat_map (hV : xV G = .null ∨ ∃ a, xV G = .ref a) (r : List Value) : ((r.map (cv G)).map fun v => v.category).sum = (r.map fun v => v.category).sum := by
  rw [List.map_map]
  congr 1
  apply List.map_congr_left
  intro x _
  exact cv_cat G hV x
theorem cat_le (hV : xV G = .null ∨ ∃ a, xV G = .ref a) {r : List Value} (h : catOk r = true) : ((r.map (cv G)).map fun v => v.category).sum ≤ 8 := by
  rw [cat_map hV]
  exact Nat.le_of_ble_eq_true h
theorem A_183 (C : Cx G p R s m args meth c y) (hk : ckI y pc (183, nx, a, b, v, ts) = true) (hs : sem (183, nx, a, b, v, ts) (pc, ls, st) h = some (.inl ((pc2, ls2, st2), h2))) (k : Atx G p l e R s m args below meth c Q y n0 z0 h2 pc2 ls2 st2) : Atx G p l e R s m args below meth c Q y n0 z0 h pc ls st := by
  have hV := Cx.V C
  have hk : ck183 y pc (183, nx, a, b, v, ts) = true := hk
  unfold ck183 at hk
  split at hk
  · rename_i idx hd
    rw [Bool.and_eq_true] at hk
    obtain ⟨e1, e2⟩ := hk
    cases nxk_s e1
    obtain ⟨q, hq, e3⟩ := List.any_eq_true.mp e2
    rw [Bool.and_eq_true] at e3
    have hl := oi_w q hq
    rw [Nat.eq_of_beq_eq_true e3.1, Nat.eq_of_beq_eq_true e3.2] at hl
    obtain ⟨hx, hb, hml, ho, hts, -, -, -, KK, -, hR1, hR2⟩ := C
    simp only [sem] at hs
    split at hs
    · split at hs
      · rename_i t r hc
        cases hs
        intro H locs lc hw hS hL
        exact W.objInit hx hb ho (hts _ (wAll_in hl rfl)) (hts _ (wAll_in sw_oi rfl)) (hts _ (wAll_in sw_oc rfl)) rfl (by show lc.size = _; rw [hL.1, hml]) rfl hd hR1 (by have := cat_le hV hc; show 2 * 0 + _ + 12 ≤ _; omega) (k H locs lc hw hS hL)
      · cases hs
    · cases hs
  · cases hk
theorem zipT_s : ∀ (ts : List (Int × Nat)) (lo : Int) (os : List Int), zipT pc ts lo os = true → ∀ (x : Int) (d : Nat), (lo ≤ x ∧ x < lo + os.length → ∃ o, os[(x - lo).toNat]? = some o ∧ (pc : Int) + o = (swT ts d x : Int)) ∧ (x < lo ∨ lo + os.length ≤ x → swT ts d x = d)
  | [], lo, [], _, x, d => ⟨fun h => by simp at h; omega, fun _ => rfl⟩
  | (k, t) :: r, lo, o :: os, hz, x, d => by
    simp only [zipT, Bool.and_eq_true] at hz
    obtain ⟨h1, h2, h3⟩ := hz
    have e1 := of_decide_eq_true h1
    have e2 := of_decide_eq_true h2
    subst e1
    obtain ⟨i1, i2⟩ := zipT_s r (k + 1) os h3 x d
    by_cases hx : x = k
    · subst hx
      refine ⟨fun _ => ⟨o, by simp, by simp only [swT, if_true]; exact e2⟩, fun h => ?_⟩
      simp only [List.length_cons] at h
      omega
    · simp only [swT, if_neg hx, List.length_cons]
      refine ⟨fun h => ?_, fun h => ?_⟩
      · obtain ⟨o2, j1, j2⟩ := i1 (by omega)
        refine ⟨o2, ?_, j2⟩
        rw [show (x - k).toNat = (x - (k + 1)).toNat + 1 by omega, List.getElem?_cons_succ]
        exact j1
      · exact i2 (by omega)
  | [], _, _ :: _, hz, _, _ => by simp [zipT] at hz
  | _ :: _, _, [], hz, _, _ => by simp [zipT] at hz
theorem zipL_s : ∀ (ts : List (Int × Nat)) (os : List (Int × Int)), zipL pc ts os = true → ∀ (x : Int) (d : Nat) (dd : Int), (pc : Int) + dd = (d : Int) → (pc : Int) + Op.lookupswitch.offset os dd x = (swT ts d x : Int)
  | [], [], _, x, d, dd, hd => hd
  | (k, t) :: r, (k2, o) :: os, hz, x, d, dd, hd => by
    simp only [zipL, Bool.and_eq_true] at hz
    obtain ⟨h1, h2, h3⟩ := hz
    have e1 := of_decide_eq_true h1
    have e2 := of_decide_eq_true h2
    subst e1
    rw [Op.lookupswitch.offset_cons]
    by_cases hx : x = k
    · subst hx
      simp only [swT, if_true]
      exact e2
    · rw [if_neg (fun z => hx z.symm)]
      simp only [swT, if_neg hx]
      exact zipL_s r os h3 x d dd hd
  | [], _ :: _, hz, _, _, _, _ => by simp [zipL] at hz
  | _ :: _, [], hz, _, _, _, _ => by simp [zipL] at hz
theorem A_170 (C : Cx G p R s m args meth c y) (hk : ckI y pc (170, nx, a, b, v, ts) = true) (hs : sem (170, nx, a, b, v, ts) (pc, ls, st) h = some (.inl ((pc2, ls2, st2), h2))) (k : Atx G p l e R s m args below meth c Q y n0 z0 h2 pc2 ls2 st2) : Atx G p l e R s m args below meth c Q y n0 z0 h pc ls st := by
  have hk : ck170 y pc (170, nx, a, b, v, ts) = true := hk
  obtain ⟨hx, hb, -⟩ := C
  simp only [sem] at hs
  split at hs
  · rename_i x r
    cases hs
    intro H locs lc hw hS hL
    have K := k H locs lc hw hS hL
    unfold ck170 at hk
    split at hk
    · rename_i d lo hi offs len hd
      simp only [Bool.and_eq_true] at hk
      obtain ⟨e1, e2, e3⟩ := hk
      have t1 := of_decide_eq_true e1
      have t3 := of_decide_eq_true e3
      obtain ⟨z1, z2⟩ := zipT_s (pc := pc) ts lo offs.toList e2 x.toInt a
      by_cases h1 : x.toInt < lo
      · have := z2 (Or.inl h1)
        rw [this] at K
        exact lv_tableOut hx hb hd (Or.inl h1) t1 K
      · by_cases h2 : hi < x.toInt
        · have := z2 (Or.inr (by omega))
          rw [this] at K
          exact lv_tableOut hx hb hd (Or.inr h2) t1 K
        · obtain ⟨o, j1, j2⟩ := z1 (by omega)
          exact lv_tableIn hx hb hd h1 h2 (by rw [← Array.getElem?_toList]; exact j1) j2 K
    · rename_i d ps len hd
      simp only [Bool.and_eq_true] at hk
      obtain ⟨e1, e2, e3⟩ := hk
      have t1 := of_decide_eq_true e1
      exact lv_lookup hx hb hd e3 rfl (zipL_s (pc := pc) ts ps.toList e2 x.toInt a d t1) K
    · cases hk
  · cases hs
theorem ckMM_s {i : aI} {kd : Nat} (hk : ckMM y pc i kd = true) : ∃ (idx : Nat) (q : Nat × Nat × Nat × Nat), decode (mby y) pc = .ok (.invokestatic idx, 3) ∧ i.2.1 = pc + 3 ∧ q ∈ MMd ∧ q.1 = mow y ∧ q.2.1 = idx ∧ q.2.2.1 = kd := by
  unfold ckMM at hk
  split at hk
  · rename_i idx hd
    rw [Bool.and_eq_true] at hk
    obtain ⟨e1, e2⟩ := hk
    obtain ⟨q, hq, e3⟩ := List.any_eq_true.mp e2
    simp only [Bool.and_eq_true] at e3
    exact ⟨idx, q, hd, nxk_s e1, hq, Nat.eq_of_beq_eq_true e3.1, Nat.eq_of_beq_eq_true e3.2.1, Nat.eq_of_beq_eq_true e3.2.2⟩
  · cases hk
theorem A_201 (C : Cx G p R s m args meth c y) (hR : gN h - n0 ≤ R.cells ∧ gZ h - z0 ≤ R.slots) (hk : ckI y pc (201, nx, a, b, v, ts) = true) (hs : sem (201, nx, a, b, v, ts) (pc, ls, st) h = some (.inl ((pc2, ls2, st2), h2))) (k : Atx G p l e R s m args below meth c Q y n0 z0 h2 pc2 ls2 st2) : Atx G p l e R s m args below meth c Q y n0 z0 h pc ls st := by
  have hV := Cx.V C
  obtain ⟨idx, q, hd, k1, k2, k3, k4, k5⟩ := ckMM_s (show ckMM y pc _ 0 = true from hk)
  cases k1
  have hl := mm_0 q k2 k5
  rw [k3, k4] at hl
  obtain ⟨hx, hb, hml, ho, hts, -, -, -, KK, -, hR1, hR2⟩ := C
  simp only [sem] at hs
  split at hs
  · split at hs
    · rename_i z x r hc
      cases hs
      intro H locs lc hw hS hL
      have := cat_le hV hc
      exact va_mmax hx hb (by rw [hL.1, hml]) ho (hts _ (wAll_in hl rfl)) (hts _ (wAll_in sw_ms0 rfl)) (hts _ (wAll_in sw_mi rfl)) (hts _ (wAll_in sw_mc0 rfl)) hR1 (by omega) hR.1 hR.2 hd (k H locs lc hw hS hL)
    · cases hs
  · cases hs
theorem A_202 (C : Cx G p R s m args meth c y) (hR : gN h - n0 ≤ R.cells ∧ gZ h - z0 ≤ R.slots) (hk : ckI y pc (202, nx, a, b, v, ts) = true) (hs : sem (202, nx, a, b, v, ts) (pc, ls, st) h = some (.inl ((pc2, ls2, st2), h2))) (k : Atx G p l e R s m args below meth c Q y n0 z0 h2 pc2 ls2 st2) : Atx G p l e R s m args below meth c Q y n0 z0 h pc ls st := by
  have hV := Cx.V C
  obtain ⟨idx, q, hd, k1, k2, k3, k4, k5⟩ := ckMM_s (show ckMM y pc _ 1 = true from hk)
  cases k1
  have hl := mm_1 q k2 k5
  rw [k3, k4] at hl
  obtain ⟨hx, hb, hml, ho, hts, -, -, -, KK, -, hR1, hR2⟩ := C
  simp only [sem] at hs
  split at hs
  · split at hs
    · rename_i z x r hc
      cases hs
      intro H locs lc hw hS hL
      have := cat_le hV hc
      exact va_mmin hx hb (by rw [hL.1, hml]) ho (hts _ (wAll_in hl rfl)) (hts _ (wAll_in sw_ms1 rfl)) (hts _ (wAll_in sw_mi rfl)) (hts _ (wAll_in sw_mc1 rfl)) hR1 (by omega) hR.1 hR.2 hd (k H locs lc hw hS hL)
    · cases hs
  · cases hs
theorem A_203 (C : Cx G p R s m args meth c y) (hR : gN h - n0 ≤ R.cells ∧ gZ h - z0 ≤ R.slots) (hk : ckI y pc (203, nx, a, b, v, ts) = true) (hs : sem (203, nx, a, b, v, ts) (pc, ls, st) h = some (.inl ((pc2, ls2, st2), h2))) (k : Atx G p l e R s m args below meth c Q y n0 z0 h2 pc2 ls2 st2) : Atx G p l e R s m args below meth c Q y n0 z0 h pc ls st := by
  obtain ⟨idx, q, hd, k1, k2, k3, k4, k5⟩ := ckMM_s (show ckMM y pc _ 2 = true from hk)
  exact absurd k5 (mm_2 q k2)
theorem A_204 (C : Cx G p R s m args meth c y) (hR : gN h - n0 ≤ R.cells ∧ gZ h - z0 ≤ R.slots) (hk : ckI y pc (204, nx, a, b, v, ts) = true) (hs : sem (204, nx, a, b, v, ts) (pc, ls, st) h = some (.inl ((pc2, ls2, st2), h2))) (k : Atx G p l e R s m args below meth c Q y n0 z0 h2 pc2 ls2 st2) : Atx G p l e R s m args below meth c Q y n0 z0 h pc ls st := by
  obtain ⟨idx, q, hd, k1, k2, k3, k4, k5⟩ := ckMM_s (show ckMM y pc _ 3 = true from hk)
  exact absurd k5 (mm_3 q k2)
end SND4
/-! making cells -/
section SND5
variable {G : gX} {p : Program} {l : Launch} {e : Env} {R : Room} {s : State} {m : MethodId} {args : Array Value} {below : List Frame} {meth : Method} {c : Code} {Q : State → Prop} {y n0 z0 : Nat}
variable {pc nx a b pc2 : Nat} {v : Int} {ts : List (Int × Nat)} {ls ls2 st st2 : List Value} {h h2 : aH}
theorem ga_new {h : aH} {H : Heap} (hw : WD G h H) : H.size = ga G (gN h) := by
  unfold ga
  have := hw.2.1
  rw [if_neg (by omega)]
  exact hw.1
theorem WD.new {h : aH} {H H1 : Heap} {q : Nat × Nat} {zz : Nat} (hw : WD G h H) (hq : q.1 ≤ 6) (hq0 : q.1 = 0 → q.2 < 12) (e : va_at (xC G, xI G) kclL (ga G (gN h), ce G (pN h q zz) (gN h)) H1) (z : H1.size = H.size + 1) (oq : ∀ x : Nat, x < H.size → H1[x]? = H[x]?) : WD G (pN h q zz) H1 := by
  obtain ⟨w1, w2, w3, w4, r0, rx, r1, r2, ra, r3, r4, rb⟩ := hw
  have sS : ∀ j, j ≠ gN h → gS (pN h q zz) j = gS h j := fun j hj => by simp [gS, pN, hj]
  have sM : ∀ j i, j ≠ gN h → gM (pN h q zz) j i = gM h j i := fun j i hj => by simp [gM, pN, hj]
  have sN : gN (pN h q zz) = gN h + 1 := rfl
  refine ⟨by rw [z, sN, w1]; omega, by rw [sN]; omega, fun j h1 hj => ?_, fun j hj => ?_, by rw [sS 0 (by omega)]; exact r0, fun j => by rw [sM 0 j (by omega)]; exact rx j, by rw [sS 1 (by omega)]; exact r1, by rw [sS 2 (by omega)]; exact r2, fun j => by rw [sM 2 j (by omega)]; exact ra j, by rw [sS 3 (by omega)]; exact r3, by rw [sS 4 (by omega)]; exact r4, fun j => by rw [sM 4 j (by omega)]; exact rb j⟩
  · rw [sN] at hj
    by_cases ej : j = gN h
    · subst ej
      have e1 : gS (pN h q zz) (gN h) = q := by simp [gS, pN]
      rw [e1]
      exact ⟨e, hq, hq0⟩
    · obtain ⟨a1, a2⟩ := w3 j h1 (by omega)
      rw [sS j ej]
      refine ⟨?_, a2⟩
      have ec : ce G (pN h q zz) j = ce G h j := ce_eq (sS j ej) (funext fun i => sM j i ej) (funext fun i => by simp [gL, pN, ej]) (funext fun i => by simp [gR, pN, ej]) (by simp [gQ, pN, ej])
      rw [ec]
      exact a1.kept (oq _ (by
        show ga G j < H.size
        unfold ga
        rw [if_neg (by omega)]
        omega))
  · rw [sN] at hj
    rw [sS j (by omega)]
    exact w4 j (by omega)
theorem va_S.grow {A : Nat → Prop} {H0 H H1 : Heap} {locs : List Loc} (h : va_S A H0 H locs) (z : H.size ≤ H1.size) (oq : ∀ x : Nat, x < H.size → H1[x]? = H[x]?) : va_S A H0 H1 locs := ⟨Nat.le_trans h.1 z, fun q h1 h2 => by rw [oq q (Nat.lt_of_lt_of_le h1 h.1)]; exact h.2.1 q h1 h2, h.2.2⟩
theorem A_187 (C : Cx G p R s m args meth c y) (h0 : n0 ≤ gN h ∧ z0 ≤ gZ h) (hR : gN h2 - n0 ≤ R.cells ∧ gZ h2 - z0 ≤ R.slots) (hk : ckI y pc (187, nx, a, b, v, ts) = true) (hs : sem (187, nx, a, b, v, ts) (pc, ls, st) h = some (.inl ((pc2, ls2, st2), h2))) (k : Atx G p l e R s m args below meth c Q y n0 z0 h2 pc2 ls2 st2) : Atx G p l e R s m args below meth c Q y n0 z0 h pc ls st := by
  have hk : ck187 y pc (187, nx, a, b, v, ts) = true := hk
  unfold ck187 at hk
  split at hk
  · rename_i idx hd
    simp only [Bool.and_eq_true] at hk
    obtain ⟨e1, e2, e3, e4⟩ := hk
    cases nxk_s e1
    have hci : a < 12 := Nat.le_of_ble_eq_true e3
    have eb : b = kN a := Nat.eq_of_beq_eq_true e4
    subst eb
    obtain ⟨hx, hb, hml, ho, hts, -, -, -, KK, -, hR1, hR2⟩ := C
    cases hs
    obtain ⟨i1, i2⟩ := in_inst a hci
    intro H locs lc hw hS hL
    have hKn := KK.1.1 a _ (kcl_eq a hci)
    have g1 : gN (pN h (0, a) (kN a)) = gN h + 1 := rfl
    have g2 : gZ (pN h (0, a) (kN a)) = gZ h + kN a := rfl
    rw [g1, g2] at hR
    refine W.newcK hx hb ho (hts _ (wAll_in (inCL_w e2) rfl)) (hts _ (wAll_in i1 rfl)) (hts _ (wAll_in i2 rfl)) rfl hd (by omega) (by omega) hKn.2.1 (ga_new hw) fun H1 kCl hkC f1 f2 f3 => ?_
    have hoq : ∀ x : Nat, x < H.size → H1[x]? = H[x]? := fun x hx => f3 x (by rw [← ga_new hw]; exact hx)
    have hz : H1.size = H.size + 1 := by rw [f2, ga_new hw]
    refine W.cs (show gN h - n0 + 1 = gN (pN h (0, a) (kN a)) - n0 by rw [g1]; omega) (show gZ h - z0 + kN a = gZ (pN h (0, a) (kN a)) - z0 by rw [g2]; omega) ?_
    refine k H1 locs lc (hw.new (Nat.zero_le _) (fun _ => hci) ?_ hz hoq) (va_S.grow hS (by omega) hoq) hL
    rw [ce_0 (show gS (pN h (0, a) (kN a)) (gN h) = (0, a) by simp [gS, pN])]
    refine ⟨_, kcl_eq a hci, (u_born (kyt a) hts (in_uA hci) hKn hkC f1 (fun j hj => f_ty hci hj)).to (fun j hj => ?_)⟩
    unfold vp_V
    rw [List.getD_eq_getElem?_getD, List.getElem?_map, List.getElem?_range hj]
    obtain ⟨q0, q1, q2⟩ := f_kd hci hj
    have hh := f_ok a hci j hj
    unfold fOk at hh
    rw [Bool.and_eq_true] at hh
    have h3 := hh.2
    have dref : ∀ ty : FieldType, ty.isReference = true → defaultValue ty = .null := by
      intro ty h
      cases ty <;> first | rfl | (simp [FieldType.isReference] at h)
    show defaultValue (kyt a j) = cv G (fV (pN h (0, a) (kN a)) (gN h) a j)
    unfold fV
    split at h3
    · rename_i e
      rw [q0 e, e]
      simp [gM, pN, cv, defaultValue]
    · rename_i e
      rw [q1 e, e]
      simp [gM, pN, cv, defaultValue]
    · rename_i e
      rw [dref _ (q2 (Or.inl e)), e]
      simp [gR, pN, cv, rfV]
    · rename_i e
      rw [dref _ (q2 (Or.inr e)), e]
      simp [gQ, pN, cv, rfV]
    · cases h3
  · cases hk
theorem n_pos {n : Int32} (h : 0 ≤ n.toInt) : ¬ n < 0 := by
  rw [Int32.lt_iff_toInt_lt, Int32.toInt_zero]
  omega
theorem A_188 (C : Cx G p R s m args meth c y) (h0 : n0 ≤ gN h ∧ z0 ≤ gZ h) (hR : gN h2 - n0 ≤ R.cells ∧ gZ h2 - z0 ≤ R.slots) (hk : ckI y pc (188, nx, a, b, v, ts) = true) (hs : sem (188, nx, a, b, v, ts) (pc, ls, st) h = some (.inl ((pc2, ls2, st2), h2))) (k : Atx G p l e R s m args below meth c Q y n0 z0 h2 pc2 ls2 st2) : Atx G p l e R s m args below meth c Q y n0 z0 h pc ls st := by
  have hk : ck188 y pc (188, nx, a, b, v, ts) = true := hk
  unfold ck188 at hk
  split at hk
  · rename_i t hd
    simp only [Bool.and_eq_true] at hk
    obtain ⟨e1, e2, e3, e4⟩ := hk
    cases nxk_s e1
    have et := of_decide_eq_true e2
    subst et
    have ha1 := Nat.le_of_ble_eq_true e3
    have ha2 := Nat.le_of_ble_eq_true e4
    obtain ⟨hx, hb, hml, ho, hts, -, -, -, KK, -, hR1, hR2⟩ := C
    simp only [sem] at hs
    split at hs
    · split at hs
      · rename_i n r hn
        obtain ⟨hn0, hn1⟩ := hn
        cases hs
        have g1 : gN (pN h (a, n.toInt.toNat) n.toInt.toNat) = gN h + 1 := rfl
        have g2 : gZ (pN h (a, n.toInt.toNat) n.toInt.toNat) = gZ h + n.toInt.toNat := rfl
        rw [g1, g2] at hR
        have eS : gS (pN h (a, n.toInt.toNat) n.toInt.toNat) (gN h) = (a, n.toInt.toNat) := by simp [gS, pN]
        intro H locs lc hw hS hL
        rcases (show a = 1 ∨ a = 2 ∨ a = 3 ∨ a = 4 by omega) with rfl | rfl | rfl | rfl
        · refine va_newaK hx hb (show (Cond.arrayClass (newarray.typeOf (atC 1))).before args s = true from hts _ (wAll_in sw_aint rfl)) rfl hd rfl (n_pos hn0) rfl (by show n.toInt.toNat * 4 ≤ _; omega) (by omega) (by show _ + n.toInt.toNat ≤ _; omega) (ga_new hw) fun H1 cA f1 f2 f3 f4 f5 => ?_
          cases (show some cA = some (xA G 1) from f5.symm.trans (KK.1.2 0 _ rfl).2)
          have hoq : ∀ x : Nat, x < H.size → H1[x]? = H[x]? := fun x hx => f3 x (by rw [← ga_new hw]; exact hx)
          refine W.cs (show gN h - n0 + 1 = gN (pN h (1, n.toInt.toNat) n.toInt.toNat) - n0 by rw [g1]; omega) (show gZ h - z0 + n.toInt.toNat = gZ (pN h (1, n.toInt.toNat) n.toInt.toNat) - z0 by rw [g2]; omega) ?_
          refine k H1 locs lc (hw.new (Nat.le_of_ble_eq_true rfl) (fun z => by cases z) ?_ (by rw [f2, ga_new hw]) hoq) (va_S.grow hS (by rw [f2, ga_new hw]; omega) hoq) hL
          rw [ce_1 eS]
          show H1[ga G (gN h)]? = some (vp_cell _ _)
          rw [f1, vp_cell_i]
          simp [gM, pN]
          rfl
        · refine va_newaK hx hb (show (Cond.arrayClass (newarray.typeOf (atC 2))).before args s = true from hts _ (wAll_in sw_aboolean rfl)) rfl hd rfl (n_pos hn0) rfl (by show n.toInt.toNat * 1 ≤ _; omega) (by omega) (by show _ + n.toInt.toNat ≤ _; omega) (ga_new hw) fun H1 cA f1 f2 f3 f4 f5 => ?_
          cases (show some cA = some (xA G 2) from f5.symm.trans (KK.1.2 1 _ rfl).2)
          have hoq : ∀ x : Nat, x < H.size → H1[x]? = H[x]? := fun x hx => f3 x (by rw [← ga_new hw]; exact hx)
          refine W.cs (show gN h - n0 + 1 = gN (pN h (2, n.toInt.toNat) n.toInt.toNat) - n0 by rw [g1]; omega) (show gZ h - z0 + n.toInt.toNat = gZ (pN h (2, n.toInt.toNat) n.toInt.toNat) - z0 by rw [g2]; omega) ?_
          refine k H1 locs lc (hw.new (Nat.le_of_ble_eq_true rfl) (fun z => by cases z) ?_ (by rw [f2, ga_new hw]) hoq) (va_S.grow hS (by rw [f2, ga_new hw]; omega) hoq) hL
          rw [ce_2 eS]
          show H1[ga G (gN h)]? = some (vp_cell _ _)
          rw [f1, vp_cell_i]
          simp [gM, pN]
          rfl
        · refine va_newaK hx hb (show (Cond.arrayClass (newarray.typeOf (atC 3))).before args s = true from hts _ (wAll_in sw_abyte rfl)) rfl hd rfl (n_pos hn0) rfl (by show n.toInt.toNat * 1 ≤ _; omega) (by omega) (by show _ + n.toInt.toNat ≤ _; omega) (ga_new hw) fun H1 cA f1 f2 f3 f4 f5 => ?_
          cases (show some cA = some (xA G 3) from f5.symm.trans (KK.1.2 2 _ rfl).2)
          have hoq : ∀ x : Nat, x < H.size → H1[x]? = H[x]? := fun x hx => f3 x (by rw [← ga_new hw]; exact hx)
          refine W.cs (show gN h - n0 + 1 = gN (pN h (3, n.toInt.toNat) n.toInt.toNat) - n0 by rw [g1]; omega) (show gZ h - z0 + n.toInt.toNat = gZ (pN h (3, n.toInt.toNat) n.toInt.toNat) - z0 by rw [g2]; omega) ?_
          refine k H1 locs lc (hw.new (Nat.le_of_ble_eq_true rfl) (fun z => by cases z) ?_ (by rw [f2, ga_new hw]) hoq) (va_S.grow hS (by rw [f2, ga_new hw]; omega) hoq) hL
          rw [ce_3 eS]
          show H1[ga G (gN h)]? = some (vp_cell _ _)
          rw [f1, vp_cell_i]
          simp [gM, pN]
          rfl
        · refine va_newaK hx hb (show (Cond.arrayClass (newarray.typeOf (atC 4))).before args s = true from hts _ (wAll_in sw_along rfl)) rfl hd rfl (n_pos hn0) rfl (by show n.toInt.toNat * 8 ≤ _; omega) (by omega) (by show _ + n.toInt.toNat ≤ _; omega) (ga_new hw) fun H1 cA f1 f2 f3 f4 f5 => ?_
          cases (show some cA = some (xA G 4) from f5.symm.trans (KK.1.2 3 _ rfl).2)
          have hoq : ∀ x : Nat, x < H.size → H1[x]? = H[x]? := fun x hx => f3 x (by rw [← ga_new hw]; exact hx)
          refine W.cs (show gN h - n0 + 1 = gN (pN h (4, n.toInt.toNat) n.toInt.toNat) - n0 by rw [g1]; omega) (show gZ h - z0 + n.toInt.toNat = gZ (pN h (4, n.toInt.toNat) n.toInt.toNat) - z0 by rw [g2]; omega) ?_
          refine k H1 locs lc (hw.new (Nat.le_of_ble_eq_true rfl) (fun z => by cases z) ?_ (by rw [f2, ga_new hw]) hoq) (va_S.grow hS (by rw [f2, ga_new hw]; omega) hoq) hL
          rw [ce_4 eS]
          show H1[ga G (gN h)]? = some (vp_cell _ _)
          rw [f1, vp_cell_l]
          simp [gL, pN]
          rfl
      · cases hs
    · cases hs
  · cases hk
theorem A_189 (C : Cx G p R s m args meth c y) (h0 : n0 ≤ gN h ∧ z0 ≤ gZ h) (hR : gN h2 - n0 ≤ R.cells ∧ gZ h2 - z0 ≤ R.slots) (hk : ckI y pc (189, nx, a, b, v, ts) = true) (hs : sem (189, nx, a, b, v, ts) (pc, ls, st) h = some (.inl ((pc2, ls2, st2), h2))) (k : Atx G p l e R s m args below meth c Q y n0 z0 h2 pc2 ls2 st2) : Atx G p l e R s m args below meth c Q y n0 z0 h pc ls st := by
  have hk : ck189 y pc (189, nx, a, b, v, ts) = true := hk
  unfold ck189 at hk
  split at hk
  · rename_i idx hd
    simp only [Bool.and_eq_true] at hk
    obtain ⟨e1, e2⟩ := hk
    cases nxk_s e1
    obtain ⟨hx, hb, hml, ho, hts, -, -, -, KK, -, hR1, hR2⟩ := C
    simp only [sem] at hs
    split at hs
    · split at hs
      · rename_i n r hn
        obtain ⟨hn0, hn1⟩ := hn
        cases hs
        have g1 : gN (pN h (5, n.toInt.toNat) n.toInt.toNat) = gN h + 1 := rfl
        have g2 : gZ (pN h (5, n.toInt.toNat) n.toInt.toNat) = gZ h + n.toInt.toNat := rfl
        rw [g1, g2] at hR
        have eS : gS (pN h (5, n.toInt.toNat) n.toInt.toNat) (gN h) = (5, n.toInt.toNat) := by simp [gS, pN]
        intro H locs lc hw hS hL
        refine W.anew (C := "ByThePound$Law") hx hb ho (hts _ (wAll_in (inCL_w e2) rfl)) (va_AO.use (KK.2.2.2.2.2.2.2.2.2.2.1)) rfl hd rfl (n_pos hn0) (by show n.toInt.toNat * 4 ≤ _; omega) (by omega) (by show _ + n.toInt.toNat ≤ _; omega) fun cA kA comp f1 f2 f3 f4 => ?_
        obtain ⟨_, _, -, -, -, f5⟩ := (KK.1.2 4 _ rfl).2
        cases (show some cA = some (xA G 5) from f1.symm.trans f5)
        have hoq : ∀ x : Nat, x < H.size → (H.push { cls := xA G 5, slots := Array.replicate n.toNatClampNeg .null, vm := .none })[x]? = H[x]? := fun x hx => by rw [Array.getElem?_push, if_neg (Nat.ne_of_lt hx)]
        rw [ga_new hw]
        refine W.cs (show gN h - n0 + 1 = gN (pN h (5, n.toInt.toNat) n.toInt.toNat) - n0 by rw [g1]; omega) (show gZ h - z0 + n.toInt.toNat = gZ (pN h (5, n.toInt.toNat) n.toInt.toNat) - z0 by rw [g2]; omega) ?_
        refine k _ locs lc (hw.new (Nat.le_of_ble_eq_true rfl) (fun z => by cases z) ?_ (by simp) hoq) (va_S.grow hS (by simp) hoq) hL
        rw [ce_5 eS]
        show (H.push _)[ga G (gN h)]? = some (vp_cell _ _)
        rw [← ga_new hw, Array.getElem?_push_size, arrV_new, vp_cell_q]
        simp [gR, pN]
        rfl
      · cases hs
    · cases hs
  · cases hk
theorem A_83 (C : Cx G p R s m args meth c y) (hk : ckI y pc (83, nx, a, b, v, ts) = true) (hs : sem (83, nx, a, b, v, ts) (pc, ls, st) h = some (.inl ((pc2, ls2, st2), h2))) (k : Atx G p l e R s m args below meth c Q y n0 z0 h2 pc2 ls2 st2) : Atx G p l e R s m args below meth c Q y n0 z0 h pc ls st := by
  have hk : (dk y pc .aastore (83, nx, a, b, v, ts) && Nat.beq a 1) = true := hk
  rw [Bool.and_eq_true] at hk
  obtain ⟨hk, ha⟩ := hk
  cases Nat.eq_of_beq_eq_true ha
  obtain ⟨hx, hb, -, -, -, -, -, -, KK, -⟩ := C
  obtain ⟨hd, hn⟩ := dk_s hk
  cases hn
  simp only [sem] at hs
  split at hs
  · rename_i x i q r
    split at hs
    · rename_i hc
      obtain ⟨ht, hx5, hr⟩ := hc
      cases hs
      intro H locs lc hw hS hL
      obtain ⟨h5, hN, hat⟩ := hw.cell (k := q) (by omega)
      obtain ⟨-, -, hatx⟩ := hw.cell (k := x) (by rw [hx5]; exact Nat.zero_le _)
      rw [ce_5 (prod_of ht)] at hat
      rw [ce_0 hx5] at hatx
      obtain ⟨rr, -, cellV, g1, g2, g3, -⟩ := hatx
      have hcls := (KK.1.1 1 _ (kcl_eq 1 (by omega))).2
      obtain ⟨kA, comp, k1, k2, k3, -⟩ := (KK.1.2 4 _ rfl).2
      cases (show some comp = some (xC G 1) from k3.symm.trans hcls.1)
      have hasg := va_assign hcls
      obtain ⟨kCl, hkC, -⟩ := hcls.2
      refine W.aast hx hb (show H[ga G q]? = some (arrV (xA G 5) (gS h q).2 (fun j => va_rf ((gR h q j).map (ga G)))) from hat) (fun q h => by cases h) (fun h => by cases h) k1 k2 rfl hkC ⟨n_pos hr.1, by rw [arrV_size]; exact ix_lt hr⟩ g1 (fun q h => by rw [g3] at h; cases h) (by rw [g2]; exact hkC) (by rw [g2]; exact hasg) rfl rfl hd fun H1 e1 z1 oq => ?_
      refine k H1 _ lc (hw.put (k := q) h5 hN ?_ z1 oq (fun j => rfl) rfl (fun j hj => ?_) (fun j z hj => rfl)) (hS.put z1 oq (ga_AA h5)) hL
      · rw [ce_5 (show gS (pR h q (ix i) (some x)) q = (5, (gS h q).2) from prod_of ht)]
        show H1[ga G q]? = some (vp_cell _ _)
        rw [e1, arrV_store, vp_cell_q]
        congr 2
        funext z
        by_cases hz : z = ix i
        · subst hz
          simp [updV, gR, pR, ix, va_rf]
        · have hz' : z ≠ i.toNatClampNeg := hz
          simp [updV, gR, pR, hz, hz']
      · exact ce_eq rfl rfl rfl (funext fun z => by simp [gR, pR, hj]) rfl
    · cases hs
  · cases hs
theorem A_184 (C : Cx G p R s m args meth c y) (hk : ckI y pc (184, nx, a, b, v, ts) = true) (hs : sem (184, nx, a, b, v, ts) (pc, ls, st) h = some (.inl ((pc2, ls2, st2), h2))) (k : Atx G p l e R s m args below meth c Q y n0 z0 h2 pc2 ls2 st2) : Atx G p l e R s m args below meth c Q y n0 z0 h pc ls st := by
  have hV := Cx.V C
  have hT := K_ty C (t := 1) (k := 0) rfl
  have hk : ckAC y pc (184, nx, a, b, v, ts) = true := hk
  unfold ckAC at hk
  split at hk
  · rename_i idx hd
    simp only [Bool.and_eq_true] at hk
    obtain ⟨e1, e2, e3⟩ := hk
    cases nxk_s e1
    have ho := o_own C (Nat.eq_of_beq_eq_true e2)
    cases Nat.eq_of_beq_eq_true e3
    obtain ⟨hx, hb, hml, -, hts, -, -, -, KK, -, hR1, hR2⟩ := C
    simp only [sem] at hs
    split at hs
    · split at hs
      · rename_i n dp qd sp qs r hc
        obtain ⟨⟨t1, t2, hcat⟩, ⟨p1, p2, p3⟩, l1, l2⟩ := hc
        cases hs
        intro H locs lc hw hS hL
        obtain ⟨hs5, hsN, hats⟩ := hw.cell (k := qs) (by omega)
        obtain ⟨hd5, hdN, hatd⟩ := hw.cell (k := qd) (by omega)
        rw [ce_1 (prod_of t1)] at hats
        rw [ce_1 (prod_of t2)] at hatd
        have hcs : H[ga G qs]? = some (vp_cell (xA G 1) ((gS h qs).2, .inl (gM h qs))) := hats
        have hcd : H[ga G qd]? = some (vp_cell (xA G 1) ((gS h qd).2, .inl (gM h qd))) := hatd
        obtain ⟨-, kI, hkI, cmI, hkkI⟩ := hT 0 (fun _ => .null)
        have hsum := cat_le hV hcat
        have es : ∀ z : Int32, z.toNatClampNeg = ix z := fun _ => rfl
        have ei : ∀ z : Int32, 0 ≤ z.toInt → (ix z : Int) = z.toInt := fun z hz => by unfold ix; show ((z.toInt.toNat : Nat) : Int) = _; omega
        have b1 : ix sp + ix n ≤ (gS h qs).2 := by have := ei sp p1; have := ei n p3; omega
        have b2 : ix dp + ix n ≤ (gS h qd).2 := by have := ei dp p2; have := ei n p3; omega
        have nfw : nativeFrameWords "java/lang/System" "arraycopy" 5 = 7 := by decide +kernel
        intro T hTh X
        obtain ⟨vm', X', step⟩ := X.arraycopy hx ho (hts _ (wAll_in sw_acl rfl)) (hts _ (wAll_in sw_acn rfl)) (hts _ (wAll_in sw_acs rfl)) (hts _ (wAll_in sw_aci rfl)) (cs := vp_cell (xA G 1) ((gS h qs).2, .inl (gM h qs))) (cd := vp_cell (xA G 1) ((gS h qd).2, .inl (gM h qd))) (src := ga G qs) (dst := ga G qd) (srcPos := sp) (destPos := dp) (n := n) (by rw [hTh]; exact hcs) (by rw [hTh]; exact hcd)
          (fun _ h => by cases h) (fun _ h => by cases h) (fun h => by cases h) (fun h => by cases h) hkI hkI hkkI hkkI (by decide) (n_pos p1) (n_pos p2) (n_pos p3)
          (by show ¬ _ > ((arrV (xA G 1) (gS h qs).2 (fun j => .int (gM h qs j))).slots.size : Int); rw [arrV_size]; omega)
          (by show ¬ _ > ((arrV (xA G 1) (gS h qd).2 (fun j => .int (gM h qd j))).slots.size : Int); rw [arrV_size]; omega)
          (fun vm₁ _ i hi => by
            have e : (vp_cell (xA G 1) ((gS h qs).2, .inl (gM h qs))).slots.getD (sp.toNatClampNeg + i) .null = .int (gM h qs (sp.toNatClampNeg + i)) := by
              show (arrV (xA G 1) (gS h qs).2 (fun j => .int (gM h qs j))).slots.getD _ _ = _
              rw [Array.getD_eq_getD_getElem?, arrV_read _ _ (by rw [es] at hi ⊢; omega)]
              rfl
            rw [e]
            exact ⟨rfl, trivial⟩)
          (g := F0 m pc lc (.int n :: .int dp :: .ref (ga G qd) :: .int sp :: .ref (ga G qs) :: st2.map (cv G))) rfl (by show lc.size = _; rw [hL.1, hml]) (rest := st2.map (cv G)) rfl (by rw [hb]; exact hd) hR1 (by show 2 * 0 + _ + _ ≤ _; rw [nfw]; omega)
        have e1 : copied (vp_cell (xA G 1) ((gS h qs).2, .inl (gM h qs))) (vp_cell (xA G 1) ((gS h qd).2, .inl (gM h qd))) sp dp n = vp_cell (xA G 1) ((gS h qd).2, .inl (va_cpy (gM h qs) (gM h qd) (ix sp) (ix dp) (ix n))) := va_copied (fun z => .int z) (xA G 1) (xA G 1) (gM h qs) (gM h qd) b1
        rw [e1] at X' step
        have hl : ga G qd < H.size := (Array.getElem?_eq_some_iff.mp hcd).1
        have hheap : ((T.setVm vm').setCell (ga G qd) (vp_cell (xA G 1) ((gS h qd).2, .inl (va_cpy (gM h qs) (gM h qd) (ix sp) (ix dp) (ix n))))).heap = H.setIfInBounds (ga G qd) (vp_cell (xA G 1) ((gS h qd).2, .inl (va_cpy (gM h qs) (gM h qd) (ix sp) (ix dp) (ix n)))) := by rw [← hTh]; rfl
        have oq : ∀ q : Nat, q ≠ ga G qd → (H.setIfInBounds (ga G qd) (vp_cell (xA G 1) ((gS h qd).2, .inl (va_cpy (gM h qs) (gM h qd) (ix sp) (ix dp) (ix n)))))[q]? = H[q]? := fun q hq => by simp [Array.getElem?_setIfInBounds, Ne.symm hq]
        have hwd : WD G (pC h qs (ix sp) qd (ix dp) (ix n)) (H.setIfInBounds (ga G qd) (vp_cell (xA G 1) ((gS h qd).2, .inl (va_cpy (gM h qs) (gM h qd) (ix sp) (ix dp) (ix n))))) := by
          refine hw.put (k := qd) hd5 hdN ?_ (by simp) oq (fun j => rfl) rfl (fun j hj => ?_) (fun j z hj => ?_)
          · rw [ce_1 (show gS (pC h qs (ix sp) qd (ix dp) (ix n)) qd = (1, (gS h qd).2) from prod_of t2)]
            show (H.setIfInBounds (ga G qd) _)[ga G qd]? = some (vp_cell _ _)
            rw [Array.getElem?_setIfInBounds_self_of_lt hl]
            congr 4
            funext z
            simp [va_cpy, gM, pC]
          · exact ce_eq rfl (funext fun z => by simp [gM, pC, hj]) rfl rfl rfl
          · simp [gM, pC, show j ≠ qd by omega]
        obtain ⟨t, a1, b3⟩ := k _ _ lc hwd ⟨by simp; exact hS.1, fun q g1 g2 => by
            rw [oq q (fun e => g2 (by rw [e]; exact ga_AA hd5))]
            exact hS.2.1 q g1 g2, fun q hq => by
            rcases List.mem_append.mp hq with h | h
            · exact hS.2.2 q h
            · obtain ⟨z, -, hz⟩ := List.mem_map.mp h
              rw [← hz]
              exact ga_AA hd5⟩ hL _ hheap X'
        exact ⟨t, step t a1, b3⟩
      · cases hs
    · cases hs
  · cases hk
end SND5
