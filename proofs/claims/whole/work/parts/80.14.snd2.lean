/-! SOUNDNESS: reading and writing the heap -/
theorem ga_in {G : gX} {i j : Nat} (hi : 5 ≤ i) (hj : 5 ≤ j) (h : ga G i = ga G j) : i = j := by
  unfold ga at h
  rw [if_neg (by omega), if_neg (by omega)] at h
  omega
theorem ga_AA {G : gX} {k : Nat} (h : 5 ≤ k) : AA G (ga G k) := by
  unfold AA ga
  rw [if_neg (by omega)]
  omega
theorem WD.cell {G : gX} {h : aH} {H : Heap} (hw : WD G h H) {k : Nat} (ht : (gS h k).1 ≤ 6) : 5 ≤ k ∧ k < gN h ∧ va_at (xC G, xI G) kclL (ga G k, ce G h k) H := by
  obtain ⟨w1, w2, w3, w4, r0, -, r1, r2, -, r3, r4, -⟩ := hw
  have h5 : 5 ≤ k := by
    rcases Nat.lt_or_ge k 5 with q | q
    · exfalso
      rcases (show k = 0 ∨ k = 1 ∨ k = 2 ∨ k = 3 ∨ k = 4 by omega) with rfl | rfl | rfl | rfl | rfl
      · rw [r0] at ht; simp at ht
      · rw [r1] at ht; simp at ht
      · rw [r2] at ht; simp at ht
      · rw [r3] at ht; simp at ht
      · rw [r4] at ht; simp at ht
    · exact q
  have hN : k < gN h := by
    rcases Nat.lt_or_ge k (gN h) with q | q
    · exact q
    · rw [w4 k q] at ht; simp at ht
  exact ⟨h5, hN, (w3 k h5 hN).1⟩
theorem WD.put {G : gX} {h h2 : aH} {H H1 : Heap} {k : Nat} (hw : WD G h H) (h5 : 5 ≤ k) (hN : k < gN h) (e : va_at (xC G, xI G) kclL (ga G k, ce G h2 k) H1) (z : H1.size = H.size) (oq : ∀ q : Nat, q ≠ ga G k → H1[q]? = H[q]?) (eS : ∀ j, gS h2 j = gS h j) (eN : gN h2 = gN h) (eC : ∀ j, j ≠ k → ce G h2 j = ce G h j) (eM : ∀ j i, j < 5 → gM h2 j i = gM h j i) : WD G h2 H1 := by
  obtain ⟨w1, w2, w3, w4, r0, rx, r1, r2, ra, r3, r4, rb⟩ := hw
  refine ⟨by rw [z, eN]; exact w1, by rw [eN]; exact w2, fun j h1 hj => ?_, fun j hj => ?_, by rw [eS]; exact r0, fun j => by rw [eM 0 j (by omega)]; exact rx j, by rw [eS]; exact r1, by rw [eS]; exact r2, fun j => by rw [eM 2 j (by omega)]; exact ra j, by rw [eS]; exact r3, by rw [eS]; exact r4, fun j => by rw [eM 4 j (by omega)]; exact rb j⟩
  · rw [eN] at hj
    obtain ⟨a1, a2⟩ := w3 j h1 hj
    rw [eS]
    refine ⟨?_, a2⟩
    by_cases ej : j = k
    · subst ej
      exact e
    · rw [eC j ej]
      exact a1.kept (oq _ (fun q => ej (ga_in h1 h5 q)))
  · rw [eN] at hj
    rw [eS]
    exact w4 j hj
theorem ce_1 {G : gX} {h : aH} {k n : Nat} (e : gS h k = (1, n)) : ce G h k = .inl (xA G 1, n, .inl (gM h k)) := by unfold ce; rw [e]; rfl
theorem ce_2 {G : gX} {h : aH} {k n : Nat} (e : gS h k = (2, n)) : ce G h k = .inl (xA G 2, n, .inl (gM h k)) := by unfold ce; rw [e]; rfl
theorem ce_3 {G : gX} {h : aH} {k n : Nat} (e : gS h k = (3, n)) : ce G h k = .inl (xA G 3, n, .inl (gM h k)) := by unfold ce; rw [e]; rfl
theorem ce_4 {G : gX} {h : aH} {k n : Nat} (e : gS h k = (4, n)) : ce G h k = .inl (xA G 4, n, .inr (.inl (gL h k))) := by unfold ce; rw [e]; rfl
theorem ce_5 {G : gX} {h : aH} {k n : Nat} (e : gS h k = (5, n)) : ce G h k = .inl (xA G 5, n, .inr (.inr (.inr (.inr (fun i => (gR h k i).map (ga G)))))) := by unfold ce; rw [e]; rfl
theorem ce_6 {G : gX} {h : aH} {k n : Nat} (e : gS h k = (6, n)) : ce G h k = .inl (xA G 6, n, .inr (.inr (.inr (.inr (fun i => (gR h k i).map (ga G)))))) := by unfold ce; rw [e]; rfl
theorem ce_0 {G : gX} {h : aH} {k n : Nat} (e : gS h k = (0, n)) : ce G h k = .inr (n, (List.range (kN n)).map (fun j => cv G (fV h k n j))) := by unfold ce; rw [e]; rfl
theorem ce_eq {G : gX} {h h2 : aH} {j : Nat} (eS : gS h2 j = gS h j) (eM : gM h2 j = gM h j) (eL : gL h2 j = gL h j) (eR : gR h2 j = gR h j) (eQ : gQ h2 j = gQ h j) : ce G h2 j = ce G h j := by
  unfold ce ceB fV
  rw [eS, eM, eL, eR, eQ]
theorem cv_rf (G : gX) (r : Option Nat) : cv G (rfV r) = va_rf (r.map (ga G)) := by cases r <;> rfl
theorem prod_of {q : Nat × Nat} {t : Nat} (h : q.1 = t) : q = (t, q.2) := by rw [← h]
theorem vin_of {i : Int32} {n : Nat} (h : 0 ≤ i.toInt ∧ i.toInt < n) : vp_in i n := vp_in_iff.mpr h
theorem ix_lt {i : Int32} {n : Nat} (h : 0 ≤ i.toInt ∧ i.toInt < n) : ix i < n := by
  unfold ix
  show i.toInt.toNat < n
  omega
section SND2
variable {G : gX} {p : Program} {l : Launch} {e : Env} {R : Room} {s : State} {m : MethodId} {args : Array Value} {below : List Frame} {meth : Method} {c : Code} {Q : State → Prop} {y n0 z0 : Nat}
variable {pc nx a b pc2 : Nat} {v : Int} {ts : List (Int × Nat)} {ls ls2 st st2 : List Value} {h h2 : aH}
theorem RO_tag {h : aH} {H : Heap} (hw : WD G h H) {q t : Nat} (ht : (gS h q).1 = t) (h7 : 7 ≤ t) (h9 : t ≤ 9) : q < 5 := by
  obtain ⟨w1, w2, w3, w4, -⟩ := hw
  rcases Nat.lt_or_ge q 5 with z | z
  · exact z
  · exfalso
    rcases Nat.lt_or_ge q (gN h) with y1 | y1
    · have := (w3 q z y1).2.1
      omega
    · have := w4 q y1
      omega
theorem RO_7 {h : aH} {H : Heap} (hw : WD G h H) {q : Nat} (ht : (gS h q).1 = 7) : q = 0 := by
  have h5 := RO_tag hw ht (by omega) (by omega)
  obtain ⟨-, -, -, -, r0, -, r1, r2, -, r3, r4, -⟩ := hw
  rcases (show q = 0 ∨ q = 1 ∨ q = 2 ∨ q = 3 ∨ q = 4 by omega) with rfl | rfl | rfl | rfl | rfl
  · rfl
  · rw [r1] at ht; simp at ht
  · rw [r2] at ht; simp at ht
  · rw [r3] at ht; simp at ht
  · rw [r4] at ht; simp at ht
theorem RO_8 {h : aH} {H : Heap} (hw : WD G h H) {q : Nat} (ht : (gS h q).1 = 8) : ∃ i, i < 2 ∧ q = 2 * i + 1 := by
  have h5 := RO_tag hw ht (by omega) (by omega)
  obtain ⟨-, -, -, -, r0, -, r1, r2, -, r3, r4, -⟩ := hw
  rcases (show q = 0 ∨ q = 1 ∨ q = 2 ∨ q = 3 ∨ q = 4 by omega) with rfl | rfl | rfl | rfl | rfl
  · rw [r0] at ht; simp at ht
  · exact ⟨0, by omega, rfl⟩
  · rw [r2] at ht; simp at ht
  · exact ⟨1, by omega, rfl⟩
  · rw [r4] at ht; simp at ht
theorem RO_9 {h : aH} {H : Heap} (hw : WD G h H) {q : Nat} (ht : (gS h q).1 = 9) : ∃ i, i < 2 ∧ q = 2 * i + 2 ∧ (gS h q).2 = slen.getD i 0 ∧ ∀ j, gM h q j = (sby.getD i []).getD j 0 := by
  have h5 := RO_tag hw ht (by omega) (by omega)
  obtain ⟨-, -, -, -, r0, -, r1, r2, ra, r3, r4, rb⟩ := hw
  rcases (show q = 0 ∨ q = 1 ∨ q = 2 ∨ q = 3 ∨ q = 4 by omega) with rfl | rfl | rfl | rfl | rfl
  · rw [r0] at ht; simp at ht
  · rw [r1] at ht; simp at ht
  · exact ⟨0, by omega, rfl, by rw [r2]; rfl, ra⟩
  · rw [r3] at ht; simp at ht
  · exact ⟨1, by omega, rfl, by rw [r4]; rfl, rb⟩
theorem ga_ro {G : gX} {k : Nat} (h : k < 5) : ga G k = xR G k := by unfold ga; rw [if_pos h]
theorem K_ty {t : Nat} {ty : FieldType} (C : Cx G p R s m args meth c y) {k : Nat} (hk : (tysG G)[k]? = some (xA G t, ty)) : ArrOfT s (xA G t) ty := by
  obtain ⟨-, -, -, -, -, -, -, -, K, -⟩ := C
  exact (K.1.2 k _ hk).1
theorem A_46 (C : Cx G p R s m args meth c y) (hk : ckI y pc (46, nx, a, b, v, ts) = true) (hs : sem (46, nx, a, b, v, ts) (pc, ls, st) h = some (.inl ((pc2, ls2, st2), h2))) (k : Atx G p l e R s m args below meth c Q y n0 z0 h2 pc2 ls2 st2) : Atx G p l e R s m args below meth c Q y n0 z0 h pc ls st := by
  have hT := K_ty C (t := 1) (k := 0) rfl
  obtain ⟨hx, hb, -, -, -, -, -, -, KK, -⟩ := C
  obtain ⟨hd, hn⟩ := dk_s (show dk y pc .iaload _ = true from hk)
  cases hn
  simp only [sem, m_ald] at hs
  split at hs
  · rename_i i q r
    split at hs
    · rename_i hc
      obtain ⟨ht, hr⟩ := hc
      cases hs
      intro H locs lc hw hS hL
      have K := k H locs lc hw hS hL
      rcases ht with ht | ht
      · obtain ⟨h5, hN, hat⟩ := hw.cell (k := q) (by omega)
        rw [ce_1 (prod_of ht)] at hat
        exact W.iald hx hb (show H[ga G q]? = some (arrV (xA G 1) (gS h q).2 (fun j => .int (gM h q j))) from hat) (hT _ _) (fun z => by cases z) (by rw [arrV_size]; exact vin_of hr) (by exact arrV_read _ _ (ix_lt hr)) rfl rfl hd K
      · have := RO_7 hw ht
        subst this
        obtain ⟨-, -, -, -, r0, rx, -⟩ := hw
        have hlt := KK.2.2.2.2.2.2.2.2.1 0 (by omega)
        have hsz := KK.2.2.2.2.2.2.2.2.2.2.2.2.2
        have e0 : gM h 0 (ix i) = xS G i.toNatClampNeg := rx _
        rw [r0] at hr
        rw [e0] at K
        exact va_sld hx hb KK.2.2.2.2.2.2.2.1 (Nat.lt_of_lt_of_le hlt hsz) (Nat.not_le.mpr hlt) hS (vin_of hr) hd K
    · cases hs
  · cases hs
theorem A_47 (C : Cx G p R s m args meth c y) (hk : ckI y pc (47, nx, a, b, v, ts) = true) (hs : sem (47, nx, a, b, v, ts) (pc, ls, st) h = some (.inl ((pc2, ls2, st2), h2))) (k : Atx G p l e R s m args below meth c Q y n0 z0 h2 pc2 ls2 st2) : Atx G p l e R s m args below meth c Q y n0 z0 h pc ls st := by
  have hT := K_ty C (t := 4) (k := 3) rfl
  obtain ⟨hx, hb, -⟩ := C
  obtain ⟨hd, hn⟩ := dk_s (show dk y pc .laload _ = true from hk)
  cases hn
  simp only [sem] at hs
  split at hs
  · rename_i i q r
    split at hs
    · rename_i hc
      obtain ⟨ht, hr⟩ := hc
      cases hs
      intro H locs lc hw hS hL
      have K := k H locs lc hw hS hL
      obtain ⟨h5, hN, hat⟩ := hw.cell (k := q) (by omega)
      rw [ce_4 (prod_of ht)] at hat
      exact W.lald hx hb (show H[ga G q]? = some (arrV (xA G 4) (gS h q).2 (fun j => .long (gL h q j))) from hat) (hT _ _) (fun z => by cases z) (by rw [arrV_size]; exact vin_of hr) (by exact arrV_read _ _ (ix_lt hr)) rfl rfl hd K
    · cases hs
  · cases hs
theorem A_50 (C : Cx G p R s m args meth c y) (hk : ckI y pc (50, nx, a, b, v, ts) = true) (hs : sem (50, nx, a, b, v, ts) (pc, ls, st) h = some (.inl ((pc2, ls2, st2), h2))) (k : Atx G p l e R s m args below meth c Q y n0 z0 h2 pc2 ls2 st2) : Atx G p l e R s m args below meth c Q y n0 z0 h pc ls st := by
  have hT5 := K_ty C (t := 5) (k := 4) rfl
  have hT6 := K_ty C (t := 6) (k := 5) rfl
  obtain ⟨hx, hb, -⟩ := C
  obtain ⟨hd, hn⟩ := dk_s (show dk y pc .aaload _ = true from hk)
  cases hn
  simp only [sem] at hs
  split at hs
  · rename_i i q r
    split at hs
    · rename_i hc
      obtain ⟨ht, hr⟩ := hc
      cases hs
      intro H locs lc hw hS hL
      have K := k H locs lc hw hS hL
      rw [List.map_cons, cv_rf] at K
      rcases ht with ht | ht
      · obtain ⟨h5, hN, hat⟩ := hw.cell (k := q) (by omega)
        rw [ce_5 (prod_of ht)] at hat
        exact W.aald (ty := .object "ByThePound$Law") hx hb (show H[ga G q]? = some (arrV (xA G 5) (gS h q).2 (fun j => va_rf ((gR h q j).map (ga G)))) from hat) (hT5 _ _) rfl (fun z => by cases z) (by rw [arrV_size]; exact vin_of hr) (by exact arrV_read _ _ (ix_lt hr)) rfl rfl hd K
      · obtain ⟨h5, hN, hat⟩ := hw.cell (k := q) (by omega)
        rw [ce_6 (prod_of ht)] at hat
        exact W.aald (ty := .array .int) hx hb (show H[ga G q]? = some (arrV (xA G 6) (gS h q).2 (fun j => va_rf ((gR h q j).map (ga G)))) from hat) (hT6 _ _) rfl (fun z => by cases z) (by rw [arrV_size]; exact vin_of hr) (by exact arrV_read _ _ (ix_lt hr)) rfl rfl hd K
    · cases hs
  · cases hs
theorem A_51 (C : Cx G p R s m args meth c y) (hk : ckI y pc (51, nx, a, b, v, ts) = true) (hs : sem (51, nx, a, b, v, ts) (pc, ls, st) h = some (.inl ((pc2, ls2, st2), h2))) (k : Atx G p l e R s m args below meth c Q y n0 z0 h2 pc2 ls2 st2) : Atx G p l e R s m args below meth c Q y n0 z0 h pc ls st := by
  have hT2 := K_ty C (t := 2) (k := 1) rfl
  have hT3 := K_ty C (t := 3) (k := 2) rfl
  obtain ⟨hx, hb, -, -, -, -, -, -, KK, -⟩ := C
  obtain ⟨hd, hn⟩ := dk_s (show dk y pc .baload _ = true from hk)
  cases hn
  simp only [sem] at hs
  split at hs
  · rename_i i q r
    split at hs
    · rename_i hc
      obtain ⟨ht, hr⟩ := hc
      cases hs
      intro H locs lc hw hS hL
      have K := k H locs lc hw hS hL
      rcases ht with ht | ht | ht
      · obtain ⟨h5, hN, hat⟩ := hw.cell (k := q) (by omega)
        rw [ce_2 (prod_of ht)] at hat
        exact W.zald hx hb (show H[ga G q]? = some (arrV (xA G 2) (gS h q).2 (fun j => .int (gM h q j))) from hat) (hT2 _ _) (fun z => by cases z) (by rw [arrV_size]; exact vin_of hr) (by exact arrV_read _ _ (ix_lt hr)) rfl rfl hd K
      · obtain ⟨h5, hN, hat⟩ := hw.cell (k := q) (by omega)
        rw [ce_3 (prod_of ht)] at hat
        exact W.bald hx hb (show H[ga G q]? = some (arrV (xA G 3) (gS h q).2 (fun j => .int (gM h q j))) from hat) (hT3 _ _) (fun z => by cases z) (by rw [arrV_size]; exact vin_of hr) (by exact arrV_read _ _ (ix_lt hr)) rfl rfl hd K
      · obtain ⟨i0, hi0, e0, en, em⟩ := RO_9 hw ht
        rw [en] at hr
        rw [em] at K
        have hX := (KK.2.2.2.2.1.1 i0 hi0).2.2.2
        show W p l e R s m args below meth c H locs _ _ Q (F0 m pc lc (.int i :: .ref (ga G q) :: _))
        rw [show ga G q = xR G (2 * i0 + 2) by rw [ga_ro (by omega), e0]]
        exact va_tb hx hb hX hS (vin_of hr) rfl hd K
    · cases hs
  · cases hs
theorem A_79 (C : Cx G p R s m args meth c y) (hk : ckI y pc (79, nx, a, b, v, ts) = true) (hs : sem (79, nx, a, b, v, ts) (pc, ls, st) h = some (.inl ((pc2, ls2, st2), h2))) (k : Atx G p l e R s m args below meth c Q y n0 z0 h2 pc2 ls2 st2) : Atx G p l e R s m args below meth c Q y n0 z0 h pc ls st := by
  have hT := K_ty C (t := 1) (k := 0) rfl
  obtain ⟨hx, hb, -⟩ := C
  obtain ⟨hd, hn⟩ := dk_s (show dk y pc .iastore _ = true from hk)
  cases hn
  simp only [sem] at hs
  split at hs
  · rename_i x i q r
    split at hs
    · rename_i hc
      obtain ⟨ht, hr⟩ := hc
      cases hs
      intro H locs lc hw hS hL
      obtain ⟨h5, hN, hat⟩ := hw.cell (k := q) (by omega)
      rw [ce_1 (prod_of ht)] at hat
      refine W.iast hx hb (show H[ga G q]? = some (arrV (xA G 1) (gS h q).2 (fun j => .int (gM h q j))) from hat) (hT _ _) (fun z => by cases z) (by rw [arrV_size]; exact vin_of hr) rfl rfl hd fun H1 e1 z1 oq => ?_
      refine k H1 _ lc (hw.put (k := q) h5 hN ?_ z1 oq (fun j => rfl) rfl (fun j hj => ?_) (fun j z hj => ?_)) (hS.put z1 oq (ga_AA h5)) hL
      · rw [ce_1 (show gS (pM h q (ix i) x) q = (1, (gS h q).2) from prod_of ht)]
        show H1[ga G q]? = some (vp_cell _ _)
        rw [e1, arrV_store, vp_cell_i]
        congr 2
        funext z
        by_cases hz : z = ix i
        · subst hz
          simp [updV, gM, pM, ix]
        · have hz' : z ≠ i.toNatClampNeg := hz
          simp [updV, gM, pM, hz, hz']
      · exact ce_eq rfl (funext fun z => by simp [gM, pM, hj]) rfl rfl rfl
      · simp [gM, pM, show j ≠ q by omega]
    · cases hs
  · cases hs
theorem A_84 (C : Cx G p R s m args meth c y) (hk : ckI y pc (84, nx, a, b, v, ts) = true) (hs : sem (84, nx, a, b, v, ts) (pc, ls, st) h = some (.inl ((pc2, ls2, st2), h2))) (k : Atx G p l e R s m args below meth c Q y n0 z0 h2 pc2 ls2 st2) : Atx G p l e R s m args below meth c Q y n0 z0 h pc ls st := by
  have hT := K_ty C (t := 2) (k := 1) rfl
  obtain ⟨hx, hb, -⟩ := C
  obtain ⟨hd, hn⟩ := dk_s (show dk y pc .bastore _ = true from hk)
  cases hn
  simp only [sem] at hs
  split at hs
  · rename_i x i q r
    split at hs
    · rename_i hc
      obtain ⟨⟨ht, hB⟩, hr⟩ := hc
      cases hs
      intro H locs lc hw hS hL
      obtain ⟨h5, hN, hat⟩ := hw.cell (k := q) (by omega)
      rw [ce_2 (prod_of ht)] at hat
      have en : narrow .boolean (.int x) = .int x := by rcases hB with e | e <;> rw [e] <;> decide
      refine W.zast hx hb (show H[ga G q]? = some (arrV (xA G 2) (gS h q).2 (fun j => .int (gM h q j))) from hat) (hT _ _) (fun z => by cases z) (by rw [arrV_size]; exact vin_of hr) rfl rfl hd fun H1 e1 z1 oq => ?_
      refine k H1 _ lc (hw.put (k := q) h5 hN ?_ z1 oq (fun j => rfl) rfl (fun j hj => ?_) (fun j z hj => ?_)) (hS.put z1 oq (ga_AA h5)) hL
      · rw [ce_2 (show gS (pM h q (ix i) x) q = (2, (gS h q).2) from prod_of ht)]
        show H1[ga G q]? = some (vp_cell _ _)
        rw [e1, en, arrV_store, vp_cell_i]
        congr 2
        funext z
        by_cases hz : z = ix i
        · subst hz
          simp [updV, gM, pM, ix]
        · have hz' : z ≠ i.toNatClampNeg := hz
          simp [updV, gM, pM, hz, hz']
      · exact ce_eq rfl (funext fun z => by simp [gM, pM, hj]) rfl rfl rfl
      · simp [gM, pM, show j ≠ q by omega]
    · cases hs
  · cases hs
theorem A_85 (C : Cx G p R s m args meth c y) (hk : ckI y pc (85, nx, a, b, v, ts) = true) (hs : sem (85, nx, a, b, v, ts) (pc, ls, st) h = some (.inl ((pc2, ls2, st2), h2))) (k : Atx G p l e R s m args below meth c Q y n0 z0 h2 pc2 ls2 st2) : Atx G p l e R s m args below meth c Q y n0 z0 h pc ls st := by
  have hT := K_ty C (t := 3) (k := 2) rfl
  obtain ⟨hx, hb, -⟩ := C
  obtain ⟨hd, hn⟩ := dk_s (show dk y pc .bastore _ = true from hk)
  cases hn
  simp only [sem] at hs
  split at hs
  · rename_i x i q r
    split at hs
    · rename_i hc
      obtain ⟨ht, hr⟩ := hc
      cases hs
      intro H locs lc hw hS hL
      obtain ⟨h5, hN, hat⟩ := hw.cell (k := q) (by omega)
      rw [ce_3 (prod_of ht)] at hat
      refine W.bast hx hb (show H[ga G q]? = some (arrV (xA G 3) (gS h q).2 (fun j => .int (gM h q j))) from hat) (hT _ _) (fun z => by cases z) (by rw [arrV_size]; exact vin_of hr) rfl rfl hd fun H1 e1 z1 oq => ?_
      refine k H1 _ lc (hw.put (k := q) h5 hN ?_ z1 oq (fun j => rfl) rfl (fun j hj => ?_) (fun j z hj => ?_)) (hS.put z1 oq (ga_AA h5)) hL
      · rw [ce_3 (show gS (pM h q (ix i) x.toInt8.toInt32) q = (3, (gS h q).2) from prod_of ht)]
        show H1[ga G q]? = some (vp_cell _ _)
        rw [e1, narrow_byte, arrV_store, vp_cell_i]
        congr 2
        funext z
        by_cases hz : z = ix i
        · subst hz
          simp [updV, gM, pM, ix]
        · have hz' : z ≠ i.toNatClampNeg := hz
          simp [updV, gM, pM, hz, hz']
      · exact ce_eq rfl (funext fun z => by simp [gM, pM, hj]) rfl rfl rfl
      · simp [gM, pM, show j ≠ q by omega]
    · cases hs
  · cases hs
theorem A_80 (C : Cx G p R s m args meth c y) (hk : ckI y pc (80, nx, a, b, v, ts) = true) (hs : sem (80, nx, a, b, v, ts) (pc, ls, st) h = some (.inl ((pc2, ls2, st2), h2))) (k : Atx G p l e R s m args below meth c Q y n0 z0 h2 pc2 ls2 st2) : Atx G p l e R s m args below meth c Q y n0 z0 h pc ls st := by
  have hT := K_ty C (t := 4) (k := 3) rfl
  obtain ⟨hx, hb, -⟩ := C
  obtain ⟨hd, hn⟩ := dk_s (show dk y pc .lastore _ = true from hk)
  cases hn
  simp only [sem] at hs
  split at hs
  · rename_i x i q r
    split at hs
    · rename_i hc
      obtain ⟨ht, hr⟩ := hc
      cases hs
      intro H locs lc hw hS hL
      obtain ⟨h5, hN, hat⟩ := hw.cell (k := q) (by omega)
      rw [ce_4 (prod_of ht)] at hat
      refine W.last hx hb (show H[ga G q]? = some (arrV (xA G 4) (gS h q).2 (fun j => .long (gL h q j))) from hat) (hT _ _) (fun z => by cases z) (by rw [arrV_size]; exact vin_of hr) rfl rfl hd fun H1 e1 z1 oq => ?_
      refine k H1 _ lc (hw.put (k := q) h5 hN ?_ z1 oq (fun j => rfl) rfl (fun j hj => ?_) (fun j z hj => rfl)) (hS.put z1 oq (ga_AA h5)) hL
      · rw [ce_4 (show gS (pL h q (ix i) x) q = (4, (gS h q).2) from prod_of ht)]
        show H1[ga G q]? = some (vp_cell _ _)
        rw [e1, arrV_store, vp_cell_l]
        congr 2
        funext z
        by_cases hz : z = ix i
        · subst hz
          simp [updV, gL, pL, ix]
        · have hz' : z ≠ i.toNatClampNeg := hz
          simp [updV, gL, pL, hz, hz']
      · exact ce_eq rfl rfl (funext fun z => by simp [gL, pL, hj]) rfl rfl
    · cases hs
  · cases hs
theorem A_190 (C : Cx G p R s m args meth c y) (hk : ckI y pc (190, nx, a, b, v, ts) = true) (hs : sem (190, nx, a, b, v, ts) (pc, ls, st) h = some (.inl ((pc2, ls2, st2), h2))) (k : Atx G p l e R s m args below meth c Q y n0 z0 h2 pc2 ls2 st2) : Atx G p l e R s m args below meth c Q y n0 z0 h pc ls st := by
  have hT1 := K_ty C (t := 1) (k := 0) rfl
  have hT2 := K_ty C (t := 2) (k := 1) rfl
  have hT3 := K_ty C (t := 3) (k := 2) rfl
  have hT4 := K_ty C (t := 4) (k := 3) rfl
  have hT5 := K_ty C (t := 5) (k := 4) rfl
  have hT6 := K_ty C (t := 6) (k := 5) rfl
  obtain ⟨hx, hb, -, -, -, -, -, -, KK, -⟩ := C
  obtain ⟨hd, hn⟩ := dk_s (show dk y pc .arraylength _ = true from hk)
  cases hn
  simp only [sem] at hs
  split at hs
  · rename_i q r
    split at hs
    · rename_i hc
      obtain ⟨c1, c2, c3⟩ := hc
      cases hs
      intro H locs lc hw hS hL
      have K := k H locs lc hw hS hL
      have key : ∀ (t : Nat) (ty : FieldType) (f : Nat → Value), ArrOfT s (xA G t) ty → H[ga G q]? = some (arrV (xA G t) (gS h q).2 f) → W p l e R s m args below meth c H locs (gN h - n0) (gZ h - z0) Q (F0 m pc lc ((.ref (ga G q)) :: r.map (cv G))) := by
        intro t ty f hT hat
        exact W.alen (n := iI (gS h q).2) hx hb hat (hT _ _) (by rw [arrV_size]; rfl) rfl rfl hd K
      by_cases e7 : (gS h q).1 = 7
      · have := RO_7 hw e7
        subst this
        have r0 := hw.2.2.2.2.1
        have hlt := KK.2.2.2.2.2.2.2.2.1 0 (by omega)
        have hsz := KK.2.2.2.2.2.2.2.2.2.2.2.2.2
        rw [r0] at K
        exact va_slen hx hb KK.2.2.2.2.2.2.2.1 (Nat.lt_of_lt_of_le hlt hsz) (Nat.not_le.mpr hlt) hS hd K
      · by_cases e9 : (gS h q).1 = 9
        · obtain ⟨i0, hi0, e0, en, em⟩ := RO_9 hw e9
          have hX := (KK.2.2.2.2.1.1 i0 hi0).2.2.2
          rw [en] at K
          show W p l e R s m args below meth c H locs _ _ Q (F0 m pc lc (.ref (ga G q) :: _))
          rw [show ga G q = xR G (2 * i0 + 2) by rw [ga_ro (by omega), e0]]
          exact va_tlen hx hb hX hS rfl hd K
        · obtain ⟨h5, hN, hat⟩ := hw.cell (k := q) (by omega)
          rcases (show (gS h q).1 = 1 ∨ (gS h q).1 = 2 ∨ (gS h q).1 = 3 ∨ (gS h q).1 = 4 ∨ (gS h q).1 = 5 ∨ (gS h q).1 = 6 by omega) with z | z | z | z | z | z
          · rw [ce_1 (prod_of z)] at hat; exact key 1 _ (fun j => .int (gM h q j)) hT1 hat
          · rw [ce_2 (prod_of z)] at hat; exact key 2 _ (fun j => .int (gM h q j)) hT2 hat
          · rw [ce_3 (prod_of z)] at hat; exact key 3 _ (fun j => .int (gM h q j)) hT3 hat
          · rw [ce_4 (prod_of z)] at hat; exact key 4 _ (fun j => .long (gL h q j)) hT4 hat
          · rw [ce_5 (prod_of z)] at hat; exact key 5 _ (fun j => va_rf ((gR h q j).map (ga G))) hT5 hat
          · rw [ce_6 (prod_of z)] at hat; exact key 6 _ (fun j => va_rf ((gR h q j).map (ga G))) hT6 hat
    · cases hs
  · cases hs
/-- a field's word, and the field -/
theorem ck180_s {i : aI} {kd : Nat} (hk : ck180 y pc i kd = true) : ∃ idx, decode (mby y) pc = .ok (.getfield idx, 3) ∧ i.2.2.1 < 12 ∧ i.2.2.2.1 < kN i.2.2.1 ∧ i.2.1 = pc + 3 ∧ flW (mow y) idx i.2.2.1 i.2.2.2.1 ∈ wAll ∧ (kd = 0 → fk i.2.2.1 i.2.2.2.1 ≤ 1) ∧ (kd ≠ 0 → fk i.2.2.1 i.2.2.2.1 = kd) := by
  unfold ck180 at hk
  split at hk
  · rename_i idx hd
    simp only [ckF, Bool.and_eq_true] at hk
    obtain ⟨⟨h1, h2, h3, -⟩, h4, h5⟩ := hk
    refine ⟨idx, hd, Nat.le_of_ble_eq_true h1, Nat.le_of_ble_eq_true h2, nxk_s h3, wAll_in (inFL_w h4) rfl, fun z => ?_, fun z => ?_⟩
    · subst z
      exact Nat.le_of_ble_eq_true h5
    · cases kd with
      | zero => exact absurd rfl z
      | succ n => exact Nat.eq_of_beq_eq_true h5
  · cases hk
theorem f_get (C : Cx G p R s m args meth c y) {H : Heap} {locs : List Loc} {lc : Array Slot} {cells slots t ci j idx : Nat} {r : List Value} (hw : WD G h H) (ht : gS h t = (0, ci)) (hci : ci < 12) (hj : j < kN ci) (hl : flW (mow y) idx ci j ∈ wAll) (hd : decode (mby y) pc = .ok (.getfield idx, 3)) (K : W p l e R s m args below meth c H locs cells slots Q (F0 m (pc + 3) lc (cv G (fV h t ci j) :: r))) : W p l e R s m args below meth c H locs cells slots Q (F0 m pc lc (.ref (ga G t) :: r)) := by
  obtain ⟨hx, hb, -, ho, hts, -, -, -, KK, -⟩ := C
  obtain ⟨h5, hN, hat⟩ := hw.cell (k := t) (by rw [ht]; exact Nat.zero_le _)
  rw [ce_0 ht] at hat
  have hP : va_P (xC G, xI G) kclL [(ga G t, .inr (ci, (List.range (kN ci)).map (fun j => cv G (fV h t ci j))))] H := by
    intro k q hq
    have hz : k < 1 := (List.getElem?_eq_some_iff.mp hq).1
    rw [show k = 0 by omega] at hq
    cases hq
    exact hat
  refine va_get (N := kN ci) (C := kC ci) (T := kT ci) (own := onm (mow y)) (ref := (kT ci j).1) (Ts := wAll) (ci := ci) hx hb hts (fun w hw => ?_) ho KK.1 hP 0 rfl (kcl_eq ci hci) j hj (hts _ hl) (fun x hx => hx) ?_ hd K
  · refine wAll_in (in_u ci hci w hw) ?_
    obtain ⟨k, -, e⟩ := List.mem_map.mp hw
    rw [← e]
    unfold u_lay
    split <;> rfl
  · rw [List.getElem?_map, List.getElem?_range hj]
    rfl
theorem A_180 (C : Cx G p R s m args meth c y) (hk : ckI y pc (180, nx, a, b, v, ts) = true) (hs : sem (180, nx, a, b, v, ts) (pc, ls, st) h = some (.inl ((pc2, ls2, st2), h2))) (k : Atx G p l e R s m args below meth c Q y n0 z0 h2 pc2 ls2 st2) : Atx G p l e R s m args below meth c Q y n0 z0 h pc ls st := by
  obtain ⟨idx, hd, k1, k2, k3, k4, k5⟩ := ck180_s (show ck180 y pc _ 0 = true from hk)
  cases k3
  simp only [sem] at hs
  split at hs
  · split at hs
    · rename_i t r ht
      cases hs
      intro H locs lc hw hS hL
      have K := k H locs lc hw hS hL
      refine f_get C hw ht k1 k2 k4 hd ?_
      have : fV h t a b = .int (gM h t b) := by
        have q : fk a b ≤ 1 := k5.1 rfl
        unfold fV
        rcases (show fk a b = 0 ∨ fk a b = 1 by omega) with e | e <;> rw [e] <;> rfl
      rw [this]
      exact K
    · cases hs
  · cases hs
theorem A_1180 (C : Cx G p R s m args meth c y) (hk : ckI y pc (1180, nx, a, b, v, ts) = true) (hs : sem (1180, nx, a, b, v, ts) (pc, ls, st) h = some (.inl ((pc2, ls2, st2), h2))) (k : Atx G p l e R s m args below meth c Q y n0 z0 h2 pc2 ls2 st2) : Atx G p l e R s m args below meth c Q y n0 z0 h pc ls st := by
  obtain ⟨idx, hd, k1, k2, k3, k4, k5⟩ := ck180_s (show ck180 y pc _ 2 = true from hk)
  cases k3
  simp only [sem] at hs
  split at hs
  · split at hs
    · rename_i t r ht
      cases hs
      intro H locs lc hw hS hL
      have K := k H locs lc hw hS hL
      refine f_get C hw ht k1 k2 k4 hd ?_
      have : fV h t a b = rfV (gR h t b) := by
        have q : fk a b = 2 := k5.2 (by decide)
        unfold fV
        rw [q]
        rfl
      rw [this]
      exact K
    · cases hs
  · cases hs
theorem A_2180 (C : Cx G p R s m args meth c y) (hk : ckI y pc (2180, nx, a, b, v, ts) = true) (hs : sem (2180, nx, a, b, v, ts) (pc, ls, st) h = some (.inl ((pc2, ls2, st2), h2))) (k : Atx G p l e R s m args below meth c Q y n0 z0 h2 pc2 ls2 st2) : Atx G p l e R s m args below meth c Q y n0 z0 h pc ls st := by
  obtain ⟨idx, hd, k1, k2, k3, k4, k5⟩ := ck180_s (show ck180 y pc _ 3 = true from hk)
  cases k3
  simp only [sem] at hs
  split at hs
  · split at hs
    · rename_i t r ht
      cases hs
      intro H locs lc hw hS hL
      have K := k H locs lc hw hS hL
      refine f_get C hw ht k1 k2 k4 hd ?_
      have : fV h t a b = rfV (gQ h t) := by
        have q : fk a b = 3 := k5.2 (by decide)
        unfold fV
        rw [q]
        rfl
      rw [this]
      exact K
    · cases hs
  · cases hs
end SND2
