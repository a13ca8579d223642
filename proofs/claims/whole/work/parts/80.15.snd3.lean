/-! SOUNDNESS: writing fields, texts, statics, making, copying -/
section SND3
variable {G : gX} {p : Program} {l : Launch} {e : Env} {R : Room} {s : State} {m : MethodId} {args : Array Value} {below : List Frame} {meth : Method} {c : Code} {Q : State → Prop} {y n0 z0 : Nat}
variable {pc nx a b pc2 : Nat} {v : Int} {ts : List (Int × Nat)} {ls ls2 st st2 : List Value} {h h2 : aH}
theorem ck181_s {i : aI} {kd : Nat} (hk : ck181 y pc i kd = true) : ∃ idx, decode (mby y) pc = .ok (.putfield idx, 3) ∧ i.2.2.1 < 12 ∧ i.2.2.2.1 < kN i.2.2.1 ∧ i.2.1 = pc + 3 ∧ flW (mow y) idx i.2.2.1 i.2.2.2.1 ∈ wAll ∧ fk i.2.2.1 i.2.2.2.1 = kd ∧ ((kT i.2.2.1 i.2.2.2.1).2.2.2 = false ∨ ((mnm y).name = "<init>" ∧ onm (mow y) = kC i.2.2.1)) := by
  unfold ck181 at hk
  split at hk
  · rename_i idx hd
    simp only [ckF, Bool.and_eq_true, Bool.or_eq_true, beq_iff_eq, decide_eq_true_eq] at hk
    obtain ⟨⟨h1, h2, h3, -⟩, h4, h5, h6⟩ := hk
    exact ⟨idx, hd, Nat.le_of_ble_eq_true h1, Nat.le_of_ble_eq_true h2, nxk_s h3, wAll_in (inFL_w h4) rfl, Nat.eq_of_beq_eq_true h5, h6⟩
  · cases hk
theorem in_uA {ci : Nat} (hci : ci < 12) : ∀ w ∈ u_ws (kC ci) (kT ci) (kN ci), w ∈ wAll := by
  intro w hw
  refine wAll_in (in_u ci hci w hw) ?_
  obtain ⟨k, -, e⟩ := List.mem_map.mp hw
  rw [← e]
  unfold u_lay
  split <;> rfl
theorem f_ty {ci j : Nat} (hci : ci < 12) (hj : j < kN ci) : parseFieldDescriptor (kT ci j).2.2.1 = some (kyt ci j) := by
  have h := f_ok ci hci j hj
  unfold fOk at h
  rw [Bool.and_eq_true] at h
  exact of_decide_eq_true h.1
theorem f_put (C : Cx G p R s m args meth c y) {H : Heap} {locs : List Loc} {lc : Array Slot} {cells slots t ci j idx : Nat} {x : Value} {r : List Value} (hw : WD G h H) (hS : va_S (AA G) s.heap H locs) (ht : gS h t = (0, ci)) (hci : ci < 12) (hj : j < kN ci) (hl : flW (mow y) idx ci j ∈ wAll) (hd : decode (mby y) pc = .ok (.putfield idx, 3)) (hfin : (kT ci j).2.2.2 = false ∨ ((mnm y).name = "<init>" ∧ onm (mow y) = kC ci)) (hn : narrow (kyt ci j) x = x) (hf : fits (kyt ci j) x = true)
    (K : ∀ (H1 : Heap) (locs1 : List Loc), va_at (xC G, xI G) kclL (ga G t, .inr (ci, ((List.range (kN ci)).map (fun j => cv G (fV h t ci j))).set j x)) H1 → H1.size = H.size → (∀ q : Nat, q ≠ ga G t → H1[q]? = H[q]?) → va_S (AA G) s.heap H1 locs1 → W p l e R s m args below meth c H1 locs1 cells slots Q (F0 m (pc + 3) lc r)) : W p l e R s m args below meth c H locs cells slots Q (F0 m pc lc (x :: .ref (ga G t) :: r)) := by
  obtain ⟨hx, hb, -, ho, hts, -, -, hmn, KK, -⟩ := C
  obtain ⟨h5, hN, hat⟩ := hw.cell (k := t) (by rw [ht]; exact Nat.zero_le _)
  rw [ce_0 ht] at hat
  have hin := in_uA hci
  have hc := kcl_eq ci hci
  have hty := fun j (hj : j < kN ci) => f_ty hci hj
  have hap := va_apart (own := onm (mow y)) hts hin (kyt ci) hty (f_nm ci hci) KK.1 hc
  obtain ⟨rr, h1, cell, q1, q2, q3, q4⟩ := hat
  have hr : rr = (kC ci, kT ci, kN ci) := Option.some.inj (h1.symm.trans hc)
  subst hr
  obtain ⟨hSl, hfc, kCl, hkC, hkind⟩ := KK.1.1 ci _ hc
  obtain ⟨cf, kf, fi, f, hi, hsl⟩ := hSl j hj
  have hlay := hts _ (hin _ (u_in_lay hj))
  have hst := (u_facts hfc hkC (u_lays hts hin hj) hi).1
  have hlink := hts _ hl
  have hlen : j < ((List.range (kN ci)).map (fun j => cv G (fV h t ci j))).length := by simp; exact hj
  have fin : ∀ (H1 : Heap), H1[ga G t]? = some (cell.setSlot (xI G ci j) x) → va_at (xC G, xI G) kclL (ga G t, .inr (ci, ((List.range (kN ci)).map (fun j => cv G (fV h t ci j))).set j x)) H1 := fun H1 e1 =>
    ⟨_, hc, t_OB.to (V := updV (vp_V _) j x) ⟨_, e1, q2, q3, t_set q4 hap hj x⟩ (fun i _ => vp_updV_set hlen x i)⟩
  unfold u_lay at hlay
  by_cases hff : (kT ci j).2.2.2 = true
  · rw [if_pos hff] at hlay
    have hfi : (mnm y).name = "<init>" ∧ onm (mow y) = kC ci := by
      rcases hfin with z | z
      · rw [hff] at z; cases z
      · exact z
    have hcf : m.cls = cf := by
      obtain ⟨_, _, c', _, _, _, -, -, hf', -, -, -, hown2, -⟩ := Cond.laysFinal_spec hlay
      have e1 : c' = cf := by have := hi.symm.trans hf'; simp at this; exact this.1.symm
      rw [f_decl ci hci j hj, ← hfi.2] at hown2
      rw [← e1]
      exact Option.some.inj (ho.symm.trans hown2)
    have h6 := u_fits hfc hkC hkind (Or.inr hlay) hi (hty j hj) hn hf
    refine W.putFinK hx hb ho hlink hi hst hcf (by rw [hmn]; exact hfi.1) (by rw [q2]; exact h6) q1 q3 (by rw [hsl]; exact k2_hasslot (q4 j hj)) rfl rfl hd fun H1 e1 e2 e3 => ?_
    rw [hsl] at e1
    exact K H1 _ (fin H1 e1) e2 e3 (hS.put e2 e3 (ga_AA h5))
  · rw [if_neg hff] at hlay
    have h6 := u_store hfc hkC hkind hlay hi (hty j hj) hn hf
    refine W.putK hx hb (f := f) ⟨ho, hlink, ⟨_, _, _, hi⟩, hst⟩ (by rw [q2]; exact h6) q1 q3 (by rw [hsl]; exact k2_hasslot (q4 j hj)) rfl rfl hd fun H1 e1 e2 e3 => ?_
    rw [hsl] at e1
    exact K H1 _ (fin H1 e1) e2 e3 (hS.put e2 e3 (ga_AA h5))
theorem set_row {N j : Nat} {F F2 : Nat → Value} {x : Value} (hj : j < N) (e : F2 j = x) (o : ∀ i, i ≠ j → F2 i = F i) : ((List.range N).map F).set j x = (List.range N).map F2 := by
  apply List.ext_getElem?
  intro i
  by_cases hi : i = j
  · subst hi
    rw [List.getElem?_set_self (by simp; exact hj), List.getElem?_map, List.getElem?_range hj]
    simp [e]
  · rw [List.getElem?_set_ne (Ne.symm hi), List.getElem?_map, List.getElem?_map]
    by_cases hN : i < N
    · rw [List.getElem?_range hN]
      simp [o i hi]
    · rw [List.getElem?_eq_none (by simp; omega)]
      rfl
theorem f_kd {ci j : Nat} (hci : ci < 12) (hj : j < kN ci) : (fk ci j = 0 → kyt ci j = .int) ∧ (fk ci j = 1 → kyt ci j = .boolean) ∧ (fk ci j = 2 ∨ fk ci j = 3 → (kyt ci j).isReference = true) := by
  have h := f_ok ci hci j hj
  unfold fOk at h
  rw [Bool.and_eq_true] at h
  have h2 := h.2
  split at h2
  · rename_i e
    exact ⟨fun _ => of_decide_eq_true h2, fun z => (by rw [e] at z; cases z), fun z => (by rw [e] at z; rcases z with z | z <;> cases z)⟩
  · rename_i e
    exact ⟨fun z => (by rw [e] at z; cases z), fun _ => of_decide_eq_true h2, fun z => (by rw [e] at z; rcases z with z | z <;> cases z)⟩
  · rename_i e
    rw [Bool.and_eq_true] at h2
    exact ⟨fun z => (by rw [e] at z; cases z), fun z => (by rw [e] at z; cases z), fun _ => h2.2⟩
  · rename_i e
    rw [Bool.and_eq_true] at h2
    exact ⟨fun z => (by rw [e] at z; cases z), fun z => (by rw [e] at z; cases z), fun _ => h2.2⟩
  · cases h2
theorem nf_ref {ty : FieldType} (h : ty.isReference = true) (a : Nat) : narrow ty (.ref a) = .ref a ∧ fits ty (.ref a) = true := by
  cases ty <;> first | (exact ⟨rfl, rfl⟩) | (simp [FieldType.isReference] at h)
theorem A_181 (C : Cx G p R s m args meth c y) (hk : ckI y pc (181, nx, a, b, v, ts) = true) (hs : sem (181, nx, a, b, v, ts) (pc, ls, st) h = some (.inl ((pc2, ls2, st2), h2))) (k : Atx G p l e R s m args below meth c Q y n0 z0 h2 pc2 ls2 st2) : Atx G p l e R s m args below meth c Q y n0 z0 h pc ls st := by
  obtain ⟨idx, hd, k1, k2, k3, k4, k5, k6⟩ := ck181_s (show ck181 y pc _ 0 = true from hk)
  cases k3
  simp only [sem] at hs
  split at hs
  · split at hs
    · rename_i x t r ht
      cases hs
      intro H locs lc hw hS hL
      obtain ⟨h5, hN, -⟩ := hw.cell (k := t) (by rw [ht]; exact Nat.zero_le _)
      have ety := (f_kd k1 k2).1 k5
      refine f_put C hw hS ht k1 k2 k4 hd k6 (by rw [ety]; rfl) (by rw [ety]; rfl) fun H1 locs1 e1 z1 oq hS1 => ?_
      refine k H1 locs1 lc (hw.put (k := t) h5 hN ?_ z1 oq (fun j => rfl) rfl (fun j hj => ?_) (fun j z hj => ?_)) hS1 hL
      · rw [ce_0 (show gS (pM h t b x) t = (0, a) from ht)]
        rw [set_row (F2 := fun j => cv G (fV (pM h t b x) t a j)) k2 ?_ ?_] at e1
        · exact e1
        · unfold fV
          rw [show fk a b = 0 from k5]
          simp [cv, gM, pM]
        · intro i hi
          unfold fV
          have : gM (pM h t b x) t i = gM h t i := by simp [gM, pM, hi]
          rw [this]
          rfl
      · exact ce_eq rfl (funext fun z => by simp [gM, pM, hj]) rfl rfl rfl
      · simp [gM, pM, show j ≠ t by omega]
    · cases hs
  · cases hs
theorem A_5181 (C : Cx G p R s m args meth c y) (hk : ckI y pc (5181, nx, a, b, v, ts) = true) (hs : sem (5181, nx, a, b, v, ts) (pc, ls, st) h = some (.inl ((pc2, ls2, st2), h2))) (k : Atx G p l e R s m args below meth c Q y n0 z0 h2 pc2 ls2 st2) : Atx G p l e R s m args below meth c Q y n0 z0 h pc ls st := by
  obtain ⟨idx, hd, k1, k2, k3, k4, k5, k6⟩ := ck181_s (show ck181 y pc _ 1 = true from hk)
  cases k3
  simp only [sem] at hs
  split at hs
  · split at hs
    · rename_i x t r ht
      obtain ⟨ht, hB⟩ := ht
      cases hs
      intro H locs lc hw hS hL
      obtain ⟨h5, hN, -⟩ := hw.cell (k := t) (by rw [ht]; exact Nat.zero_le _)
      have ety := (f_kd k1 k2).2.1 k5
      refine f_put C hw hS ht k1 k2 k4 hd k6 (by rw [ety]; show narrow .boolean (.int x) = .int x; rcases hB with e | e <;> rw [e] <;> decide) (by rw [ety]; show fits .boolean (.int x) = true; rcases hB with e | e <;> rw [e] <;> decide) fun H1 locs1 e1 z1 oq hS1 => ?_
      refine k H1 locs1 lc (hw.put (k := t) h5 hN ?_ z1 oq (fun j => rfl) rfl (fun j hj => ?_) (fun j z hj => ?_)) hS1 hL
      · rw [ce_0 (show gS (pM h t b x) t = (0, a) from ht)]
        rw [set_row (F2 := fun j => cv G (fV (pM h t b x) t a j)) k2 ?_ ?_] at e1
        · exact e1
        · unfold fV
          rw [show fk a b = 1 from k5]
          simp [cv, gM, pM]
        · intro i hi
          unfold fV
          have : gM (pM h t b x) t i = gM h t i := by simp [gM, pM, hi]
          rw [this]
          rfl
      · exact ce_eq rfl (funext fun z => by simp [gM, pM, hj]) rfl rfl rfl
      · simp [gM, pM, show j ≠ t by omega]
    · cases hs
  · cases hs
theorem A_1181 (C : Cx G p R s m args meth c y) (hk : ckI y pc (1181, nx, a, b, v, ts) = true) (hs : sem (1181, nx, a, b, v, ts) (pc, ls, st) h = some (.inl ((pc2, ls2, st2), h2))) (k : Atx G p l e R s m args below meth c Q y n0 z0 h2 pc2 ls2 st2) : Atx G p l e R s m args below meth c Q y n0 z0 h pc ls st := by
  obtain ⟨idx, hd, k1, k2, k3, k4, k5, k6⟩ := ck181_s (show ck181 y pc _ 2 = true from hk)
  cases k3
  simp only [sem] at hs
  split at hs
  · split at hs
    · rename_i x t r ht
      cases hs
      intro H locs lc hw hS hL
      obtain ⟨h5, hN, -⟩ := hw.cell (k := t) (by rw [ht]; exact Nat.zero_le _)
      have ety := nf_ref ((f_kd k1 k2).2.2 (Or.inl k5)) (ga G x)
      refine f_put C hw hS ht k1 k2 k4 hd k6 ety.1 ety.2 fun H1 locs1 e1 z1 oq hS1 => ?_
      refine k H1 locs1 lc (hw.put (k := t) h5 hN ?_ z1 oq (fun j => rfl) rfl (fun j hj => ?_) (fun j z hj => rfl)) hS1 hL
      · rw [ce_0 (show gS (pR h t b (some x)) t = (0, a) from ht)]
        rw [set_row (F2 := fun j => cv G (fV (pR h t b (some x)) t a j)) k2 ?_ ?_] at e1
        · exact e1
        · unfold fV
          rw [show fk a b = 2 from k5]
          simp [cv, gR, pR, rfV]
        · intro i hi
          unfold fV
          have : gR (pR h t b (some x)) t i = gR h t i := by simp [gR, pR, hi]
          rw [this]
          rfl
      · exact ce_eq rfl rfl rfl (funext fun z => by simp [gR, pR, hj]) rfl
    · cases hs
  · cases hs
theorem fk_one : ∀ ci, ci < 12 → ∀ i, i < kN ci → ∀ j, j < kN ci → fk ci i = 3 → fk ci j = 3 → i = j := by
  have h : (List.range 12).all (fun ci => (List.range (kN ci)).all (fun i => (List.range (kN ci)).all (fun j => !(Nat.beq (fk ci i) 3 && Nat.beq (fk ci j) 3) || Nat.beq i j))) = true := by decide +kernel
  intro ci hci i hi j hj e1 e2
  have := List.all_eq_true.mp (List.all_eq_true.mp (List.all_eq_true.mp h ci (List.mem_range.mpr hci)) i (List.mem_range.mpr hi)) j (List.mem_range.mpr hj)
  rw [e1, e2] at this
  exact Nat.eq_of_beq_eq_true (by simpa using this)
theorem A_2181 (C : Cx G p R s m args meth c y) (hk : ckI y pc (2181, nx, a, b, v, ts) = true) (hs : sem (2181, nx, a, b, v, ts) (pc, ls, st) h = some (.inl ((pc2, ls2, st2), h2))) (k : Atx G p l e R s m args below meth c Q y n0 z0 h2 pc2 ls2 st2) : Atx G p l e R s m args below meth c Q y n0 z0 h pc ls st := by
  obtain ⟨idx, hd, k1, k2, k3, k4, k5, k6⟩ := ck181_s (show ck181 y pc _ 3 = true from hk)
  cases k3
  simp only [sem] at hs
  split at hs
  · split at hs
    · rename_i x t r ht
      cases hs
      intro H locs lc hw hS hL
      obtain ⟨h5, hN, -⟩ := hw.cell (k := t) (by rw [ht]; exact Nat.zero_le _)
      have ety := nf_ref ((f_kd k1 k2).2.2 (Or.inr k5)) (ga G x)
      refine f_put C hw hS ht k1 k2 k4 hd k6 ety.1 ety.2 fun H1 locs1 e1 z1 oq hS1 => ?_
      refine k H1 locs1 lc (hw.put (k := t) h5 hN ?_ z1 oq (fun j => rfl) rfl (fun j hj => ?_) (fun j z hj => rfl)) hS1 hL
      · rw [ce_0 (show gS (pQ h t (some x)) t = (0, a) from ht)]
        have e2 : ((List.range (kN a)).map (fun j => cv G (fV h t a j))).set b (.ref (ga G x)) = (List.range (kN a)).map (fun j => cv G (fV (pQ h t (some x)) t a j)) := by
          apply List.ext_getElem?
          intro i
          by_cases hi : i = b
          · subst hi
            rw [List.getElem?_set_self (by simp; exact k2), List.getElem?_map, List.getElem?_range k2]
            unfold fV
            simp only [Option.map_some]
            rw [show fk a i = 3 from k5]
            simp [gQ, pQ, rfV, cv]
          · rw [List.getElem?_set_ne (Ne.symm hi), List.getElem?_map, List.getElem?_map]
            by_cases hN2 : i < kN a
            · rw [List.getElem?_range hN2]
              have hne : fk a i ≠ 3 := fun z => hi (fk_one a k1 i hN2 b k2 z k5)
              obtain ⟨q0, q1, q2⟩ := f_kd k1 hN2
              have hlt : fk a i = 0 ∨ fk a i = 1 ∨ fk a i = 2 := by
                have hh := f_ok a k1 i hN2
                unfold fOk at hh
                rw [Bool.and_eq_true] at hh
                have h2 := hh.2
                split at h2
                · rename_i e; exact Or.inl e
                · rename_i e; exact Or.inr (Or.inl e)
                · rename_i e; exact Or.inr (Or.inr e)
                · rename_i e; exact absurd e hne
                · cases h2
              have ev : fV (pQ h t (some x)) t a i = fV h t a i := by
                unfold fV
                rcases hlt with e | e | e <;> rw [e] <;> rfl
              simp only [Option.map_some, ev]
            · rw [List.getElem?_eq_none (by simp; omega)]
              rfl
        rw [show cv G (.ref x) = .ref (ga G x) from rfl, e2] at e1
        exact e1
      · exact ce_eq rfl rfl rfl rfl (by simp [gQ, pQ, hj])
    · cases hs
  · cases hs
end SND3
