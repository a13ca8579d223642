/-! SOUNDNESS: new int[N][K] -/
section SND6
variable {G : gX} {p : Program} {l : Launch} {e : Env} {R : Room} {s : State} {m : MethodId} {args : Array Value} {below : List Frame} {meth : Method} {c : Code} {Q : State → Prop} {y n0 z0 : Nat}
variable {pc nx a b pc2 : Nat} {v : Int} {ts : List (Int × Nat)} {ls ls2 st st2 : List Value} {h h2 : aH}
theorem pA_eq {h : aH} {N K : Nat} : gN (pA h N K) = gN h + 1 + N ∧ gZ (pA h N K) = gZ h + N + N * K := ⟨rfl, rfl⟩
theorem arrV_cg {c : ClassId} {N : Nat} {f g : Nat → Value} (h : ∀ i, i < N → f i = g i) : arrV c N f = arrV c N g := by
  show ({ cls := c, slots := Array.ofFn (n := N) fun j => f j.val, vm := .none } : Cell) = { cls := c, slots := Array.ofFn (n := N) fun j => g j.val, vm := .none }
  rw [show (fun j : Fin N => f j.val) = fun j => g j.val from funext fun j => h j.val j.isLt]
theorem WD.newA {h : aH} {H H1 : Heap} {N K : Nat} (hw : WD G h H) (z : H1.size = H.size + 1 + N) (oq : ∀ x : Nat, x < H.size → H1[x]? = H[x]?) (e1 : H1[H.size]? = some (arrV (xA G 6) N (fun j => va_rf (if j < N then some (H.size + 1 + j) else none)))) (e2 : ∀ j, j < N → H1[H.size + 1 + j]? = some (arrV (xA G 1) K (fun _ => .int 0))) : WD G (pA h N K) H1 := by
  have hsz := ga_new hw
  obtain ⟨w1, w2, w3, w4, r0, rx, r1, r2, ra, r3, r4, rb⟩ := hw
  have sS : ∀ j, j < gN h ∨ gN h + N < j → gS (pA h N K) j = gS h j := fun j hj => by
    simp [gS, pA, show j ≠ gN h by omega, show ¬ (gN h < j ∧ j ≤ gN h + N) by omega]
  have sM : ∀ j i, j < gN h → gM (pA h N K) j i = gM h j i := fun j i hj => by simp [gM, pA, show ¬ (gN h ≤ j ∧ j ≤ gN h + N) by omega]
  have sN : gN (pA h N K) = gN h + 1 + N := rfl
  have gaj : ∀ j, 5 ≤ j → ga G j = xB G + (j - 5) := fun j hj => by unfold ga; rw [if_neg (by omega)]
  refine ⟨by rw [z, sN, w1]; omega, by rw [sN]; omega, fun j h1 hj => ?_, fun j hj => ?_, by rw [sS 0 (by omega)]; exact r0, fun j => by rw [sM 0 j (by omega)]; exact rx j, by rw [sS 1 (by omega)]; exact r1, by rw [sS 2 (by omega)]; exact r2, fun j => by rw [sM 2 j (by omega)]; exact ra j, by rw [sS 3 (by omega)]; exact r3, by rw [sS 4 (by omega)]; exact r4, fun j => by rw [sM 4 j (by omega)]; exact rb j⟩
  · rw [sN] at hj
    rcases Nat.lt_trichotomy j (gN h) with c | c | c
    · obtain ⟨a1, a2⟩ := w3 j h1 c
      rw [sS j (Or.inl c)]
      refine ⟨?_, a2⟩
      have ec : ce G (pA h N K) j = ce G h j := ce_eq (sS j (Or.inl c)) (funext fun i => sM j i c) rfl (funext fun i => by simp [gR, pA, show j ≠ gN h by omega]) rfl
      rw [ec]
      exact a1.kept (oq _ (by show ga G j < H.size; rw [gaj j h1, w1]; omega))
    · subst c
      have eS : gS (pA h N K) (gN h) = (6, N) := by simp [gS, pA]
      rw [eS]
      refine ⟨?_, Nat.le_of_ble_eq_true rfl, fun q => by cases q⟩
      rw [ce_6 eS]
      show H1[ga G (gN h)]? = some (vp_cell _ _)
      rw [← hsz, e1, vp_cell_q]
      congr 1
      refine arrV_cg fun i hi => ?_
      rw [if_pos hi]
      have er : gR (pA h N K) (gN h) i = some (gN h + 1 + i) := by simp [gR, pA, hi]
      show va_rf _ = va_rf ((gR (pA h N K) (gN h) i).map (ga G))
      rw [er]
      show va_rf (some _) = va_rf (some (ga G (gN h + 1 + i)))
      rw [gaj _ (by omega), w1]
      congr 2
      omega
    · have eS : gS (pA h N K) j = (1, K) := by simp [gS, pA, show j ≠ gN h by omega, show gN h < j ∧ j ≤ gN h + N by omega]
      rw [eS]
      refine ⟨?_, Nat.le_of_ble_eq_true rfl, fun q => by cases q⟩
      rw [ce_1 eS]
      show H1[ga G j]? = some (vp_cell _ _)
      have := e2 (j - gN h - 1) (by omega)
      rw [show ga G j = H.size + 1 + (j - gN h - 1) by rw [gaj j h1, w1]; omega, this, vp_cell_i]
      congr 2
      funext i
      simp [gM, pA, show gN h ≤ j ∧ j ≤ gN h + N by omega]
  · rw [sN] at hj
    rw [sS j (Or.inr (by omega))]
    exact w4 j (by omega)
theorem A_197 (C : Cx G p R s m args meth c y) (h0 : n0 ≤ gN h ∧ z0 ≤ gZ h) (hR : gN h2 - n0 ≤ R.cells ∧ gZ h2 - z0 ≤ R.slots) (hk : ckI y pc (197, nx, a, b, v, ts) = true) (hs : sem (197, nx, a, b, v, ts) (pc, ls, st) h = some (.inl ((pc2, ls2, st2), h2))) (k : Atx G p l e R s m args below meth c Q y n0 z0 h2 pc2 ls2 st2) : Atx G p l e R s m args below meth c Q y n0 z0 h pc ls st := by
  have hk : ck197 y pc (197, nx, a, b, v, ts) = true := hk
  unfold ck197 at hk
  split at hk
  · rename_i idx hd
    simp only [Bool.and_eq_true] at hk
    obtain ⟨e1, e2, e3⟩ := hk
    cases nxk_s e1
    have ho := o_own C (Nat.eq_of_beq_eq_true e2)
    cases Nat.eq_of_beq_eq_true e3
    obtain ⟨hx, hb, hml, -, hts, -, -, -, KK, -, hR1, hR2⟩ := C
    simp only [sem] at hs
    split at hs
    · split at hs
      · rename_i kk n r hn
        obtain ⟨n1, n2, k1, k2⟩ := hn
        cases hs
        obtain ⟨g1, g2⟩ := pA_eq (h := h) (N := n.toInt.toNat) (K := kk.toInt.toNat)
        rw [g1, g2] at hR
        intro H locs lc hw hS hL T hT X
        have hsz := ga_new hw
        obtain ⟨vm₁, cA, comp, fA, fC, X', step⟩ := gd_step X hx ho (hts _ (wAll_in sw_mna rfl)) (show (Cond.arrayOver (.array .int)).before args s = true from KK.2.2.2.2.2.2.2.2.2.2.2.1) (hts _ (wAll_in sw_aint rfl)) (g := F0 m pc lc (.int kk :: .int n :: r.map (cv G))) rfl (by rw [hb]; exact hd) rfl (n_pos n1) (n_pos k1) (by show n.toInt.toNat * 4 ≤ _; omega) (by show kk.toInt.toNat * 4 ≤ _; omega) (by show _ + (1 + n.toInt.toNat) ≤ _; omega) (by show _ + (n.toInt.toNat + n.toInt.toNat * kk.toInt.toNat) ≤ _; omega)
        cases (show some cA = some (xA G 6) from fA.symm.trans (KK.1.2 5 _ rfl).2)
        cases (show some comp = some (xA G 1) from fC.symm.trans (KK.1.2 0 _ rfl).2)
        have hTs : (T.setVm vm₁).heap = H := hT
        obtain ⟨f1, -, -, f4⟩ := gd_f (T.setVm vm₁) (xA G 6) (xA G 1) n.toInt.toNat kk.toInt.toNat n.toInt.toNat
        rw [hTs] at f1 f4
        have f3 : ∀ x : Nat, x < H.size → (gd_S (T.setVm vm₁) (xA G 6) (xA G 1) n.toInt.toNat kk.toInt.toNat n.toInt.toNat).heap[x]? = H[x]? := fun x hx => by rw [f4, if_pos hx]
        have hW1 : WD G (pA h n.toInt.toNat kk.toInt.toNat) _ := WD.newA hw f1 f3 (by rw [f4, if_neg (Nat.lt_irrefl _), if_pos rfl]; rfl) (fun j hj => by rw [f4, if_neg (by omega), if_neg (by omega), if_pos (by omega)]; rfl)
        have hS1 := va_S.grow hS (by rw [f1]; omega) f3
        have q1 : gN h - n0 + 1 + n.toNatClampNeg = gN (pA h n.toInt.toNat kk.toInt.toNat) - n0 := by rw [g1]; show _ + 1 + n.toInt.toNat = _; omega
        have q2 : gZ h - z0 + n.toNatClampNeg + n.toNatClampNeg * kk.toNatClampNeg = gZ (pA h n.toInt.toNat kk.toInt.toNat) - z0 := by rw [g2]; show _ + n.toInt.toNat + n.toInt.toNat * kk.toInt.toNat = _; omega
        rw [q1, q2] at X'
        obtain ⟨t, a1, b1⟩ := k _ locs lc hW1 hS1 hL _ rfl X'
        rw [show T.heap.size = ga G (gN h) by rw [hT]; exact hsz] at step
        exact ⟨t, step t a1, b1⟩
      · cases hs
    · cases hs
  · cases hk
end SND6
