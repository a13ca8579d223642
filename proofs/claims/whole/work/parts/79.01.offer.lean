/-! offer, put: what they make of what holds -/
section TL2
variable {s : sg} {A B : Int → Int} {k h o t w v : Int}
theorem fOpens_at (hB : B = up (fOpens A (A 3) k h) 3 (A 3 + 1)) (n3 : 0 ≤ A 3) : (∀ z, (z < 180 + 13 * A 3 ∨ 193 + 13 * A 3 ≤ z) → ¬ z = 3 → B z = A z) ∧ (∀ c, 2 ≤ c → c < 13 → B (180 + (13 * (A 3) + c)) = 0) ∧ B (180 + 13 * (A 3)) = k ∧ B (180 + (13 * (A 3) + 1)) = h ∧ B 3 = A 3 + 1 := by
  subst hB
  unfold fOpens fZero
  refine ⟨fun z hz h3 => ?_, fun c c0 c1 => ?_, ?_, ?_, ?_⟩
  · rw [up_ne h3, up_ne (by omega), up_ne (by omega), if_neg (by omega)]
  · rw [up_ne (by omega), up_ne (by omega), up_ne (by omega), if_pos (by omega)]
  · rw [up_ne (by omega), up_ne (by omega), up_eq rfl]
  · rw [up_ne (by omega), up_eq rfl]
  · rw [up_eq rfl]
theorem ic_offer (hI : IC 0 s A) (W : WF A) (hB : B = up (fOpens A (A 3) k h) 3 (A 3 + 1)) (hn : ¬ A 3 = 20) : IC 0 (u (u s 56 (up (up (up (up (s 56) (A 3 * 12) k) (A 3 * 12 + 1) h) (A 3 * 12 + 2) 0) (A 3 * 12 + 3) 0)) 55004 (fun _ => A 3 + 1)) B := by
  have w0 := W.1.1
  unfold W0 at w0
  obtain ⟨hz, hr, r0, r1, b3⟩ := fOpens_at hB w0.2.2.2.1.1
  have r2 := hr 2 (by omega) (by omega)
  have r12 := hr 12 (by omega) (by omega)
  obtain ⟨⟨⟨i1, i2, i3, i4, i5, i6⟩, k1, k2, k3, k4, k5⟩, k6, k7, k8, k9, k10⟩ := hI
  refine ⟨⟨⟨?_, ?_, ?_, ?_, ?_, ?_⟩, ?_, ?_, ?_, ?_, ?_⟩, ?_, ?_, ?_, ?_, ?_⟩
  · rw [hz 0 (by omega) (by omega)]; exact i1
  · rw [hz 1 (by omega) (by omega)]; exact i2
  · rw [hz 2 (by omega) (by omega)]; exact i3
  · rw [b3]; rfl
  · rw [hz 6 (by omega) (by omega)]; exact i5
  · rw [hz 4 (by omega) (by omega)]; exact i6
  · exact PT_cg (q := 0) (q2 := 0) (hz 0 (by omega) (by omega)) (fun z _ _ => hz z (by omega) (by omega)) (fun z _ _ => rfl) (by omega) k1
  · exact PK_cg (q := 0) (q2 := 0) (hz 1 (by omega) (by omega)) (fun z _ _ => hz z (by omega) (by omega)) (fun z _ _ => rfl) (by omega) k2
  · exact PB_cg (q := 0) (q2 := 0) (hz 2 (by omega) (by omega)) (fun z _ _ => hz z (by omega) (by omega)) (fun z _ _ => rfl) (by omega) k3
  · exact PG_cg (q := 0) (q2 := 0) (hz 6 (by omega) (by omega)) (fun z _ _ => hz z (by omega) (by omega)) (fun z _ _ => rfl) (by omega) k4
  · exact PH_cg (q := 0) (q2 := 0) (fun z _ _ => hz z (by omega) (by omega)) (fun z _ _ => rfl) k5
  · show s 48008 0 = _
    rw [hz 5 (by omega) (by omega)]
    exact k6
  · intro t t0 t1
    have es : (u (u s 56 (up (up (up (up (s 56) (A 3 * 12) k) (A 3 * 12 + 1) h) (A 3 * 12 + 2) 0) (A 3 * 12 + 3) 0)) 55004 (fun _ => A 3 + 1)) (56 + 0) = up (up (up (up (s 56) (A 3 * 12) k) (A 3 * 12 + 1) h) (A 3 * 12 + 2) 0) (A 3 * 12 + 3) 0 := rfl
    unfold cO cI
    rw [es]
    by_cases c : t = A 3
    · subst c
      rw [r0, r1, r2]
      simp (disch := omega) only [up_eq, up_ne]
      exact ⟨trivial, trivial, trivial, fun i i0 i1 => by omega⟩
    · obtain ⟨q1, q2, q3, q4⟩ := k7 t t0 (by omega)
      have n := (W.2 t t0 (by omega)).2.2.1
      rw [hz _ (by omega) (by omega), hz _ (by omega) (by omega), hz _ (by omega) (by omega)]
      refine ⟨?_, ?_, ?_, fun i i0 i1 => ?_⟩
      · simp (disch := omega) only [up_ne]
        exact q1
      · simp (disch := omega) only [up_ne]
        exact q2
      · simp (disch := omega) only [up_ne]
        exact q3
      · rw [hz _ (by omega) (by omega), hz _ (by omega) (by omega), hz _ (by omega) (by omega)]
        simp (disch := omega) only [up_ne]
        exact q4 i i0 i1
  · intro o o0 o1
    have q : s 61 o = _ := k8 o o0 o1
    show s 61 o = _
    rw [b3]
    by_cases c : o = A 3
    · subst c
      rw [if_neg (by omega)] at q
      rw [if_pos (by omega), r12, q]
    · by_cases c2 : o < A 3
      · rw [if_pos c2] at q
        rw [if_pos (by omega), hz _ (by omega) (by omega), q]
      · rw [if_neg c2] at q
        rw [if_neg (by omega), q]
  · exact PY2_cg (q := 0) (q2 := 0) (hz 1 (by omega) (by omega)) (by omega) (fun z _ _ => hz z (by omega) (by omega)) (fun z _ _ => ⟨rfl, rfl⟩) k9
  · exact PY3_cg (q := 0) (q2 := 0) (hz 2 (by omega) (by omega)) (by omega) (fun z _ _ => hz z (by omega) (by omega)) (fun z _ _ => ⟨rfl, rfl⟩) k10
theorem wf_offer (W : WF A) (wy : WY A) (hB : B = up (fOpens A (A 3) k h) 3 (A 3 + 1)) (hn : ¬ A 3 = 20) (r : (0 ≤ k ∧ k < A 1) ∧ 0 ≤ h ∧ h ≤ 3) : WF B ∧ WY B := by
  have w0 := W.1.1
  unfold W0 at w0
  obtain ⟨hz, hr, r0, r1, b3⟩ := fOpens_at hB w0.2.2.2.1.1
  have r2 := hr 2 (by omega) (by omega)
  have r12 := hr 12 (by omega) (by omega)
  obtain ⟨⟨_, k1, k2, k3, k4, k5⟩, k6⟩ := W
  have b1 := hz 1 (by omega) (by omega)
  refine ⟨⟨⟨?_, ?_, ?_, ?_, ?_, ?_⟩, ?_⟩, ?_⟩
  · unfold W0
    rw [hz 0 (by omega) (by omega), b1, hz 2 (by omega) (by omega), b3, hz 4 (by omega) (by omega), hz 5 (by omega) (by omega), hz 6 (by omega) (by omega)]
    omega
  · exact VT_cg (hz 0 (by omega) (by omega)) (by omega) (fun z _ _ => hz z (by omega) (by omega)) k1
  · exact VK_cg b1 (by omega) (fun k c a b e f => hz _ (by omega) (by omega)) k2
  · exact VB_cg (hz 2 (by omega) (by omega)) (by omega) (fun k c a b e f => hz _ (by omega) (by omega)) k3
  · intro h h0 h1
    rw [hz _ (by omega) (by omega)]
    exact k4 h h0 h1
  · exact VG_cg (hz 6 (by omega) (by omega)) (by omega) (fun z _ _ => hz z (by omega) (by omega)) k5
  · intro t t0 t1
    by_cases c : t = A 3
    · subst c
      unfold WO
      rw [r0, r1, r2, b1]
      exact ⟨r.1, by omega, by omega, fun i i0 i1 => by omega⟩
    · exact VO_cg (n := A 3) (by rw [hz 0 (by omega) (by omega)]; omega) (by rw [b1]; omega) (fun o c a b e f => hz _ (by omega) (by omega)) k6 t t0 (by omega)
  · intro o o0 o1
    by_cases c : o = A 3
    · subst c
      rw [r12]
      omega
    · rw [hz _ (by omega) (by omega)]
      exact wy o o0 (by omega)
theorem fLays_at (hB : B = fLays A o t w v) (ho : 0 ≤ o) (hn : 0 ≤ A (180 + (13 * o + 2)) ∧ A (180 + (13 * o + 2)) < 3) : (∀ z, (z < 180 + 13 * o ∨ 180 + 13 * o + 12 ≤ z) → B z = A z) ∧ B (180 + 13 * o) = A (180 + 13 * o) ∧ B (180 + (13 * o + 1)) = A (180 + (13 * o + 1)) ∧ B (180 + (13 * o + 2)) = A (180 + (13 * o + 2)) + 1 ∧ (∀ i, 0 ≤ i → i < A (180 + (13 * o + 2)) → B (180 + (13 * o + (3 + 3 * i))) = A (180 + (13 * o + (3 + 3 * i))) ∧ B (180 + (13 * o + (3 + (3 * i + 1)))) = A (180 + (13 * o + (3 + (3 * i + 1)))) ∧ B (180 + (13 * o + (3 + (3 * i + 2)))) = A (180 + (13 * o + (3 + (3 * i + 2))))) ∧ B (180 + (13 * o + (3 + 3 * (A (180 + (13 * o + 2)))))) = t ∧ B (180 + (13 * o + (3 + (3 * (A (180 + (13 * o + 2))) + 1)))) = w ∧ B (180 + (13 * o + (3 + (3 * (A (180 + (13 * o + 2))) + 2)))) = v := by
  subst hB
  unfold fLays
  refine ⟨fun z hz => ?_, ?_, ?_, ?_, fun i i0 i1 => ⟨?_, ?_, ?_⟩, ?_, ?_, ?_⟩ <;> simp (disch := omega) only [up_eq, up_ne]
theorem ic_put (hI : IC 0 s A) (W : WF A) (hB : B = fLays A o t w v) (ho : 0 ≤ o ∧ o < A 3) (hn : A (180 + (13 * o + 2)) < 3) : IC 0 (u s 56 (up (up (up (up (s 56) (o * 12 + (3 + 3 * A (180 + (13 * o + 2)))) t) (o * 12 + (3 + (3 * A (180 + (13 * o + 2)) + 1))) w) (o * 12 + (3 + (3 * A (180 + (13 * o + 2)) + 2))) v) (o * 12 + 2) (A (180 + (13 * o + 2)) + 1))) B := by
  have w0 := W.1.1
  unfold W0 at w0
  have n := (W.2 o ho.1 ho.2).2.2.1
  obtain ⟨hz, r0, r1, r2, ri, p0, p1, p2⟩ := fLays_at hB ho.1 ⟨n.1, hn⟩
  obtain ⟨⟨⟨i1, i2, i3, i4, i5, i6⟩, k1, k2, k3, k4, k5⟩, k6, k7, k8, k9, k10⟩ := hI
  refine ⟨⟨⟨?_, ?_, ?_, ?_, ?_, ?_⟩, ?_, ?_, ?_, ?_, ?_⟩, ?_, ?_, ?_, ?_, ?_⟩
  · rw [hz 0 (by omega)]; exact i1
  · rw [hz 1 (by omega)]; exact i2
  · rw [hz 2 (by omega)]; exact i3
  · rw [hz 3 (by omega)]; exact i4
  · rw [hz 6 (by omega)]; exact i5
  · rw [hz 4 (by omega)]; exact i6
  · exact PT_cg (q := 0) (q2 := 0) (hz 0 (by omega)) (fun z _ _ => hz z (by omega)) (fun z _ _ => rfl) (by omega) k1
  · exact PK_cg (q := 0) (q2 := 0) (hz 1 (by omega)) (fun z _ _ => hz z (by omega)) (fun z _ _ => rfl) (by omega) k2
  · exact PB_cg (q := 0) (q2 := 0) (hz 2 (by omega)) (fun z _ _ => hz z (by omega)) (fun z _ _ => rfl) (by omega) k3
  · exact PG_cg (q := 0) (q2 := 0) (hz 6 (by omega)) (fun z _ _ => hz z (by omega)) (fun z _ _ => rfl) (by omega) k4
  · exact PH_cg (q := 0) (q2 := 0) (fun z _ _ => hz z (by omega)) (fun z _ _ => rfl) k5
  · show s 48008 0 = _
    rw [hz 5 (by omega)]
    exact k6
  · intro x x0 x1
    rw [hz 3 (by omega)] at x1
    have nx := (W.2 x x0 x1).2.2.1
    have es : (u s 56 (up (up (up (up (s 56) (o * 12 + (3 + 3 * A (180 + (13 * o + 2)))) t) (o * 12 + (3 + (3 * A (180 + (13 * o + 2)) + 1))) w) (o * 12 + (3 + (3 * A (180 + (13 * o + 2)) + 2))) v) (o * 12 + 2) (A (180 + (13 * o + 2)) + 1))) (56 + 0) = up (up (up (up (s 56) (o * 12 + (3 + 3 * A (180 + (13 * o + 2)))) t) (o * 12 + (3 + (3 * A (180 + (13 * o + 2)) + 1))) w) (o * 12 + (3 + (3 * A (180 + (13 * o + 2)) + 2))) v) (o * 12 + 2) (A (180 + (13 * o + 2)) + 1) := rfl
    obtain ⟨q1, q2, q3, q4⟩ := k7 x x0 x1
    unfold cO cI
    rw [es]
    generalize hN : A (180 + (13 * o + 2)) = N at *
    by_cases c : x = o
    · subst c
      rw [r0, r1, r2]
      refine ⟨?_, ?_, ?_, fun i i0 i1 => ?_⟩
      · simp (disch := omega) only [up_ne]
        exact q1
      · simp (disch := omega) only [up_ne]
        exact q2
      · simp (disch := omega) only [up_eq]
      · by_cases e : i = N
        · subst e
          rw [p0, p1, p2]
          simp (disch := omega) only [up_eq, up_ne, and_self]
        · obtain ⟨a1, a2, a3⟩ := ri i i0 (by omega)
          rw [a1, a2, a3]
          simp (disch := omega) only [up_ne]
          exact q4 i i0 (by omega)
    · rw [hz _ (by omega), hz _ (by omega), hz _ (by omega)]
      refine ⟨?_, ?_, ?_, fun i i0 i1 => ?_⟩
      · simp (disch := omega) only [up_ne]
        exact q1
      · simp (disch := omega) only [up_ne]
        exact q2
      · simp (disch := omega) only [up_ne]
        exact q3
      · rw [hz _ (by omega), hz _ (by omega), hz _ (by omega)]
        simp (disch := omega) only [up_ne]
        exact q4 i i0 i1
  · exact PY1_cg (q := 0) (q2 := 0) (hz 3 (by omega)) (by omega) (fun x x0 x1 => hz _ (by omega)) (fun z _ _ => rfl) k8
  · exact PY2_cg (q := 0) (q2 := 0) (hz 1 (by omega)) (by omega) (fun z _ _ => hz z (by omega)) (fun z _ _ => ⟨rfl, rfl⟩) k9
  · exact PY3_cg (q := 0) (q2 := 0) (hz 2 (by omega)) (by omega) (fun z _ _ => hz z (by omega)) (fun z _ _ => ⟨rfl, rfl⟩) k10
theorem wf_put (W : WF A) (wy : WY A) (hB : B = fLays A o t w v) (ho : 0 ≤ o ∧ o < A 3) (hn : A (180 + (13 * o + 2)) < 3) (r : (0 ≤ t ∧ t < A 0) ∧ (1 ≤ w ∧ w ≤ 40) ∧ 0 ≤ v ∧ v ≤ 9) : WF B ∧ WY B := by
  have w0 := W.1.1
  unfold W0 at w0
  have n := (W.2 o ho.1 ho.2).2.2.1
  obtain ⟨hz, r0, r1, r2, ri, p0, p1, p2⟩ := fLays_at hB ho.1 ⟨n.1, hn⟩
  have z0 : Eq0 A B := fun z q => hz z (by omega)
  refine ⟨⟨WF0_cg z0 W.1, ?_⟩, ?_⟩
  · intro x x0 x1
    rw [hz 3 (by omega)] at x1
    by_cases c : x = o
    · subst c
      obtain ⟨a1, a2, a3, a4⟩ := W.2 x x0 x1
      unfold WO
      rw [r0, r1, r2, z0 1 (by omega)]
      refine ⟨a1, a2, by omega, fun i i0 i1 => ?_⟩
      unfold WI
      by_cases e : i = A (180 + (13 * x + 2))
      · rw [e, p0, p1, p2, z0 0 (by omega)]
        exact r
      · obtain ⟨b1, b2, b3⟩ := ri i i0 (by omega)
        rw [b1, b2, b3, z0 0 (by omega)]
        exact a4 i i0 (by omega)
    · exact WO_cg z0 (fun c c0 c1 => hz _ (by omega)) (W.2 x x0 x1)
  · intro x x0 x1
    rw [hz 3 (by omega)] at x1
    rw [hz _ (by omega)]
    exact wy x x0 x1
end TL2
