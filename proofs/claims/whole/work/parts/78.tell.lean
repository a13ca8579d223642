/-! TELLINGS: what each makes of what holds between two calls (wip/whole/gentell.py) -/
section TL
variable {s : sg} {A : Int → Int}
theorem ic_thing {a l v f : Int} (hI : IC 0 s A) (W : WF A) (hn : ¬ A 0 = 10) : IC 0 (u (u s 50 (up (up (up (up (s 50) (A 0 * 4) (a)) (A 0 * 4 + 1) (l)) (A 0 * 4 + 2) (v)) (A 0 * 4 + 3) (f))) 49004 (fun _ => A 0 + 1)) (up (up (up (up (up A (10 + 4 * A 0) (a)) (10 + (4 * A 0 + 1)) (l)) (10 + (4 * A 0 + 2)) (v)) (10 + (4 * A 0 + 3)) (f)) 0 (A 0 + 1)) := by
  have w0 := W.1.1
  unfold W0 at w0
  obtain ⟨⟨⟨i1, i2, i3, i4, i5, i6⟩, k1, k2, k3, k4, k5⟩, k6, k7, k8, k9, k10⟩ := hI
  refine ⟨⟨⟨(by show A 0 + 1 = _; rw [up_eq rfl]), (by show s 51004 0 = _; rw [show (up (up (up (up (up A (10 + 4 * A 0) (a)) (10 + (4 * A 0 + 1)) (l)) (10 + (4 * A 0 + 2)) (v)) (10 + (4 * A 0 + 3)) (f)) 0 (A 0 + 1)) 1 = A 1 from by simp (disch := omega) only [up_ne]]; exact i2), (by show s 53004 0 = _; rw [show (up (up (up (up (up A (10 + 4 * A 0) (a)) (10 + (4 * A 0 + 1)) (l)) (10 + (4 * A 0 + 2)) (v)) (10 + (4 * A 0 + 3)) (f)) 0 (A 0 + 1)) 2 = A 2 from by simp (disch := omega) only [up_ne]]; exact i3), (by show s 55004 0 = _; rw [show (up (up (up (up (up A (10 + 4 * A 0) (a)) (10 + (4 * A 0 + 1)) (l)) (10 + (4 * A 0 + 2)) (v)) (10 + (4 * A 0 + 3)) (f)) 0 (A 0 + 1)) 3 = A 3 from by simp (disch := omega) only [up_ne]]; exact i4), (by show s 57004 0 = _; rw [show (up (up (up (up (up A (10 + 4 * A 0) (a)) (10 + (4 * A 0 + 1)) (l)) (10 + (4 * A 0 + 2)) (v)) (10 + (4 * A 0 + 3)) (f)) 0 (A 0 + 1)) 6 = A 6 from by simp (disch := omega) only [up_ne]]; exact i5), (by show s 48007 0 = _; rw [show (up (up (up (up (up A (10 + 4 * A 0) (a)) (10 + (4 * A 0 + 1)) (l)) (10 + (4 * A 0 + 2)) (v)) (10 + (4 * A 0 + 3)) (f)) 0 (A 0 + 1)) 4 = A 4 from by simp (disch := omega) only [up_ne]]; exact i6)⟩, ?_, ?_, ?_, ?_, ?_⟩, ?_, ?_, ?_, ?_, ?_⟩
  · intro t t0 t1
    rw [show (up (up (up (up (up A (10 + 4 * A 0) (a)) (10 + (4 * A 0 + 1)) (l)) (10 + (4 * A 0 + 2)) (v)) (10 + (4 * A 0 + 3)) (f)) 0 (A 0 + 1)) 0 = A 0 + 1 from by simp (disch := omega) only [up_eq]] at t1
    have es : (u (u s 50 (up (up (up (up (s 50) (A 0 * 4) (a)) (A 0 * 4 + 1) (l)) (A 0 * 4 + 2) (v)) (A 0 * 4 + 3) (f))) 49004 (fun _ => A 0 + 1)) (50 + 0) = up (up (up (up (s 50) (A 0 * 4) (a)) (A 0 * 4 + 1) (l)) (A 0 * 4 + 2) (v)) (A 0 * 4 + 3) (f) := rfl
    unfold cT
    rw [es]
    by_cases c : t = A 0
    · subst c
      simp (disch := omega) only [up_eq, up_ne, and_self]
    · have q := k1 t t0 (by omega)
      unfold cT at q
      simp (disch := omega) only [up_ne]
      exact q
  · exact PK_cg (q := 0) (q2 := 0) (by simp (disch := omega) only [up_ne]) (fun z z0 z1 => by simp (disch := omega) only [up_ne]) (fun z _ _ => rfl) (by omega) k2
  · exact PB_cg (q := 0) (q2 := 0) (by simp (disch := omega) only [up_ne]) (fun z z0 z1 => by simp (disch := omega) only [up_ne]) (fun z _ _ => rfl) (by omega) k3
  · exact PG_cg (q := 0) (q2 := 0) (by simp (disch := omega) only [up_ne]) (fun z z0 z1 => by simp (disch := omega) only [up_ne]) (fun z _ _ => rfl) (by omega) k4
  · exact PH_cg (q := 0) (q2 := 0) (fun z z0 z1 => by simp (disch := omega) only [up_ne]) (fun z _ _ => rfl) k5
  · exact (by show s 48008 0 = _; rw [show (up (up (up (up (up A (10 + 4 * A 0) (a)) (10 + (4 * A 0 + 1)) (l)) (10 + (4 * A 0 + 2)) (v)) (10 + (4 * A 0 + 3)) (f)) 0 (A 0 + 1)) 5 = A 5 from by simp (disch := omega) only [up_ne]]; exact k6)
  · exact PO_cg (q := 0) (q2 := 0) (by simp (disch := omega) only [up_ne]) (by omega) W.2 (fun z z0 z1 _ => by simp (disch := omega) only [up_ne]) (fun z _ _ => rfl) k7
  · exact PY1_cg (q := 0) (q2 := 0) (by simp (disch := omega) only [up_ne]) (by omega) (fun o o0 o1 => by simp (disch := omega) only [up_ne]) (fun z _ _ => rfl) k8
  · exact PY2_cg (q := 0) (q2 := 0) (by simp (disch := omega) only [up_ne]) (by omega) (fun z z0 z1 => by simp (disch := omega) only [up_ne]) (fun z _ _ => ⟨rfl, rfl⟩) k9
  · exact PY3_cg (q := 0) (q2 := 0) (by simp (disch := omega) only [up_ne]) (by omega) (fun z z0 z1 => by simp (disch := omega) only [up_ne]) (fun z _ _ => ⟨rfl, rfl⟩) k10
theorem wf_thing {a l v f : Int} (W : WF A) (wy : WY A) (hn : ¬ A 0 = 10) (r : (1 ≤ a ∧ a ≤ 99) ∧ (1 ≤ l ∧ l ≤ 40) ∧ (l ≤ v ∧ v ≤ 40) ∧ 0 ≤ f ∧ f ≤ 99) : WF (up (up (up (up (up A (10 + 4 * A 0) (a)) (10 + (4 * A 0 + 1)) (l)) (10 + (4 * A 0 + 2)) (v)) (10 + (4 * A 0 + 3)) (f)) 0 (A 0 + 1)) ∧ WY (up (up (up (up (up A (10 + 4 * A 0) (a)) (10 + (4 * A 0 + 1)) (l)) (10 + (4 * A 0 + 2)) (v)) (10 + (4 * A 0 + 3)) (f)) 0 (A 0 + 1)) := by
  have w0 := W.1.1
  unfold W0 at w0
  obtain ⟨⟨_, k1, k2, k3, k4, k5⟩, k6⟩ := W
  refine ⟨⟨⟨?_, ?_, ?_, ?_, ?_, ?_⟩, ?_⟩, ?_⟩
  · unfold W0
    simp (disch := omega) only [up_eq, up_ne]
    omega
  · intro t t0 t1
    rw [show (up (up (up (up (up A (10 + 4 * A 0) (a)) (10 + (4 * A 0 + 1)) (l)) (10 + (4 * A 0 + 2)) (v)) (10 + (4 * A 0 + 3)) (f)) 0 (A 0 + 1)) 0 = A 0 + 1 from by simp (disch := omega) only [up_eq]] at t1
    unfold WT
    by_cases c : t = A 0
    · subst c
      simp (disch := omega) only [up_eq, up_ne]
      omega
    · have q := k1 t t0 (by omega)
      unfold WT at q
      simp (disch := omega) only [up_ne]
      exact q
  · exact VK_cg (by simp (disch := omega) only [up_ne]) (by omega) (fun k c a b e f => by simp (disch := omega) only [up_ne]) k2
  · exact VB_cg (by simp (disch := omega) only [up_ne]) (by omega) (fun k c a b e f => by simp (disch := omega) only [up_ne]) k3
  · intro h h0 h1
    rw [show (up (up (up (up (up A (10 + 4 * A 0) (a)) (10 + (4 * A 0 + 1)) (l)) (10 + (4 * A 0 + 2)) (v)) (10 + (4 * A 0 + 3)) (f)) 0 (A 0 + 1)) (170 + h) = A (170 + h) from by simp (disch := omega) only [up_ne]]
    exact k4 h h0 h1
  · exact VG_cg (by simp (disch := omega) only [up_ne]) (by omega) (fun z z0 z1 => by simp (disch := omega) only [up_ne]) k5
  · rw [show (up (up (up (up (up A (10 + 4 * A 0) (a)) (10 + (4 * A 0 + 1)) (l)) (10 + (4 * A 0 + 2)) (v)) (10 + (4 * A 0 + 3)) (f)) 0 (A 0 + 1)) 3 = A 3 from by simp (disch := omega) only [up_ne]]
    exact VO_cg (by simp (disch := omega) only [up_eq, up_ne]; omega) (by simp (disch := omega) only [up_eq, up_ne]; omega) (fun o c a b e f => by simp (disch := omega) only [up_ne]) k6
  · intro o o0 o1
    rw [show (up (up (up (up (up A (10 + 4 * A 0) (a)) (10 + (4 * A 0 + 1)) (l)) (10 + (4 * A 0 + 2)) (v)) (10 + (4 * A 0 + 3)) (f)) 0 (A 0 + 1)) 3 = A 3 from by simp (disch := omega) only [up_ne]] at o1
    rw [show (up (up (up (up (up A (10 + 4 * A 0) (a)) (10 + (4 * A 0 + 1)) (l)) (10 + (4 * A 0 + 2)) (v)) (10 + (4 * A 0 + 3)) (f)) 0 (A 0 + 1)) (180 + (13 * o + 12)) = A (180 + (13 * o + 12)) from by simp (disch := omega) only [up_ne]]
    exact wy o o0 o1
theorem ic_maker {a l v : Int} (hI : IC 0 s A) (W : WF A) (hn : ¬ A 1 = 6) : IC 0 (u (u s 52 (up (up (up (up (s 52) (A 1 * 4) (a)) (A 1 * 4 + 1) (l)) (A 1 * 4 + 2) (v)) (A 1 * 4 + 3) (0))) 51004 (fun _ => A 1 + 1)) (up (up (up (up (up (up A (60 + 5 * A 1) (a)) (60 + (5 * A 1 + 1)) (l)) (60 + (5 * A 1 + 2)) (v)) (60 + (5 * A 1 + 3)) (0)) (60 + (5 * A 1 + 4)) (0)) 1 (A 1 + 1)) := by
  have w0 := W.1.1
  unfold W0 at w0
  obtain ⟨⟨⟨i1, i2, i3, i4, i5, i6⟩, k1, k2, k3, k4, k5⟩, k6, k7, k8, k9, k10⟩ := hI
  refine ⟨⟨⟨(by show s 49004 0 = _; rw [show (up (up (up (up (up (up A (60 + 5 * A 1) (a)) (60 + (5 * A 1 + 1)) (l)) (60 + (5 * A 1 + 2)) (v)) (60 + (5 * A 1 + 3)) (0)) (60 + (5 * A 1 + 4)) (0)) 1 (A 1 + 1)) 0 = A 0 from by simp (disch := omega) only [up_ne]]; exact i1), (by show A 1 + 1 = _; rw [up_eq rfl]), (by show s 53004 0 = _; rw [show (up (up (up (up (up (up A (60 + 5 * A 1) (a)) (60 + (5 * A 1 + 1)) (l)) (60 + (5 * A 1 + 2)) (v)) (60 + (5 * A 1 + 3)) (0)) (60 + (5 * A 1 + 4)) (0)) 1 (A 1 + 1)) 2 = A 2 from by simp (disch := omega) only [up_ne]]; exact i3), (by show s 55004 0 = _; rw [show (up (up (up (up (up (up A (60 + 5 * A 1) (a)) (60 + (5 * A 1 + 1)) (l)) (60 + (5 * A 1 + 2)) (v)) (60 + (5 * A 1 + 3)) (0)) (60 + (5 * A 1 + 4)) (0)) 1 (A 1 + 1)) 3 = A 3 from by simp (disch := omega) only [up_ne]]; exact i4), (by show s 57004 0 = _; rw [show (up (up (up (up (up (up A (60 + 5 * A 1) (a)) (60 + (5 * A 1 + 1)) (l)) (60 + (5 * A 1 + 2)) (v)) (60 + (5 * A 1 + 3)) (0)) (60 + (5 * A 1 + 4)) (0)) 1 (A 1 + 1)) 6 = A 6 from by simp (disch := omega) only [up_ne]]; exact i5), (by show s 48007 0 = _; rw [show (up (up (up (up (up (up A (60 + 5 * A 1) (a)) (60 + (5 * A 1 + 1)) (l)) (60 + (5 * A 1 + 2)) (v)) (60 + (5 * A 1 + 3)) (0)) (60 + (5 * A 1 + 4)) (0)) 1 (A 1 + 1)) 4 = A 4 from by simp (disch := omega) only [up_ne]]; exact i6)⟩, ?_, ?_, ?_, ?_, ?_⟩, ?_, ?_, ?_, ?_, ?_⟩
  · exact PT_cg (q := 0) (q2 := 0) (by simp (disch := omega) only [up_ne]) (fun z z0 z1 => by simp (disch := omega) only [up_ne]) (fun z _ _ => rfl) (by omega) k1
  · intro t t0 t1
    rw [show (up (up (up (up (up (up A (60 + 5 * A 1) (a)) (60 + (5 * A 1 + 1)) (l)) (60 + (5 * A 1 + 2)) (v)) (60 + (5 * A 1 + 3)) (0)) (60 + (5 * A 1 + 4)) (0)) 1 (A 1 + 1)) 1 = A 1 + 1 from by simp (disch := omega) only [up_eq]] at t1
    have es : (u (u s 52 (up (up (up (up (s 52) (A 1 * 4) (a)) (A 1 * 4 + 1) (l)) (A 1 * 4 + 2) (v)) (A 1 * 4 + 3) (0))) 51004 (fun _ => A 1 + 1)) (52 + 0) = up (up (up (up (s 52) (A 1 * 4) (a)) (A 1 * 4 + 1) (l)) (A 1 * 4 + 2) (v)) (A 1 * 4 + 3) (0) := rfl
    unfold cK
    rw [es]
    by_cases c : t = A 1
    · subst c
      simp (disch := omega) only [up_eq, up_ne, and_self]
    · have q := k2 t t0 (by omega)
      unfold cK at q
      simp (disch := omega) only [up_ne]
      exact q
  · exact PB_cg (q := 0) (q2 := 0) (by simp (disch := omega) only [up_ne]) (fun z z0 z1 => by simp (disch := omega) only [up_ne]) (fun z _ _ => rfl) (by omega) k3
  · exact PG_cg (q := 0) (q2 := 0) (by simp (disch := omega) only [up_ne]) (fun z z0 z1 => by simp (disch := omega) only [up_ne]) (fun z _ _ => rfl) (by omega) k4
  · exact PH_cg (q := 0) (q2 := 0) (fun z z0 z1 => by simp (disch := omega) only [up_ne]) (fun z _ _ => rfl) k5
  · exact (by show s 48008 0 = _; rw [show (up (up (up (up (up (up A (60 + 5 * A 1) (a)) (60 + (5 * A 1 + 1)) (l)) (60 + (5 * A 1 + 2)) (v)) (60 + (5 * A 1 + 3)) (0)) (60 + (5 * A 1 + 4)) (0)) 1 (A 1 + 1)) 5 = A 5 from by simp (disch := omega) only [up_ne]]; exact k6)
  · exact PO_cg (q := 0) (q2 := 0) (by simp (disch := omega) only [up_ne]) (by omega) W.2 (fun z z0 z1 _ => by simp (disch := omega) only [up_ne]) (fun z _ _ => rfl) k7
  · exact PY1_cg (q := 0) (q2 := 0) (by simp (disch := omega) only [up_ne]) (by omega) (fun o o0 o1 => by simp (disch := omega) only [up_ne]) (fun z _ _ => rfl) k8
  · intro o o0 o1
    have q := k9 o o0 o1
    rw [show (up (up (up (up (up (up A (60 + 5 * A 1) (a)) (60 + (5 * A 1 + 1)) (l)) (60 + (5 * A 1 + 2)) (v)) (60 + (5 * A 1 + 3)) (0)) (60 + (5 * A 1 + 4)) (0)) 1 (A 1 + 1)) 1 = A 1 + 1 from by simp (disch := omega) only [up_eq]]
    show s 62 o = _ ∧ s 63 o = _
    have q : s 62 o = _ ∧ s 63 o = _ := q
    by_cases c : o = A 1
    · subst c
      rw [if_neg (by omega), if_neg (by omega)] at q
      rw [if_pos (by omega), if_pos (by omega)]
      simp (disch := omega) only [up_eq, up_ne]
      exact q
    · by_cases c2 : o < A 1
      · rw [if_pos c2, if_pos c2] at q
        rw [if_pos (by omega), if_pos (by omega)]
        simp (disch := omega) only [up_ne]
        exact q
      · rw [if_neg c2, if_neg c2] at q
        rw [if_neg (by omega), if_neg (by omega)]
        exact q
  · exact PY3_cg (q := 0) (q2 := 0) (by simp (disch := omega) only [up_ne]) (by omega) (fun z z0 z1 => by simp (disch := omega) only [up_ne]) (fun z _ _ => ⟨rfl, rfl⟩) k10
theorem wf_maker {a l v : Int} (W : WF A) (wy : WY A) (hn : ¬ A 1 = 6) (r : (0 ≤ a ∧ a ≤ 9999) ∧ (0 ≤ l ∧ l ≤ 1023) ∧ 0 ≤ v ∧ v ≤ 99) : WF (up (up (up (up (up (up A (60 + 5 * A 1) (a)) (60 + (5 * A 1 + 1)) (l)) (60 + (5 * A 1 + 2)) (v)) (60 + (5 * A 1 + 3)) (0)) (60 + (5 * A 1 + 4)) (0)) 1 (A 1 + 1)) ∧ WY (up (up (up (up (up (up A (60 + 5 * A 1) (a)) (60 + (5 * A 1 + 1)) (l)) (60 + (5 * A 1 + 2)) (v)) (60 + (5 * A 1 + 3)) (0)) (60 + (5 * A 1 + 4)) (0)) 1 (A 1 + 1)) := by
  have w0 := W.1.1
  unfold W0 at w0
  obtain ⟨⟨_, k1, k2, k3, k4, k5⟩, k6⟩ := W
  refine ⟨⟨⟨?_, ?_, ?_, ?_, ?_, ?_⟩, ?_⟩, ?_⟩
  · unfold W0
    simp (disch := omega) only [up_eq, up_ne]
    omega
  · exact VT_cg (by simp (disch := omega) only [up_ne]) (by omega) (fun z z0 z1 => by simp (disch := omega) only [up_ne]) k1
  · intro t t0 t1
    rw [show (up (up (up (up (up (up A (60 + 5 * A 1) (a)) (60 + (5 * A 1 + 1)) (l)) (60 + (5 * A 1 + 2)) (v)) (60 + (5 * A 1 + 3)) (0)) (60 + (5 * A 1 + 4)) (0)) 1 (A 1 + 1)) 1 = A 1 + 1 from by simp (disch := omega) only [up_eq]] at t1
    unfold WK
    by_cases c : t = A 1
    · subst c
      simp (disch := omega) only [up_eq, up_ne]
      omega
    · have q := k2 t t0 (by omega)
      unfold WK at q
      simp (disch := omega) only [up_ne]
      exact q
  · exact VB_cg (by simp (disch := omega) only [up_ne]) (by omega) (fun k c a b e f => by simp (disch := omega) only [up_ne]) k3
  · intro h h0 h1
    rw [show (up (up (up (up (up (up A (60 + 5 * A 1) (a)) (60 + (5 * A 1 + 1)) (l)) (60 + (5 * A 1 + 2)) (v)) (60 + (5 * A 1 + 3)) (0)) (60 + (5 * A 1 + 4)) (0)) 1 (A 1 + 1)) (170 + h) = A (170 + h) from by simp (disch := omega) only [up_ne]]
    exact k4 h h0 h1
  · exact VG_cg (by simp (disch := omega) only [up_ne]) (by omega) (fun z z0 z1 => by simp (disch := omega) only [up_ne]) k5
  · rw [show (up (up (up (up (up (up A (60 + 5 * A 1) (a)) (60 + (5 * A 1 + 1)) (l)) (60 + (5 * A 1 + 2)) (v)) (60 + (5 * A 1 + 3)) (0)) (60 + (5 * A 1 + 4)) (0)) 1 (A 1 + 1)) 3 = A 3 from by simp (disch := omega) only [up_ne]]
    exact VO_cg (by simp (disch := omega) only [up_eq, up_ne]; omega) (by simp (disch := omega) only [up_eq, up_ne]; omega) (fun o c a b e f => by simp (disch := omega) only [up_ne]) k6
  · intro o o0 o1
    rw [show (up (up (up (up (up (up A (60 + 5 * A 1) (a)) (60 + (5 * A 1 + 1)) (l)) (60 + (5 * A 1 + 2)) (v)) (60 + (5 * A 1 + 3)) (0)) (60 + (5 * A 1 + 4)) (0)) 1 (A 1 + 1)) 3 = A 3 from by simp (disch := omega) only [up_ne]] at o1
    rw [show (up (up (up (up (up (up A (60 + 5 * A 1) (a)) (60 + (5 * A 1 + 1)) (l)) (60 + (5 * A 1 + 2)) (v)) (60 + (5 * A 1 + 3)) (0)) (60 + (5 * A 1 + 4)) (0)) 1 (A 1 + 1)) (180 + (13 * o + 12)) = A (180 + (13 * o + 12)) from by simp (disch := omega) only [up_ne]]
    exact wy o o0 o1
theorem ic_adds {a l v f : Int} (hI : IC 0 s A) (W : WF A) (hn : A 2 < 10) : IC 0 (u (u s 54 (up (up (up (up (s 54) (A 2 * 4) (a)) (A 2 * 4 + 1) (l)) (A 2 * 4 + 2) (v)) (A 2 * 4 + 3) (f))) 53004 (fun _ => A 2 + 1)) (up (up (up (up (up (up (up A (100 + 6 * A 2) (a)) (100 + (6 * A 2 + 1)) (l)) (100 + (6 * A 2 + 2)) (v)) (100 + (6 * A 2 + 3)) (f)) (100 + (6 * A 2 + 4)) (0)) (100 + (6 * A 2 + 5)) (0)) 2 (A 2 + 1)) := by
  have w0 := W.1.1
  unfold W0 at w0
  obtain ⟨⟨⟨i1, i2, i3, i4, i5, i6⟩, k1, k2, k3, k4, k5⟩, k6, k7, k8, k9, k10⟩ := hI
  refine ⟨⟨⟨(by show s 49004 0 = _; rw [show (up (up (up (up (up (up (up A (100 + 6 * A 2) (a)) (100 + (6 * A 2 + 1)) (l)) (100 + (6 * A 2 + 2)) (v)) (100 + (6 * A 2 + 3)) (f)) (100 + (6 * A 2 + 4)) (0)) (100 + (6 * A 2 + 5)) (0)) 2 (A 2 + 1)) 0 = A 0 from by simp (disch := omega) only [up_ne]]; exact i1), (by show s 51004 0 = _; rw [show (up (up (up (up (up (up (up A (100 + 6 * A 2) (a)) (100 + (6 * A 2 + 1)) (l)) (100 + (6 * A 2 + 2)) (v)) (100 + (6 * A 2 + 3)) (f)) (100 + (6 * A 2 + 4)) (0)) (100 + (6 * A 2 + 5)) (0)) 2 (A 2 + 1)) 1 = A 1 from by simp (disch := omega) only [up_ne]]; exact i2), (by show A 2 + 1 = _; rw [up_eq rfl]), (by show s 55004 0 = _; rw [show (up (up (up (up (up (up (up A (100 + 6 * A 2) (a)) (100 + (6 * A 2 + 1)) (l)) (100 + (6 * A 2 + 2)) (v)) (100 + (6 * A 2 + 3)) (f)) (100 + (6 * A 2 + 4)) (0)) (100 + (6 * A 2 + 5)) (0)) 2 (A 2 + 1)) 3 = A 3 from by simp (disch := omega) only [up_ne]]; exact i4), (by show s 57004 0 = _; rw [show (up (up (up (up (up (up (up A (100 + 6 * A 2) (a)) (100 + (6 * A 2 + 1)) (l)) (100 + (6 * A 2 + 2)) (v)) (100 + (6 * A 2 + 3)) (f)) (100 + (6 * A 2 + 4)) (0)) (100 + (6 * A 2 + 5)) (0)) 2 (A 2 + 1)) 6 = A 6 from by simp (disch := omega) only [up_ne]]; exact i5), (by show s 48007 0 = _; rw [show (up (up (up (up (up (up (up A (100 + 6 * A 2) (a)) (100 + (6 * A 2 + 1)) (l)) (100 + (6 * A 2 + 2)) (v)) (100 + (6 * A 2 + 3)) (f)) (100 + (6 * A 2 + 4)) (0)) (100 + (6 * A 2 + 5)) (0)) 2 (A 2 + 1)) 4 = A 4 from by simp (disch := omega) only [up_ne]]; exact i6)⟩, ?_, ?_, ?_, ?_, ?_⟩, ?_, ?_, ?_, ?_, ?_⟩
  · exact PT_cg (q := 0) (q2 := 0) (by simp (disch := omega) only [up_ne]) (fun z z0 z1 => by simp (disch := omega) only [up_ne]) (fun z _ _ => rfl) (by omega) k1
  · exact PK_cg (q := 0) (q2 := 0) (by simp (disch := omega) only [up_ne]) (fun z z0 z1 => by simp (disch := omega) only [up_ne]) (fun z _ _ => rfl) (by omega) k2
  · intro t t0 t1
    rw [show (up (up (up (up (up (up (up A (100 + 6 * A 2) (a)) (100 + (6 * A 2 + 1)) (l)) (100 + (6 * A 2 + 2)) (v)) (100 + (6 * A 2 + 3)) (f)) (100 + (6 * A 2 + 4)) (0)) (100 + (6 * A 2 + 5)) (0)) 2 (A 2 + 1)) 2 = A 2 + 1 from by simp (disch := omega) only [up_eq]] at t1
    have es : (u (u s 54 (up (up (up (up (s 54) (A 2 * 4) (a)) (A 2 * 4 + 1) (l)) (A 2 * 4 + 2) (v)) (A 2 * 4 + 3) (f))) 53004 (fun _ => A 2 + 1)) (54 + 0) = up (up (up (up (s 54) (A 2 * 4) (a)) (A 2 * 4 + 1) (l)) (A 2 * 4 + 2) (v)) (A 2 * 4 + 3) (f) := rfl
    unfold cB
    rw [es]
    by_cases c : t = A 2
    · subst c
      simp (disch := omega) only [up_eq, up_ne, and_self]
    · have q := k3 t t0 (by omega)
      unfold cB at q
      simp (disch := omega) only [up_ne]
      exact q
  · exact PG_cg (q := 0) (q2 := 0) (by simp (disch := omega) only [up_ne]) (fun z z0 z1 => by simp (disch := omega) only [up_ne]) (fun z _ _ => rfl) (by omega) k4
  · exact PH_cg (q := 0) (q2 := 0) (fun z z0 z1 => by simp (disch := omega) only [up_ne]) (fun z _ _ => rfl) k5
  · exact (by show s 48008 0 = _; rw [show (up (up (up (up (up (up (up A (100 + 6 * A 2) (a)) (100 + (6 * A 2 + 1)) (l)) (100 + (6 * A 2 + 2)) (v)) (100 + (6 * A 2 + 3)) (f)) (100 + (6 * A 2 + 4)) (0)) (100 + (6 * A 2 + 5)) (0)) 2 (A 2 + 1)) 5 = A 5 from by simp (disch := omega) only [up_ne]]; exact k6)
  · exact PO_cg (q := 0) (q2 := 0) (by simp (disch := omega) only [up_ne]) (by omega) W.2 (fun z z0 z1 _ => by simp (disch := omega) only [up_ne]) (fun z _ _ => rfl) k7
  · exact PY1_cg (q := 0) (q2 := 0) (by simp (disch := omega) only [up_ne]) (by omega) (fun o o0 o1 => by simp (disch := omega) only [up_ne]) (fun z _ _ => rfl) k8
  · exact PY2_cg (q := 0) (q2 := 0) (by simp (disch := omega) only [up_ne]) (by omega) (fun z z0 z1 => by simp (disch := omega) only [up_ne]) (fun z _ _ => ⟨rfl, rfl⟩) k9
  · intro o o0 o1
    have q := k10 o o0 o1
    rw [show (up (up (up (up (up (up (up A (100 + 6 * A 2) (a)) (100 + (6 * A 2 + 1)) (l)) (100 + (6 * A 2 + 2)) (v)) (100 + (6 * A 2 + 3)) (f)) (100 + (6 * A 2 + 4)) (0)) (100 + (6 * A 2 + 5)) (0)) 2 (A 2 + 1)) 2 = A 2 + 1 from by simp (disch := omega) only [up_eq]]
    show s 64 o = _ ∧ s 65 o = _
    have q : s 64 o = _ ∧ s 65 o = _ := q
    by_cases c : o = A 2
    · subst c
      rw [if_neg (by omega), if_neg (by omega)] at q
      rw [if_pos (by omega), if_pos (by omega)]
      simp (disch := omega) only [up_eq, up_ne]
      exact q
    · by_cases c2 : o < A 2
      · rw [if_pos c2, if_pos c2] at q
        rw [if_pos (by omega), if_pos (by omega)]
        simp (disch := omega) only [up_ne]
        exact q
      · rw [if_neg c2, if_neg c2] at q
        rw [if_neg (by omega), if_neg (by omega)]
        exact q
theorem wf_adds {a l v f : Int} (W : WF A) (wy : WY A) (hn : A 2 < 10) (r : (1 ≤ a ∧ a ≤ 999) ∧ (0 ≤ l ∧ l ≤ 9) ∧ (0 ≤ v ∧ v ≤ 99) ∧ 1 ≤ f ∧ f ≤ 99) : WF (up (up (up (up (up (up (up A (100 + 6 * A 2) (a)) (100 + (6 * A 2 + 1)) (l)) (100 + (6 * A 2 + 2)) (v)) (100 + (6 * A 2 + 3)) (f)) (100 + (6 * A 2 + 4)) (0)) (100 + (6 * A 2 + 5)) (0)) 2 (A 2 + 1)) ∧ WY (up (up (up (up (up (up (up A (100 + 6 * A 2) (a)) (100 + (6 * A 2 + 1)) (l)) (100 + (6 * A 2 + 2)) (v)) (100 + (6 * A 2 + 3)) (f)) (100 + (6 * A 2 + 4)) (0)) (100 + (6 * A 2 + 5)) (0)) 2 (A 2 + 1)) := by
  have w0 := W.1.1
  unfold W0 at w0
  obtain ⟨⟨_, k1, k2, k3, k4, k5⟩, k6⟩ := W
  refine ⟨⟨⟨?_, ?_, ?_, ?_, ?_, ?_⟩, ?_⟩, ?_⟩
  · unfold W0
    simp (disch := omega) only [up_eq, up_ne]
    omega
  · exact VT_cg (by simp (disch := omega) only [up_ne]) (by omega) (fun z z0 z1 => by simp (disch := omega) only [up_ne]) k1
  · exact VK_cg (by simp (disch := omega) only [up_ne]) (by omega) (fun k c a b e f => by simp (disch := omega) only [up_ne]) k2
  · intro t t0 t1
    rw [show (up (up (up (up (up (up (up A (100 + 6 * A 2) (a)) (100 + (6 * A 2 + 1)) (l)) (100 + (6 * A 2 + 2)) (v)) (100 + (6 * A 2 + 3)) (f)) (100 + (6 * A 2 + 4)) (0)) (100 + (6 * A 2 + 5)) (0)) 2 (A 2 + 1)) 2 = A 2 + 1 from by simp (disch := omega) only [up_eq]] at t1
    unfold WB
    by_cases c : t = A 2
    · subst c
      simp (disch := omega) only [up_eq, up_ne]
      omega
    · have q := k3 t t0 (by omega)
      unfold WB at q
      simp (disch := omega) only [up_ne]
      exact q
  · intro h h0 h1
    rw [show (up (up (up (up (up (up (up A (100 + 6 * A 2) (a)) (100 + (6 * A 2 + 1)) (l)) (100 + (6 * A 2 + 2)) (v)) (100 + (6 * A 2 + 3)) (f)) (100 + (6 * A 2 + 4)) (0)) (100 + (6 * A 2 + 5)) (0)) 2 (A 2 + 1)) (170 + h) = A (170 + h) from by simp (disch := omega) only [up_ne]]
    exact k4 h h0 h1
  · exact VG_cg (by simp (disch := omega) only [up_ne]) (by omega) (fun z z0 z1 => by simp (disch := omega) only [up_ne]) k5
  · rw [show (up (up (up (up (up (up (up A (100 + 6 * A 2) (a)) (100 + (6 * A 2 + 1)) (l)) (100 + (6 * A 2 + 2)) (v)) (100 + (6 * A 2 + 3)) (f)) (100 + (6 * A 2 + 4)) (0)) (100 + (6 * A 2 + 5)) (0)) 2 (A 2 + 1)) 3 = A 3 from by simp (disch := omega) only [up_ne]]
    exact VO_cg (by simp (disch := omega) only [up_eq, up_ne]; omega) (by simp (disch := omega) only [up_eq, up_ne]; omega) (fun o c a b e f => by simp (disch := omega) only [up_ne]) k6
  · intro o o0 o1
    rw [show (up (up (up (up (up (up (up A (100 + 6 * A 2) (a)) (100 + (6 * A 2 + 1)) (l)) (100 + (6 * A 2 + 2)) (v)) (100 + (6 * A 2 + 3)) (f)) (100 + (6 * A 2 + 4)) (0)) (100 + (6 * A 2 + 5)) (0)) 2 (A 2 + 1)) 3 = A 3 from by simp (disch := omega) only [up_ne]] at o1
    rw [show (up (up (up (up (up (up (up A (100 + 6 * A 2) (a)) (100 + (6 * A 2 + 1)) (l)) (100 + (6 * A 2 + 2)) (v)) (100 + (6 * A 2 + 3)) (f)) (100 + (6 * A 2 + 4)) (0)) (100 + (6 * A 2 + 5)) (0)) 2 (A 2 + 1)) (180 + (13 * o + 12)) = A (180 + (13 * o + 12)) from by simp (disch := omega) only [up_ne]]
    exact wy o o0 o1
theorem ic_house {a l : Int} (hI : IC 0 s A) (W : WF A) (r : 0 ≤ a ∧ a ≤ 3) : IC 0 (u s 59 (up (s 59) a l)) (up A (170 + a) l) := by
  have w0 := W.1.1
  unfold W0 at w0
  obtain ⟨⟨⟨i1, i2, i3, i4, i5, i6⟩, k1, k2, k3, k4, k5⟩, k6, k7, k8, k9, k10⟩ := hI
  refine ⟨⟨⟨(by show s 49004 0 = _; rw [show (up A (170 + a) l) 0 = A 0 from by simp (disch := omega) only [up_ne]]; exact i1), (by show s 51004 0 = _; rw [show (up A (170 + a) l) 1 = A 1 from by simp (disch := omega) only [up_ne]]; exact i2), (by show s 53004 0 = _; rw [show (up A (170 + a) l) 2 = A 2 from by simp (disch := omega) only [up_ne]]; exact i3), (by show s 55004 0 = _; rw [show (up A (170 + a) l) 3 = A 3 from by simp (disch := omega) only [up_ne]]; exact i4), (by show s 57004 0 = _; rw [show (up A (170 + a) l) 6 = A 6 from by simp (disch := omega) only [up_ne]]; exact i5), (by show s 48007 0 = _; rw [show (up A (170 + a) l) 4 = A 4 from by simp (disch := omega) only [up_ne]]; exact i6)⟩, ?_, ?_, ?_, ?_, ?_⟩, ?_, ?_, ?_, ?_, ?_⟩
  · exact PT_cg (q := 0) (q2 := 0) (by simp (disch := omega) only [up_ne]) (fun z z0 z1 => by simp (disch := omega) only [up_ne]) (fun z _ _ => rfl) (by omega) k1
  · exact PK_cg (q := 0) (q2 := 0) (by simp (disch := omega) only [up_ne]) (fun z z0 z1 => by simp (disch := omega) only [up_ne]) (fun z _ _ => rfl) (by omega) k2
  · exact PB_cg (q := 0) (q2 := 0) (by simp (disch := omega) only [up_ne]) (fun z z0 z1 => by simp (disch := omega) only [up_ne]) (fun z _ _ => rfl) (by omega) k3
  · exact PG_cg (q := 0) (q2 := 0) (by simp (disch := omega) only [up_ne]) (fun z z0 z1 => by simp (disch := omega) only [up_ne]) (fun z _ _ => rfl) (by omega) k4
  · intro h h0 h1
    show up (s 59) a l h = up A (170 + a) l (170 + h)
    by_cases c : h = a
    · rw [up_eq c, up_eq (by omega)]
    · rw [up_ne c, up_ne (by omega)]
      exact k5 h h0 h1
  · exact (by show s 48008 0 = _; rw [show (up A (170 + a) l) 5 = A 5 from by simp (disch := omega) only [up_ne]]; exact k6)
  · exact PO_cg (q := 0) (q2 := 0) (by simp (disch := omega) only [up_ne]) (by omega) W.2 (fun z z0 z1 _ => by simp (disch := omega) only [up_ne]) (fun z _ _ => rfl) k7
  · exact PY1_cg (q := 0) (q2 := 0) (by simp (disch := omega) only [up_ne]) (by omega) (fun o o0 o1 => by simp (disch := omega) only [up_ne]) (fun z _ _ => rfl) k8
  · exact PY2_cg (q := 0) (q2 := 0) (by simp (disch := omega) only [up_ne]) (by omega) (fun z z0 z1 => by simp (disch := omega) only [up_ne]) (fun z _ _ => ⟨rfl, rfl⟩) k9
  · exact PY3_cg (q := 0) (q2 := 0) (by simp (disch := omega) only [up_ne]) (by omega) (fun z z0 z1 => by simp (disch := omega) only [up_ne]) (fun z _ _ => ⟨rfl, rfl⟩) k10
theorem wf_house {a l : Int} (W : WF A) (wy : WY A) (r : (0 ≤ a ∧ a ≤ 3) ∧ 50 ≤ l ∧ l ≤ 150) : WF (up A (170 + a) l) ∧ WY (up A (170 + a) l) := by
  have w0 := W.1.1
  unfold W0 at w0
  obtain ⟨⟨_, k1, k2, k3, k4, k5⟩, k6⟩ := W
  refine ⟨⟨⟨?_, ?_, ?_, ?_, ?_, ?_⟩, ?_⟩, ?_⟩
  · unfold W0
    simp (disch := omega) only [up_eq, up_ne]
    omega
  · exact VT_cg (by simp (disch := omega) only [up_ne]) (by omega) (fun z z0 z1 => by simp (disch := omega) only [up_ne]) k1
  · exact VK_cg (by simp (disch := omega) only [up_ne]) (by omega) (fun k c a b e f => by simp (disch := omega) only [up_ne]) k2
  · exact VB_cg (by simp (disch := omega) only [up_ne]) (by omega) (fun k c a b e f => by simp (disch := omega) only [up_ne]) k3
  · intro h h0 h1
    by_cases c : h = a
    · rw [up_eq (by omega)]
      omega
    · rw [up_ne (by omega)]
      exact k4 h h0 h1
  · exact VG_cg (by simp (disch := omega) only [up_ne]) (by omega) (fun z z0 z1 => by simp (disch := omega) only [up_ne]) k5
  · rw [show (up A (170 + a) l) 3 = A 3 from by simp (disch := omega) only [up_ne]]
    exact VO_cg (by simp (disch := omega) only [up_eq, up_ne]; omega) (by simp (disch := omega) only [up_eq, up_ne]; omega) (fun o c a b e f => by simp (disch := omega) only [up_ne]) k6
  · intro o o0 o1
    rw [show (up A (170 + a) l) 3 = A 3 from by simp (disch := omega) only [up_ne]] at o1
    rw [show (up A (170 + a) l) (180 + (13 * o + 12)) = A (180 + (13 * o + 12)) from by simp (disch := omega) only [up_ne]]
    exact wy o o0 o1
theorem ic_gift {a l v : Int} (hI : IC 0 s A) (W : WF A) (hn : ¬ A 6 = 30) : IC 0 (u (u s 58 (up (up (up (up (s 58) (A 6 * 4) (a)) (A 6 * 4 + 1) (l)) (A 6 * 4 + 2) (v)) (A 6 * 4 + 3) (0))) 57004 (fun _ => A 6 + 1)) (up (up (up (up A (480 + 3 * A 6) (a)) (480 + (3 * A 6 + 1)) (l)) (480 + (3 * A 6 + 2)) (v)) 6 (A 6 + 1)) := by
  have w0 := W.1.1
  unfold W0 at w0
  obtain ⟨⟨⟨i1, i2, i3, i4, i5, i6⟩, k1, k2, k3, k4, k5⟩, k6, k7, k8, k9, k10⟩ := hI
  refine ⟨⟨⟨(by show s 49004 0 = _; rw [show (up (up (up (up A (480 + 3 * A 6) (a)) (480 + (3 * A 6 + 1)) (l)) (480 + (3 * A 6 + 2)) (v)) 6 (A 6 + 1)) 0 = A 0 from by simp (disch := omega) only [up_ne]]; exact i1), (by show s 51004 0 = _; rw [show (up (up (up (up A (480 + 3 * A 6) (a)) (480 + (3 * A 6 + 1)) (l)) (480 + (3 * A 6 + 2)) (v)) 6 (A 6 + 1)) 1 = A 1 from by simp (disch := omega) only [up_ne]]; exact i2), (by show s 53004 0 = _; rw [show (up (up (up (up A (480 + 3 * A 6) (a)) (480 + (3 * A 6 + 1)) (l)) (480 + (3 * A 6 + 2)) (v)) 6 (A 6 + 1)) 2 = A 2 from by simp (disch := omega) only [up_ne]]; exact i3), (by show s 55004 0 = _; rw [show (up (up (up (up A (480 + 3 * A 6) (a)) (480 + (3 * A 6 + 1)) (l)) (480 + (3 * A 6 + 2)) (v)) 6 (A 6 + 1)) 3 = A 3 from by simp (disch := omega) only [up_ne]]; exact i4), (by show A 6 + 1 = _; rw [up_eq rfl]), (by show s 48007 0 = _; rw [show (up (up (up (up A (480 + 3 * A 6) (a)) (480 + (3 * A 6 + 1)) (l)) (480 + (3 * A 6 + 2)) (v)) 6 (A 6 + 1)) 4 = A 4 from by simp (disch := omega) only [up_ne]]; exact i6)⟩, ?_, ?_, ?_, ?_, ?_⟩, ?_, ?_, ?_, ?_, ?_⟩
  · exact PT_cg (q := 0) (q2 := 0) (by simp (disch := omega) only [up_ne]) (fun z z0 z1 => by simp (disch := omega) only [up_ne]) (fun z _ _ => rfl) (by omega) k1
  · exact PK_cg (q := 0) (q2 := 0) (by simp (disch := omega) only [up_ne]) (fun z z0 z1 => by simp (disch := omega) only [up_ne]) (fun z _ _ => rfl) (by omega) k2
  · exact PB_cg (q := 0) (q2 := 0) (by simp (disch := omega) only [up_ne]) (fun z z0 z1 => by simp (disch := omega) only [up_ne]) (fun z _ _ => rfl) (by omega) k3
  · intro t t0 t1
    rw [show (up (up (up (up A (480 + 3 * A 6) (a)) (480 + (3 * A 6 + 1)) (l)) (480 + (3 * A 6 + 2)) (v)) 6 (A 6 + 1)) 6 = A 6 + 1 from by simp (disch := omega) only [up_eq]] at t1
    have es : (u (u s 58 (up (up (up (up (s 58) (A 6 * 4) (a)) (A 6 * 4 + 1) (l)) (A 6 * 4 + 2) (v)) (A 6 * 4 + 3) (0))) 57004 (fun _ => A 6 + 1)) (58 + 0) = up (up (up (up (s 58) (A 6 * 4) (a)) (A 6 * 4 + 1) (l)) (A 6 * 4 + 2) (v)) (A 6 * 4 + 3) (0) := rfl
    unfold cG
    rw [es]
    by_cases c : t = A 6
    · subst c
      simp (disch := omega) only [up_eq, up_ne, and_self]
    · have q := k4 t t0 (by omega)
      unfold cG at q
      simp (disch := omega) only [up_ne]
      exact q
  · exact PH_cg (q := 0) (q2 := 0) (fun z z0 z1 => by simp (disch := omega) only [up_ne]) (fun z _ _ => rfl) k5
  · exact (by show s 48008 0 = _; rw [show (up (up (up (up A (480 + 3 * A 6) (a)) (480 + (3 * A 6 + 1)) (l)) (480 + (3 * A 6 + 2)) (v)) 6 (A 6 + 1)) 5 = A 5 from by simp (disch := omega) only [up_ne]]; exact k6)
  · exact PO_cg (q := 0) (q2 := 0) (by simp (disch := omega) only [up_ne]) (by omega) W.2 (fun z z0 z1 _ => by simp (disch := omega) only [up_ne]) (fun z _ _ => rfl) k7
  · exact PY1_cg (q := 0) (q2 := 0) (by simp (disch := omega) only [up_ne]) (by omega) (fun o o0 o1 => by simp (disch := omega) only [up_ne]) (fun z _ _ => rfl) k8
  · exact PY2_cg (q := 0) (q2 := 0) (by simp (disch := omega) only [up_ne]) (by omega) (fun z z0 z1 => by simp (disch := omega) only [up_ne]) (fun z _ _ => ⟨rfl, rfl⟩) k9
  · exact PY3_cg (q := 0) (q2 := 0) (by simp (disch := omega) only [up_ne]) (by omega) (fun z z0 z1 => by simp (disch := omega) only [up_ne]) (fun z _ _ => ⟨rfl, rfl⟩) k10
theorem wf_gift {a l v : Int} (W : WF A) (wy : WY A) (hn : ¬ A 6 = 30) (r : (0 ≤ a ∧ a ≤ 7) ∧ (0 ≤ l ∧ l ≤ 7) ∧ ¬ a = l ∧ 1 ≤ v ∧ v ≤ 999) : WF (up (up (up (up A (480 + 3 * A 6) (a)) (480 + (3 * A 6 + 1)) (l)) (480 + (3 * A 6 + 2)) (v)) 6 (A 6 + 1)) ∧ WY (up (up (up (up A (480 + 3 * A 6) (a)) (480 + (3 * A 6 + 1)) (l)) (480 + (3 * A 6 + 2)) (v)) 6 (A 6 + 1)) := by
  have w0 := W.1.1
  unfold W0 at w0
  obtain ⟨⟨_, k1, k2, k3, k4, k5⟩, k6⟩ := W
  refine ⟨⟨⟨?_, ?_, ?_, ?_, ?_, ?_⟩, ?_⟩, ?_⟩
  · unfold W0
    simp (disch := omega) only [up_eq, up_ne]
    omega
  · exact VT_cg (by simp (disch := omega) only [up_ne]) (by omega) (fun z z0 z1 => by simp (disch := omega) only [up_ne]) k1
  · exact VK_cg (by simp (disch := omega) only [up_ne]) (by omega) (fun k c a b e f => by simp (disch := omega) only [up_ne]) k2
  · exact VB_cg (by simp (disch := omega) only [up_ne]) (by omega) (fun k c a b e f => by simp (disch := omega) only [up_ne]) k3
  · intro h h0 h1
    rw [show (up (up (up (up A (480 + 3 * A 6) (a)) (480 + (3 * A 6 + 1)) (l)) (480 + (3 * A 6 + 2)) (v)) 6 (A 6 + 1)) (170 + h) = A (170 + h) from by simp (disch := omega) only [up_ne]]
    exact k4 h h0 h1
  · intro t t0 t1
    rw [show (up (up (up (up A (480 + 3 * A 6) (a)) (480 + (3 * A 6 + 1)) (l)) (480 + (3 * A 6 + 2)) (v)) 6 (A 6 + 1)) 6 = A 6 + 1 from by simp (disch := omega) only [up_eq]] at t1
    unfold WG
    by_cases c : t = A 6
    · subst c
      simp (disch := omega) only [up_eq, up_ne]
      omega
    · have q := k5 t t0 (by omega)
      unfold WG at q
      simp (disch := omega) only [up_ne]
      exact q
  · rw [show (up (up (up (up A (480 + 3 * A 6) (a)) (480 + (3 * A 6 + 1)) (l)) (480 + (3 * A 6 + 2)) (v)) 6 (A 6 + 1)) 3 = A 3 from by simp (disch := omega) only [up_ne]]
    exact VO_cg (by simp (disch := omega) only [up_eq, up_ne]; omega) (by simp (disch := omega) only [up_eq, up_ne]; omega) (fun o c a b e f => by simp (disch := omega) only [up_ne]) k6
  · intro o o0 o1
    rw [show (up (up (up (up A (480 + 3 * A 6) (a)) (480 + (3 * A 6 + 1)) (l)) (480 + (3 * A 6 + 2)) (v)) 6 (A 6 + 1)) 3 = A 3 from by simp (disch := omega) only [up_ne]] at o1
    rw [show (up (up (up (up A (480 + 3 * A 6) (a)) (480 + (3 * A 6 + 1)) (l)) (480 + (3 * A 6 + 2)) (v)) 6 (A 6 + 1)) (180 + (13 * o + 12)) = A (180 + (13 * o + 12)) from by simp (disch := omega) only [up_ne]]
    exact wy o o0 o1
theorem ic_by {a : Int} (hI : IC 0 s A) (W : WF A) : IC 0 (u s 48008 (fun _ => a)) (up A 5 a) := by
  have w0 := W.1.1
  unfold W0 at w0
  obtain ⟨⟨⟨i1, i2, i3, i4, i5, i6⟩, k1, k2, k3, k4, k5⟩, k6, k7, k8, k9, k10⟩ := hI
  refine ⟨⟨⟨(by show s 49004 0 = _; rw [show (up A 5 a) 0 = A 0 from by simp (disch := omega) only [up_ne]]; exact i1), (by show s 51004 0 = _; rw [show (up A 5 a) 1 = A 1 from by simp (disch := omega) only [up_ne]]; exact i2), (by show s 53004 0 = _; rw [show (up A 5 a) 2 = A 2 from by simp (disch := omega) only [up_ne]]; exact i3), (by show s 55004 0 = _; rw [show (up A 5 a) 3 = A 3 from by simp (disch := omega) only [up_ne]]; exact i4), (by show s 57004 0 = _; rw [show (up A 5 a) 6 = A 6 from by simp (disch := omega) only [up_ne]]; exact i5), (by show s 48007 0 = _; rw [show (up A 5 a) 4 = A 4 from by simp (disch := omega) only [up_ne]]; exact i6)⟩, ?_, ?_, ?_, ?_, ?_⟩, ?_, ?_, ?_, ?_, ?_⟩
  · exact PT_cg (q := 0) (q2 := 0) (by simp (disch := omega) only [up_ne]) (fun z z0 z1 => by simp (disch := omega) only [up_ne]) (fun z _ _ => rfl) (by omega) k1
  · exact PK_cg (q := 0) (q2 := 0) (by simp (disch := omega) only [up_ne]) (fun z z0 z1 => by simp (disch := omega) only [up_ne]) (fun z _ _ => rfl) (by omega) k2
  · exact PB_cg (q := 0) (q2 := 0) (by simp (disch := omega) only [up_ne]) (fun z z0 z1 => by simp (disch := omega) only [up_ne]) (fun z _ _ => rfl) (by omega) k3
  · exact PG_cg (q := 0) (q2 := 0) (by simp (disch := omega) only [up_ne]) (fun z z0 z1 => by simp (disch := omega) only [up_ne]) (fun z _ _ => rfl) (by omega) k4
  · exact PH_cg (q := 0) (q2 := 0) (fun z z0 z1 => by simp (disch := omega) only [up_ne]) (fun z _ _ => rfl) k5
  · show a = up A 5 a 5
    rw [up_eq rfl]
  · exact PO_cg (q := 0) (q2 := 0) (by simp (disch := omega) only [up_ne]) (by omega) W.2 (fun z z0 z1 _ => by simp (disch := omega) only [up_ne]) (fun z _ _ => rfl) k7
  · exact PY1_cg (q := 0) (q2 := 0) (by simp (disch := omega) only [up_ne]) (by omega) (fun o o0 o1 => by simp (disch := omega) only [up_ne]) (fun z _ _ => rfl) k8
  · exact PY2_cg (q := 0) (q2 := 0) (by simp (disch := omega) only [up_ne]) (by omega) (fun z z0 z1 => by simp (disch := omega) only [up_ne]) (fun z _ _ => ⟨rfl, rfl⟩) k9
  · exact PY3_cg (q := 0) (q2 := 0) (by simp (disch := omega) only [up_ne]) (by omega) (fun z z0 z1 => by simp (disch := omega) only [up_ne]) (fun z _ _ => ⟨rfl, rfl⟩) k10
theorem wf_by {a : Int} (W : WF A) (wy : WY A) (r : a = -1 ∨ 0 ≤ a ∧ a ≤ A 4 - 1) : WF (up A 5 a) ∧ WY (up A 5 a) := by
  have w0 := W.1.1
  unfold W0 at w0
  obtain ⟨⟨_, k1, k2, k3, k4, k5⟩, k6⟩ := W
  refine ⟨⟨⟨?_, ?_, ?_, ?_, ?_, ?_⟩, ?_⟩, ?_⟩
  · unfold W0
    simp (disch := omega) only [up_eq, up_ne]
    omega
  · exact VT_cg (by simp (disch := omega) only [up_ne]) (by omega) (fun z z0 z1 => by simp (disch := omega) only [up_ne]) k1
  · exact VK_cg (by simp (disch := omega) only [up_ne]) (by omega) (fun k c a b e f => by simp (disch := omega) only [up_ne]) k2
  · exact VB_cg (by simp (disch := omega) only [up_ne]) (by omega) (fun k c a b e f => by simp (disch := omega) only [up_ne]) k3
  · intro h h0 h1
    rw [show (up A 5 a) (170 + h) = A (170 + h) from by simp (disch := omega) only [up_ne]]
    exact k4 h h0 h1
  · exact VG_cg (by simp (disch := omega) only [up_ne]) (by omega) (fun z z0 z1 => by simp (disch := omega) only [up_ne]) k5
  · rw [show (up A 5 a) 3 = A 3 from by simp (disch := omega) only [up_ne]]
    exact VO_cg (by simp (disch := omega) only [up_eq, up_ne]; omega) (by simp (disch := omega) only [up_eq, up_ne]; omega) (fun o c a b e f => by simp (disch := omega) only [up_ne]) k6
  · intro o o0 o1
    rw [show (up A 5 a) 3 = A 3 from by simp (disch := omega) only [up_ne]] at o1
    rw [show (up A 5 a) (180 + (13 * o + 12)) = A (180 + (13 * o + 12)) from by simp (disch := omega) only [up_ne]]
    exact wy o o0 o1
theorem ic_drop {a : Int} (hI : IC 0 s A) (W : WF A) (r : 0 ≤ a ∧ a < A 3) : IC 0 (u s 56 (up (s 56) (a * 12 + 2) 0)) (up A (180 + (13 * a + 2)) 0) := by
  have w0 := W.1.1
  unfold W0 at w0
  obtain ⟨⟨⟨i1, i2, i3, i4, i5, i6⟩, k1, k2, k3, k4, k5⟩, k6, k7, k8, k9, k10⟩ := hI
  refine ⟨⟨⟨(by show s 49004 0 = _; rw [show (up A (180 + (13 * a + 2)) 0) 0 = A 0 from by simp (disch := omega) only [up_ne]]; exact i1), (by show s 51004 0 = _; rw [show (up A (180 + (13 * a + 2)) 0) 1 = A 1 from by simp (disch := omega) only [up_ne]]; exact i2), (by show s 53004 0 = _; rw [show (up A (180 + (13 * a + 2)) 0) 2 = A 2 from by simp (disch := omega) only [up_ne]]; exact i3), (by show s 55004 0 = _; rw [show (up A (180 + (13 * a + 2)) 0) 3 = A 3 from by simp (disch := omega) only [up_ne]]; exact i4), (by show s 57004 0 = _; rw [show (up A (180 + (13 * a + 2)) 0) 6 = A 6 from by simp (disch := omega) only [up_ne]]; exact i5), (by show s 48007 0 = _; rw [show (up A (180 + (13 * a + 2)) 0) 4 = A 4 from by simp (disch := omega) only [up_ne]]; exact i6)⟩, ?_, ?_, ?_, ?_, ?_⟩, ?_, ?_, ?_, ?_, ?_⟩
  · exact PT_cg (q := 0) (q2 := 0) (by simp (disch := omega) only [up_ne]) (fun z z0 z1 => by simp (disch := omega) only [up_ne]) (fun z _ _ => rfl) (by omega) k1
  · exact PK_cg (q := 0) (q2 := 0) (by simp (disch := omega) only [up_ne]) (fun z z0 z1 => by simp (disch := omega) only [up_ne]) (fun z _ _ => rfl) (by omega) k2
  · exact PB_cg (q := 0) (q2 := 0) (by simp (disch := omega) only [up_ne]) (fun z z0 z1 => by simp (disch := omega) only [up_ne]) (fun z _ _ => rfl) (by omega) k3
  · exact PG_cg (q := 0) (q2 := 0) (by simp (disch := omega) only [up_ne]) (fun z z0 z1 => by simp (disch := omega) only [up_ne]) (fun z _ _ => rfl) (by omega) k4
  · exact PH_cg (q := 0) (q2 := 0) (fun z z0 z1 => by simp (disch := omega) only [up_ne]) (fun z _ _ => rfl) k5
  · exact (by show s 48008 0 = _; rw [show (up A (180 + (13 * a + 2)) 0) 5 = A 5 from by simp (disch := omega) only [up_ne]]; exact k6)
  · intro t t0 t1
    rw [show (up A (180 + (13 * a + 2)) 0) 3 = A 3 from by simp (disch := omega) only [up_ne]] at t1
    have q := k7 t t0 t1
    have n := (W.2 t t0 t1).2.2.1
    have es : (u s 56 (up (s 56) (a * 12 + 2) 0)) (56 + 0) = up (s 56) (a * 12 + 2) 0 := rfl
    unfold cO cI
    rw [es]
    by_cases c : t = a
    · subst c
      simp (disch := omega) only [up_eq, up_ne]
      exact ⟨q.1, q.2.1, trivial, fun i i0 i1 => by omega⟩
    · obtain ⟨q1, q2, q3, q4⟩ := q
      refine ⟨?_, ?_, ?_, fun i i0 i1 => ?_⟩
      · simp (disch := omega) only [up_ne]
        exact q1
      · simp (disch := omega) only [up_ne]
        exact q2
      · simp (disch := omega) only [up_ne]
        exact q3
      · rw [show (up A (180 + (13 * a + 2)) 0) (180 + (13 * t + 2)) = A (180 + (13 * t + 2)) from by simp (disch := omega) only [up_ne]] at i1
        simp (disch := omega) only [up_ne]
        exact q4 i i0 i1
  · exact PY1_cg (q := 0) (q2 := 0) (by simp (disch := omega) only [up_ne]) (by omega) (fun o o0 o1 => by simp (disch := omega) only [up_ne]) (fun z _ _ => rfl) k8
  · exact PY2_cg (q := 0) (q2 := 0) (by simp (disch := omega) only [up_ne]) (by omega) (fun z z0 z1 => by simp (disch := omega) only [up_ne]) (fun z _ _ => ⟨rfl, rfl⟩) k9
  · exact PY3_cg (q := 0) (q2 := 0) (by simp (disch := omega) only [up_ne]) (by omega) (fun z z0 z1 => by simp (disch := omega) only [up_ne]) (fun z _ _ => ⟨rfl, rfl⟩) k10
theorem wf_drop {a : Int} (W : WF A) (wy : WY A) (r : 0 ≤ a ∧ a < A 3) : WF (up A (180 + (13 * a + 2)) 0) ∧ WY (up A (180 + (13 * a + 2)) 0) := by
  have w0 := W.1.1
  unfold W0 at w0
  obtain ⟨⟨_, k1, k2, k3, k4, k5⟩, k6⟩ := W
  refine ⟨⟨⟨?_, ?_, ?_, ?_, ?_, ?_⟩, ?_⟩, ?_⟩
  · unfold W0
    simp (disch := omega) only [up_eq, up_ne]
    omega
  · exact VT_cg (by simp (disch := omega) only [up_ne]) (by omega) (fun z z0 z1 => by simp (disch := omega) only [up_ne]) k1
  · exact VK_cg (by simp (disch := omega) only [up_ne]) (by omega) (fun k c a b e f => by simp (disch := omega) only [up_ne]) k2
  · exact VB_cg (by simp (disch := omega) only [up_ne]) (by omega) (fun k c a b e f => by simp (disch := omega) only [up_ne]) k3
  · intro h h0 h1
    rw [show (up A (180 + (13 * a + 2)) 0) (170 + h) = A (170 + h) from by simp (disch := omega) only [up_ne]]
    exact k4 h h0 h1
  · exact VG_cg (by simp (disch := omega) only [up_ne]) (by omega) (fun z z0 z1 => by simp (disch := omega) only [up_ne]) k5
  · rw [show (up A (180 + (13 * a + 2)) 0) 3 = A 3 from by simp (disch := omega) only [up_ne]]
    intro t t0 t1
    have q := k6 t t0 t1
    by_cases c : t = a
    · subst c
      unfold WO
      simp (disch := omega) only [up_eq, up_ne]
      exact ⟨q.1, q.2.1, by omega, fun i i0 i1 => by omega⟩
    · exact WO_cg (fun z hz => up_ne (by omega)) (fun x x0 x1 => up_ne (by omega)) q
  · intro o o0 o1
    rw [show (up A (180 + (13 * a + 2)) 0) 3 = A 3 from by simp (disch := omega) only [up_ne]] at o1
    rw [show (up A (180 + (13 * a + 2)) 0) (180 + (13 * o + 12)) = A (180 + (13 * o + 12)) from by simp (disch := omega) only [up_ne]]
    exact wy o o0 o1
end TL
