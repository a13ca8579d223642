/-! WHAT HOLDS AT THE BEGINNING (draft, not yet tried) -/
section BG
theorem sA0_e {z : Int} : sA0 z = if z = 5 then -1 else if 170 ≤ z ∧ z < 174 then 100 else 0 := by
  unfold sA0
  have e0 : s00 123 z = 0 := s00_z (by omega) (by omega) (by omega)
  by_cases c5 : z = 5
  · rw [up_ne (by omega), up_ne (by omega), up_ne (by omega), up_ne (by omega), up_eq c5, if_pos c5]
  · rw [if_neg c5]
    by_cases c : 170 ≤ z ∧ z < 174
    · rw [if_pos c]
      have e : z = 170 ∨ z = 171 ∨ z = 172 ∨ z = 173 := by omega
      rcases e with y | y | y | y <;> subst y <;> rfl
    · rw [if_neg c, up_ne (by omega), up_ne (by omega), up_ne (by omega), up_ne (by omega), up_ne (by omega), e0]
theorem wf_0 {A : Int → Int} (e : ∀ z, 0 ≤ z → z < 570 → A z = if z = 5 then -1 else if 170 ≤ z ∧ z < 174 then 100 else 0) : WF A ∧ WY A := by
  have g : ∀ z, 0 ≤ z → z < 5 → A z = 0 := fun z z0 z1 => by rw [e z z0 (by omega), if_neg (by omega), if_neg (by omega)]
  have g5 : A 5 = -1 := by rw [e 5 (by omega) (by omega)]; rfl
  have g6 : A 6 = 0 := by rw [e 6 (by omega) (by omega)]; rfl
  have g0 := g 0 (by omega) (by omega)
  have g1 := g 1 (by omega) (by omega)
  have g2 := g 2 (by omega) (by omega)
  have g3 := g 3 (by omega) (by omega)
  have g4 := g 4 (by omega) (by omega)
  refine ⟨⟨⟨?_, fun t t0 t1 => ?_, fun t t0 t1 => ?_, fun t t0 t1 => ?_, fun h h0 h1 => ?_, fun t t0 t1 => ?_⟩, fun t t0 t1 => ?_⟩, fun t t0 t1 => ?_⟩
  · unfold W0
    omega
  · omega
  · omega
  · omega
  · rw [e _ (by omega) (by omega), if_neg (by omega), if_pos (by omega)]
    omega
  · omega
  · omega
  · omega
theorem ic_0 {q : Nat} {s : sg} {A : Int → Int} (e : ∀ z, 0 ≤ z → z < 570 → A z = if z = 5 then -1 else if 170 ≤ z ∧ z < 174 then 100 else 0) (n : s (49004 + 1000 * q) 0 = 0 ∧ s (51004 + 1000 * q) 0 = 0 ∧ s (53004 + 1000 * q) 0 = 0 ∧ s (55004 + 1000 * q) 0 = 0 ∧ s (57004 + 1000 * q) 0 = 0 ∧ s (48007 + 1000 * q) 0 = 0) (n8 : s (48008 + 1000 * q) 0 = -1) (n9 : ∀ h, 0 ≤ h → h < 4 → s (59 + q) h = 100) (y : (∀ z, s (61 + q) z = 0) ∧ (∀ z, s (62 + q) z = 0) ∧ (∀ z, s (63 + q) z = 0) ∧ (∀ z, s (64 + q) z = 0) ∧ ∀ z, s (65 + q) z = 0) : IC q s A := by
  have g : ∀ z, 0 ≤ z → z < 5 → A z = 0 := fun z z0 z1 => by rw [e z z0 (by omega), if_neg (by omega), if_neg (by omega)]
  have g5 : A 5 = -1 := by rw [e 5 (by omega) (by omega)]; rfl
  have g6 : A 6 = 0 := by rw [e 6 (by omega) (by omega)]; rfl
  have g0 := g 0 (by omega) (by omega)
  have g1 := g 1 (by omega) (by omega)
  have g2 := g 2 (by omega) (by omega)
  have g3 := g 3 (by omega) (by omega)
  have g4 := g 4 (by omega) (by omega)
  obtain ⟨a1, a2, a3, a4, a5, a6⟩ := n
  refine ⟨⟨⟨a1.trans g0.symm, a2.trans g1.symm, a3.trans g2.symm, a4.trans g3.symm, a5.trans g6.symm, a6.trans g4.symm⟩, fun t t0 t1 => ?_, fun t t0 t1 => ?_, fun t t0 t1 => ?_, fun t t0 t1 => ?_, fun h h0 h1 => ?_⟩, n8.trans g5.symm, fun t t0 t1 => ?_, fun o _ _ => ?_, fun k _ _ => ?_, fun b _ _ => ?_⟩
  · omega
  · omega
  · omega
  · omega
  · rw [n9 h h0 h1, e _ (by omega) (by omega), if_neg (by omega), if_pos (by omega)]
  · omega
  · rw [y.1, if_neg (by omega)]
  · rw [y.2.1, y.2.2.1, if_neg (by omega), if_neg (by omega)]
    exact ⟨rfl, rfl⟩
  · rw [y.2.2.2.1, y.2.2.2.2, if_neg (by omega), if_neg (by omega)]
    exact ⟨rfl, rfl⟩
theorem GI_0 : GI s0F := by
  have e : ∀ z, 0 ≤ z → z < 570 → sA0 z = if z = 5 then -1 else if 170 ≤ z ∧ z < 174 then 100 else 0 := fun z _ _ => sA0_e
  have e2 : ∀ z, 0 ≤ z → z < 570 → cpF sA0 (s00 124) 570 z = if z = 5 then -1 else if 170 ≤ z ∧ z < 174 then 100 else 0 := fun z z0 z1 => by rw [cpF_i z0 z1]; exact sA0_e
  have w1 := wf_0 e
  have w2 := wf_0 e2
  have f4 : sA0 4 = 0 := by rw [sA0_e]; rfl
  refine ⟨sA0, cpF sA0 (s00 124) 570, fun _ => [], rfl, rfl, w1.1, w2.1, w1.2, w2.2, ?_, ?_, ?_, ⟨?_, fun t t0 t1 => by omega⟩, ⟨rfl, ⟨Int.le_refl 0, ?_⟩, fun i i0 i1 => ?_⟩, Or.inl ⟨rfl, rfl, rfl⟩⟩
  · exact ic_0 (q := 0) e ⟨rfl, rfl, rfl, rfl, rfl, rfl⟩ rfl (fun h h0 h1 => by
      have y : h = 0 ∨ h = 1 ∨ h = 2 ∨ h = 3 := by omega
      rcases y with y | y | y | y <;> subst y <;> rfl) ⟨fun _ => rfl, fun _ => rfl, fun _ => rfl, fun _ => rfl, fun _ => rfl⟩
  · exact ic_0 (q := 18) e2 ⟨rfl, rfl, rfl, rfl, rfl, rfl⟩ rfl (fun h h0 h1 => by
      have y : h = 0 ∨ h = 1 ∨ h = 2 ∨ h = 3 := by omega
      rcases y with y | y | y | y <;> subst y <;> rfl) ⟨fun _ => rfl, fun _ => rfl, fun _ => rfl, fun _ => rfl, fun _ => rfl⟩
  · rw [cpF_i (by omega) (by omega)]
    exact Int.le_refl _
  · exact rfl
  · show (0 : Int) ≤ 300
    omega
  · have i1 : i < 0 := i1
    omega
end BG
