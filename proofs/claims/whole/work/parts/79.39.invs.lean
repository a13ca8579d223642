/-! WHAT HOLDS BETWEEN TWO CALLS, after each kind of call on both sides -/
def GI (s : sg) : Prop := ∃ A I L, Inv s A I L
/-- the class's method, then the reference's: one answer, and all holds again -/
def Pair (X : hX) (D y1 : Nat) (a1 : List Value) (y2 : Nat) (a2 : List Value) (s : sg) : Prop := ∀ Q1 : Option Value → aH → Prop, (∀ (v : Int32) (s1 : sg), (∀ Q2 : Option Value → aH → Prop, (∀ s2, GI s2 → Q2 (some (.int v)) (hp X s2)) → Wp D y2 0 a2 [] (hp X s1) Q2) → Q1 (some (.int v)) (hp X s1)) → Wp D y1 0 a1 [] (hp X s) Q1
def MKs : List Nat := [122047, 122051, 123, 139, 140, 141, 142, 143, 144, 145, 146, 147, 148, 149, 150, 151, 152, 153, 154, 155]
def LKF : List Nat := [8, 9, 10, 6004, 6005, 48007, 16000, 16001, 16002, 16005, 16006, 16900, 12, 13, 14, 15, 19, 20, 21, 22, 24, 25, 26, 27, 29, 30, 31, 32, 34, 35, 36, 37, 39, 40, 41, 42, 44, 45, 46, 47, 11004, 11005, 18004, 18005, 23004, 23005, 28004, 28005, 33004, 33005, 38004, 38005, 43004, 43005]
def TXK : List Nat := LKF ++ MLT
section IV
variable {s s1 s2 : sg} {A B I : Int → Int} {K : List Nat} {L : Int → lawT} {l : lawT} {R : yr} {t : Int} {k k2 : Nat}
theorem Inv_law (h : Inv s A I L) : lawOK (Lw L (A 5)) ∧ lC s (lq (A 5)) 0 (Lw L (A 5)) ∧ curM s (Lw L (A 5)) := by
  obtain ⟨hA, _, W, _, _, _, _, _, _, hL, _, _⟩ := h
  have w0 := W.1.1
  unfold W0 at w0
  have q := LI_at hL (by omega) (t := A 5) (by omega)
  exact ⟨q.1, q.2.1, q.2.2 (by rw [hA])⟩
theorem Inv_told (h : Inv s A I L) (f : Fr K s s1) (wK : ninA [67004, 69004, 71004, 73004, 75004, 66007, 66008, 68, 70, 72, 74, 76, 77, 79, 80, 81, 82, 83] K = true) (wL : ninL K = true) (w2 : (nin 126 K && nin 127 K && nin 128 K && nin 129 K && nin 130 K) = true) (w3 : ninA [124, 6004, 122003, 7, 125, 16000, 16001, 16002, 122004, 122005] K = true) (i2 : IC 0 s1 B) (wf : WF B ∧ WY B) (e4 : B 4 = A 4) (f2 : Fr MKs s1 s2) (e : s2 123 = B) : Inv s2 B I L := by
  have q := Inv_tell h f wK wL w2 w3 i2 wf e4
  have f3 : Fr MKs (u s1 123 B) s2 := fun a ha => (f2 a ha).trans (u_ne (fun q => by rw [q] at ha; cases ha)).symm
  have r := Inv_ask q f3 rfl rfl (fun z _ => congrFun (f3 56 rfl) z) (fun z _ => congrFun e z)
  rw [e] at r
  exact r
theorem ic_year (W : WF A) (hI : IC0 0 s1 A) (h8 : s1 48008 0 = A 5) (hO : ∀ o, 0 ≤ o → o < A 3 → cO 0 s1 A o) (rc : RC 60 s1 R) (yw : yW A B R) (yb : YB A (A 3) (A 2) R) : IC 0 s1 B := by
  obtain ⟨y1, y2, y3, ch⟩ := yw
  obtain ⟨r1, r2, r3⟩ := rc
  obtain ⟨_, b2, _, b4, _, b6⟩ := yb
  have w0 := W.1.1
  unfold W0 at w0
  obtain ⟨c0, c1, c2, c3, c4, c5⟩ := hI
  have e0 : B 0 = A 0 := ch 0 (fun o _ _ => by omega) (fun k _ _ => by omega) (fun b _ _ => by omega)
  have e1 : B 1 = A 1 := ch 1 (fun o _ _ => by omega) (fun k _ _ => by omega) (fun b _ _ => by omega)
  have e2 : B 2 = A 2 := ch 2 (fun o _ _ => by omega) (fun k _ _ => by omega) (fun b _ _ => by omega)
  have e3 : B 3 = A 3 := ch 3 (fun o _ _ => by omega) (fun k _ _ => by omega) (fun b _ _ => by omega)
  have e4 : B 4 = A 4 := ch 4 (fun o _ _ => by omega) (fun k _ _ => by omega) (fun b _ _ => by omega)
  have e5 : B 5 = A 5 := ch 5 (fun o _ _ => by omega) (fun k _ _ => by omega) (fun b _ _ => by omega)
  have e6 : B 6 = A 6 := ch 6 (fun o _ _ => by omega) (fun k _ _ => by omega) (fun b _ _ => by omega)
  refine ⟨⟨⟨c0.1.trans e0.symm, c0.2.1.trans e1.symm, c0.2.2.1.trans e2.symm, c0.2.2.2.1.trans e3.symm, c0.2.2.2.2.1.trans e6.symm, c0.2.2.2.2.2.trans e4.symm⟩, ?_, ?_, ?_, ?_, ?_⟩, h8.trans e5.symm, ?_, ?_⟩
  · exact PT_cg (q := 0) (q2 := 0) e0 (fun z _ _ => ch z (fun o _ _ => by omega) (fun k _ _ => by omega) (fun b _ _ => by omega)) (fun z _ _ => rfl) (by omega) c1
  · intro t t0 t1
    rw [e1] at t1
    have q := c2 t t0 t1
    unfold cK at q ⊢
    rw [ch _ (fun o _ _ => by omega) (fun k _ _ => by omega) (fun b _ _ => by omega), ch _ (fun o _ _ => by omega) (fun k _ _ => by omega) (fun b _ _ => by omega), ch _ (fun o _ _ => by omega) (fun k _ _ => by omega) (fun b _ _ => by omega)]
    exact q
  · intro t t0 t1
    rw [e2] at t1
    have q := c3 t t0 t1
    unfold cB at q ⊢
    rw [ch _ (fun o _ _ => by omega) (fun k _ _ => by omega) (fun b _ _ => by omega), ch _ (fun o _ _ => by omega) (fun k _ _ => by omega) (fun b _ _ => by omega), ch _ (fun o _ _ => by omega) (fun k _ _ => by omega) (fun b _ _ => by omega), ch _ (fun o _ _ => by omega) (fun k _ _ => by omega) (fun b _ _ => by omega)]
    exact q
  · exact PG_cg (q := 0) (q2 := 0) e6 (fun z _ _ => ch z (fun o _ _ => by omega) (fun k _ _ => by omega) (fun b _ _ => by omega)) (fun z _ _ => rfl) (by omega) c4
  · exact PH_cg (q := 0) (q2 := 0) (fun z _ _ => ch z (fun o _ _ => by omega) (fun k _ _ => by omega) (fun b _ _ => by omega)) (fun z _ _ => rfl) c5
  · exact PO_cg (q := 0) (q2 := 0) e3 (by omega) W.2 (fun z _ _ hz => ch z (fun o _ _ => hz o) (fun k _ _ => by omega) (fun b _ _ => by omega)) (fun z _ _ => rfl) hO
  · refine ⟨fun o o0 o1 => ?_, fun k k0 k1 => ?_, fun b b0 b1 => ?_⟩
    · show s1 61 o = _
      rw [r2 o o0 o1, e3]
      by_cases c : o < A 3
      · rw [if_pos c, y1 o o0 c]
      · rw [if_neg c, b4 o (by omega)]
    · show s1 62 k = _ ∧ s1 63 k = _
      rw [(r1 k k0 k1).1, (r1 k k0 k1).2, e1]
      by_cases c : k < A 1
      · rw [if_pos c, if_pos c, (y2 k k0 c).1, (y2 k k0 c).2]
        exact ⟨rfl, rfl⟩
      · rw [if_neg c, if_neg c, (b2 k (by omega)).1, (b2 k (by omega)).2]
        exact ⟨rfl, rfl⟩
    · show s1 64 b = _ ∧ s1 65 b = _
      rw [(r3 b b0 b1).1, (r3 b b0 b1).2, e2]
      by_cases c : b < A 2
      · rw [if_pos c, if_pos c, (y3 b b0 c).1, (y3 b b0 c).2]
        exact ⟨rfl, rfl⟩
      · rw [if_neg c, if_neg c, (b6 b (by omega)).1, (b6 b (by omega)).2]
        exact ⟨rfl, rfl⟩
theorem wf_year (W : WF A) (yw : yW A B R) (yb : YB A (A 3) (A 2) R) : WF B ∧ WY B := by
  obtain ⟨y1, y2, y3, ch⟩ := yw
  obtain ⟨_, b2, b3, b4, _, b6⟩ := yb
  have w0 := W.1.1
  unfold W0 at w0
  have e0 : B 0 = A 0 := ch 0 (fun o _ _ => by omega) (fun k _ _ => by omega) (fun b _ _ => by omega)
  have e1 : B 1 = A 1 := ch 1 (fun o _ _ => by omega) (fun k _ _ => by omega) (fun b _ _ => by omega)
  have e2 : B 2 = A 2 := ch 2 (fun o _ _ => by omega) (fun k _ _ => by omega) (fun b _ _ => by omega)
  have e3 : B 3 = A 3 := ch 3 (fun o _ _ => by omega) (fun k _ _ => by omega) (fun b _ _ => by omega)
  have e4 : B 4 = A 4 := ch 4 (fun o _ _ => by omega) (fun k _ _ => by omega) (fun b _ _ => by omega)
  have e5 : B 5 = A 5 := ch 5 (fun o _ _ => by omega) (fun k _ _ => by omega) (fun b _ _ => by omega)
  have e6 : B 6 = A 6 := ch 6 (fun o _ _ => by omega) (fun k _ _ => by omega) (fun b _ _ => by omega)
  refine ⟨⟨⟨?_, ?_, ?_, ?_, ?_, ?_⟩, ?_⟩, ?_⟩
  · unfold W0
    rw [e0, e1, e2, e3, e4, e5, e6]
    exact w0
  · exact VT_cg e0 (by omega) (fun z _ _ => ch z (fun o _ _ => by omega) (fun k _ _ => by omega) (fun b _ _ => by omega)) W.1.2.1
  · exact VK_cg e1 (by omega) (fun k c _ _ _ _ => ch _ (fun o _ _ => by omega) (fun k _ _ => by omega) (fun b _ _ => by omega)) W.1.2.2.1
  · exact VB_cg e2 (by omega) (fun k c _ _ _ _ => ch _ (fun o _ _ => by omega) (fun k _ _ => by omega) (fun b _ _ => by omega)) W.1.2.2.2.1
  · intro h h0 h1
    rw [ch _ (fun o _ _ => by omega) (fun k _ _ => by omega) (fun b _ _ => by omega)]
    exact W.1.2.2.2.2.1 h h0 h1
  · exact VG_cg e6 (by omega) (fun z _ _ => ch z (fun o _ _ => by omega) (fun k _ _ => by omega) (fun b _ _ => by omega)) W.1.2.2.2.2.2
  · rw [e3]
    exact VO_cg (by omega) (by omega) (fun o c _ _ _ _ => ch _ (fun o _ _ => by omega) (fun k _ _ => by omega) (fun b _ _ => by omega)) W.2
  · intro o o0 o1
    rw [e3] at o1
    have := b3 o o0 o1
    rw [y1 o o0 o1]
    omega
theorem ic_rounds (W : WF A) (hI : IC0 0 s1 A) (h8 : s1 48008 0 = A 5) (hY : cY 0 s1 A) (hO : ∀ p, 0 ≤ p → p < A 3 → cO 0 s1 B p) (g : GA A B) : IC 0 s1 B := by
  have w0 := W.1.1
  unfold W0 at w0
  have z0 : Eq0 A B := fun z hz => g.2.2 z (fun o i _ _ _ _ => by omega)
  have e3 : B 3 = A 3 := z0 3 (by omega)
  obtain ⟨k4, k5, k6⟩ := hY
  refine ⟨IC0_cgA W.1.1 z0 hI, h8.trans (z0 5 (by omega)).symm, fun o o0 o1 => hO o o0 (by omega), ?_, ?_, ?_⟩
  · exact PY1_cg (q := 0) (q2 := 0) e3 (by omega) (fun o o0 o1 => g.2.2 _ (fun o i _ _ _ _ => by omega)) (fun z _ _ => rfl) k4
  · exact PY2_cg (q := 0) (q2 := 0) (z0 1 (by omega)) (by omega) (fun z _ _ => z0 z (by omega)) (fun z _ _ => ⟨rfl, rfl⟩) k5
  · exact PY3_cg (q := 0) (q2 := 0) (z0 2 (by omega)) (by omega) (fun z _ _ => z0 z (by omega)) (fun z _ _ => ⟨rfl, rfl⟩) k6
theorem wf_rounds (W : WF A) (wy : WY A) (g : GA A B) : (WF B ∧ WY B) ∧ B 4 = A 4 := by
  have w0 := W.1.1
  unfold W0 at w0
  have e3 : B 3 = A 3 := g.2.2 3 (fun o i _ _ _ _ => by omega)
  refine ⟨⟨⟨g.1, fun o o0 o1 => g.2.1 o o0 (by omega)⟩, fun o o0 o1 => ?_⟩, g.2.2 4 (fun o i _ _ _ _ => by omega)⟩
  rw [g.2.2 _ (fun o i _ _ _ _ => by omega)]
  exact wy o o0 (by omega)
theorem FX_fr (hk : isLw k) (h : FX k KF s s2) : Fr LKF s s2 := by
  intro a ha
  have n : ∀ e, nin e LKF = false → ¬ a = e := fun e he q => by rw [q, he] at ha; cases ha
  refine h a (nin_sub (L := KF) rfl a ha) (fun q => ?_) (fun q => ?_) (fun q => ?_)
  · have e : a = k + 1 ∨ a = k + 2 ∨ a = k + 3 ∨ a = k + 4 := by omega
    rcases hk with y | y | y | y | y | y | y <;> subst y <;> rcases e with z | z | z | z <;> exact n _ rfl z
  · rcases hk with y | y | y | y | y | y | y <;> subst y <;> exact n _ rfl q
  · rcases hk with y | y | y | y | y | y | y <;> subst y <;> exact n _ rfl q
theorem lC_fx (hk : isLw k) (hk2 : isLw k2) (ne : ¬ k2 = k) (h : FX k KF s s2) (c : lC s k2 0 l) : lC s2 k2 0 l := by
  refine lC_cg ?_ c
  unfold isLw at hk
  rcases hk2 with y | y | y | y | y | y | y <;> subst y <;> exact ⟨h _ rfl (by omega) (by omega) (by omega), h _ rfl (by omega) (by omega) (by omega), h _ rfl (by omega) (by omega) (by omega), h _ rfl (by omega) (by omega) (by omega), h _ rfl (by omega) (by omega) (by omega)⟩
theorem lq_ne {t t2 : Int} (h : 0 ≤ t ∧ t < 6) (h2 : 0 ≤ t2 ∧ t2 < 6) (n : ¬ t2 = t) : ¬ lq t2 = lq t := by
  unfold lq
  rw [if_pos h, if_pos h2]
  omega
theorem lq_11 {t : Int} (h : 0 ≤ t ∧ t < 6) : ¬ 11 = lq t := by
  unfold lq
  rw [if_pos h]
  omega
theorem ic_text (W : WF A) (hI : IC 0 s A) (F : Fr TXK s s2) (e : ∀ z, ¬ z = 4 → B z = A z) (e7 : s2 48007 0 = B 4) : IC 0 s2 B := by
  have w0 := W.1.1
  unfold W0 at w0
  obtain ⟨⟨c0, c1, c2, c3, c4, c5⟩, h8, hO, y1, y2, y3⟩ := hI
  refine ⟨⟨⟨((congrFun (F.g 49004 rfl) 0).trans c0.1).trans (e 0 (by omega)).symm, ((congrFun (F.g 51004 rfl) 0).trans c0.2.1).trans (e 1 (by omega)).symm, ((congrFun (F.g 53004 rfl) 0).trans c0.2.2.1).trans (e 2 (by omega)).symm, ((congrFun (F.g 55004 rfl) 0).trans c0.2.2.2.1).trans (e 3 (by omega)).symm, ((congrFun (F.g 57004 rfl) 0).trans c0.2.2.2.2.1).trans (e 6 (by omega)).symm, e7⟩, ?_, ?_, ?_, ?_, ?_⟩, ((congrFun (F.g 48008 rfl) 0).trans h8).trans (e 5 (by omega)).symm, ?_, ?_, ?_, ?_⟩
  · exact PT_cg (q := 0) (q2 := 0) (e 0 (by omega)) (fun z _ _ => e z (by omega)) (fun z _ _ => congrFun (F.g 50 rfl) z) (by omega) c1
  · exact PK_cg (q := 0) (q2 := 0) (e 1 (by omega)) (fun z _ _ => e z (by omega)) (fun z _ _ => congrFun (F.g 52 rfl) z) (by omega) c2
  · exact PB_cg (q := 0) (q2 := 0) (e 2 (by omega)) (fun z _ _ => e z (by omega)) (fun z _ _ => congrFun (F.g 54 rfl) z) (by omega) c3
  · exact PG_cg (q := 0) (q2 := 0) (e 6 (by omega)) (fun z _ _ => e z (by omega)) (fun z _ _ => congrFun (F.g 58 rfl) z) (by omega) c4
  · exact PH_cg (q := 0) (q2 := 0) (fun z _ _ => e z (by omega)) (fun z _ _ => congrFun (F.g 59 rfl) z) c5
  · exact PO_cg (q := 0) (q2 := 0) (e 3 (by omega)) (by omega) W.2 (fun z _ _ _ => e z (by omega)) (fun z _ _ => congrFun (F.g 56 rfl) z) hO
  · exact PY1_cg (q := 0) (q2 := 0) (e 3 (by omega)) (by omega) (fun o _ _ => e _ (by omega)) (fun z _ _ => congrFun (F.g 61 rfl) z) y1
  · exact PY2_cg (q := 0) (q2 := 0) (e 1 (by omega)) (by omega) (fun z _ _ => e z (by omega)) (fun z _ _ => ⟨congrFun (F.g 62 rfl) z, congrFun (F.g 63 rfl) z⟩) y2
  · exact PY3_cg (q := 0) (q2 := 0) (e 2 (by omega)) (by omega) (fun z _ _ => e z (by omega)) (fun z _ _ => ⟨congrFun (F.g 64 rfl) z, congrFun (F.g 65 rfl) z⟩) y3
theorem wf_text (W : WF A) (wy : WY A) (e : ∀ z, ¬ z = 4 → B z = A z) (h4 : A 4 ≤ B 4 ∧ B 4 ≤ 6) : WF B ∧ WY B := by
  have w0 := W.1.1
  unfold W0 at w0
  have e3 : B 3 = A 3 := e 3 (by omega)
  refine ⟨⟨⟨?_, ?_, ?_, ?_, ?_, ?_⟩, ?_⟩, ?_⟩
  · unfold W0
    rw [e 0 (by omega), e 1 (by omega), e 2 (by omega), e 3 (by omega), e 5 (by omega), e 6 (by omega)]
    omega
  · exact VT_cg (e 0 (by omega)) (by omega) (fun z _ _ => e z (by omega)) W.1.2.1
  · exact VK_cg (e 1 (by omega)) (by omega) (fun k c _ _ _ _ => e _ (by omega)) W.1.2.2.1
  · exact VB_cg (e 2 (by omega)) (by omega) (fun k c _ _ _ _ => e _ (by omega)) W.1.2.2.2.1
  · intro h h0 h1
    rw [e _ (by omega)]
    exact W.1.2.2.2.2.1 h h0 h1
  · exact VG_cg (e 6 (by omega)) (by omega) (fun z _ _ => e z (by omega)) W.1.2.2.2.2.2
  · rw [e3]
    exact VO_cg (by rw [e 0 (by omega)]; omega) (by rw [e 1 (by omega)]; omega) (fun o c _ _ _ _ => e _ (by omega)) W.2
  · intro o o0 o1
    rw [e3] at o1
    rw [e _ (by omega)]
    exact wy o o0 o1
/-- after a text, refused or not -/
theorem Inv_text {L2 : Int → lawT} (h : Inv s A I L) (ht : A 4 = t ∧ t < 6) (f1 : FX (lq t) KF s s1) (f2 : Fr MLT s1 s2) (e : s2 123 = B) (eB : ∀ z, ¬ z = 4 → B z = A z) (hB : t ≤ B 4 ∧ B 4 ≤ 6) (tp : s2 6004 0 = 0 ∧ s2 122003 0 = 0) (e7 : s2 48007 0 = B 4) (hF : Fl s2) (hL2 : lC s2 11 0 [] → (∀ t2, 0 ≤ t2 → t2 < t → lawOK (L t2) ∧ lC s2 (lq t2) 0 (L t2) ∧ lM s1 t2 0 (L t2)) → LI s2 (B 4) L2) : Inv s2 B I L2 := by
  have F1 := FX_fr (lq_L t) f1
  have F : Fr TXK s s2 := (F1.up rfl).tr (f2.up rfl)
  obtain ⟨hA, hI2, W, WI, wy, wyi, hI, hK, h4, hL, hT, _⟩ := h
  have w0 := W.1.1
  unfold W0 at w0
  have tt : 0 ≤ t ∧ t < 6 := by omega
  have wf := wf_text W wy eB (by omega)
  refine ⟨e, (F.g 124 rfl).trans hI2, wf.1, WI, wf.2, wyi, ic_text W hI F eB e7, IC18_fr F rfl hK, by omega, ?_, ⟨by rw [tp.1, tp.2], by rw [tp.1]; omega, fun i i0 i1 => by rw [tp.1] at i1; omega⟩, hF⟩
  rw [ht.1] at hL
  refine hL2 ?_ fun t2 q0 q1 => ?_
  · exact lC_fr f2 rfl (Or.inl rfl) (lC_fx (lq_L t) (Or.inl rfl) (lq_11 tt) f1 hL.1)
  · obtain ⟨a1, a2, a3⟩ := hL.2 t2 q0 q1
    exact ⟨a1, lC_fr f2 rfl (lq_L t2) (lC_fx (lq_L t) (lq_L t2) (lq_ne tt ⟨q0, by omega⟩ (by omega)) f1 a2), lM_cg ⟨F1.g 126 rfl, F1.g 127 rfl, F1.g 128 rfl, F1.g 129 rfl, F1.g 130 rfl⟩ a3⟩
end IV
