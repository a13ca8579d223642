/-! WHAT HOLDS BETWEEN TWO CALLS; which parts of it depend on what -/
section CGP
variable {s s2 : sg} {q q2 : Nat} {A B : Int → Int} {K : List Nat} {n : Int} {L : Int → lawT}
theorem PT_cg (e0 : B 0 = A 0) (e : ∀ z, 10 ≤ z → z < 50 → B z = A z) (es : ∀ z, 0 ≤ z → z < 40 → s2 (50 + q2) z = s (50 + q) z) (w : A 0 ≤ 10) (k : ∀ t, 0 ≤ t → t < A 0 → cT q s A t) : ∀ t, 0 ≤ t → t < B 0 → cT q2 s2 B t := by
  intro t t0 t1
  rw [e0] at t1
  unfold cT
  rw [e _ (by omega) (by omega), e _ (by omega) (by omega), e _ (by omega) (by omega), e _ (by omega) (by omega), es _ (by omega) (by omega), es _ (by omega) (by omega), es _ (by omega) (by omega), es _ (by omega) (by omega)]
  exact k t t0 t1
theorem PK_cg (e0 : B 1 = A 1) (e : ∀ z, 60 ≤ z → z < 90 → B z = A z) (es : ∀ z, 0 ≤ z → z < 24 → s2 (52 + q2) z = s (52 + q) z) (w : A 1 ≤ 6) (k : ∀ t, 0 ≤ t → t < A 1 → cK q s A t) : ∀ t, 0 ≤ t → t < B 1 → cK q2 s2 B t := by
  intro t t0 t1
  rw [e0] at t1
  unfold cK
  rw [e _ (by omega) (by omega), e _ (by omega) (by omega), e _ (by omega) (by omega), es _ (by omega) (by omega), es _ (by omega) (by omega), es _ (by omega) (by omega)]
  exact k t t0 t1
theorem PB_cg (e0 : B 2 = A 2) (e : ∀ z, 100 ≤ z → z < 160 → B z = A z) (es : ∀ z, 0 ≤ z → z < 40 → s2 (54 + q2) z = s (54 + q) z) (w : A 2 ≤ 10) (k : ∀ t, 0 ≤ t → t < A 2 → cB q s A t) : ∀ t, 0 ≤ t → t < B 2 → cB q2 s2 B t := by
  intro t t0 t1
  rw [e0] at t1
  unfold cB
  rw [e _ (by omega) (by omega), e _ (by omega) (by omega), e _ (by omega) (by omega), e _ (by omega) (by omega), es _ (by omega) (by omega), es _ (by omega) (by omega), es _ (by omega) (by omega), es _ (by omega) (by omega)]
  exact k t t0 t1
theorem PG_cg (e0 : B 6 = A 6) (e : ∀ z, 480 ≤ z → z < 570 → B z = A z) (es : ∀ z, 0 ≤ z → z < 120 → s2 (58 + q2) z = s (58 + q) z) (w : A 6 ≤ 30) (k : ∀ t, 0 ≤ t → t < A 6 → cG q s A t) : ∀ t, 0 ≤ t → t < B 6 → cG q2 s2 B t := by
  intro t t0 t1
  rw [e0] at t1
  unfold cG
  rw [e _ (by omega) (by omega), e _ (by omega) (by omega), e _ (by omega) (by omega), es _ (by omega) (by omega), es _ (by omega) (by omega), es _ (by omega) (by omega)]
  exact k t t0 t1
theorem PH_cg (e : ∀ z, 170 ≤ z → z < 174 → B z = A z) (es : ∀ z, 0 ≤ z → z < 4 → s2 (59 + q2) z = s (59 + q) z) (k : ∀ h, 0 ≤ h → h < 4 → s (59 + q) h = A (170 + h)) : ∀ h, 0 ≤ h → h < 4 → s2 (59 + q2) h = B (170 + h) := by
  intro t t0 t1
  rw [e _ (by omega) (by omega), es _ (by omega) (by omega)]
  exact k t t0 t1
theorem PO_cg (e0 : B 3 = A 3) (w : A 3 ≤ 20) (wo : ∀ o, 0 ≤ o → o < A 3 → WO A o) (e : ∀ z, 180 ≤ z → z < 180 + 13 * A 3 → (∀ o, ¬ z = (180 + (13 * o + 12))) → B z = A z) (es : ∀ z, 0 ≤ z → z < A 3 * 12 → s2 (56 + q2) z = s (56 + q) z) (k : ∀ t, 0 ≤ t → t < A 3 → cO q s A t) : ∀ t, 0 ≤ t → t < B 3 → cO q2 s2 B t := by
  intro t t0 t1
  rw [e0] at t1
  have n := (wo t t0 t1).2.2.1
  obtain ⟨k1, k2, k3, k4⟩ := k t t0 t1
  unfold cO
  rw [e _ (by omega) (by omega) (fun o => by omega), e _ (by omega) (by omega) (fun o => by omega), e _ (by omega) (by omega) (fun o => by omega), es _ (by omega) (by omega), es _ (by omega) (by omega), es _ (by omega) (by omega)]
  refine ⟨k1, k2, k3, fun i i0 i1 => ?_⟩
  unfold cI
  rw [e _ (by omega) (by omega) (fun o => by omega), e _ (by omega) (by omega) (fun o => by omega), e _ (by omega) (by omega) (fun o => by omega), es _ (by omega) (by omega), es _ (by omega) (by omega), es _ (by omega) (by omega)]
  exact k4 i i0 i1
/-- the three parts of the latest year -/
def cY1 (q : Nat) (s : sg) (A : Int → Int) : Prop := ∀ o, 0 ≤ o → o < 22 → s (61 + q) o = if o < A 3 then A (180 + (13 * o + 12)) else 0
def cY2 (q : Nat) (s : sg) (A : Int → Int) : Prop := ∀ k, 0 ≤ k → k < 6 → s (62 + q) k = (if k < A 1 then A (60 + (5 * k + 3)) else 0) ∧ s (63 + q) k = if k < A 1 then A (60 + (5 * k + 4)) else 0
def cY3 (q : Nat) (s : sg) (A : Int → Int) : Prop := ∀ b, 0 ≤ b → b < 10 → s (64 + q) b = (if b < A 2 then A (100 + (6 * b + 4)) else 0) ∧ s (65 + q) b = if b < A 2 then A (100 + (6 * b + 5)) else 0
theorem PY1_cg (e0 : B 3 = A 3) (w : A 3 ≤ 20) (e : ∀ o, 0 ≤ o → o < A 3 → B (180 + (13 * o + 12)) = A (180 + (13 * o + 12))) (es : ∀ z, 0 ≤ z → z < 22 → s2 (61 + q2) z = s (61 + q) z) (k : cY1 q s A) : cY1 q2 s2 B := by
  intro o o0 o1
  rw [es o o0 o1, k o o0 o1, e0]
  by_cases c : o < A 3
  · rw [if_pos c, if_pos c, e o o0 c]
  · rw [if_neg c, if_neg c]
theorem PY2_cg (e0 : B 1 = A 1) (w : A 1 ≤ 6) (e : ∀ z, 60 ≤ z → z < 90 → B z = A z) (es : ∀ z, 0 ≤ z → z < 6 → s2 (62 + q2) z = s (62 + q) z ∧ s2 (63 + q2) z = s (63 + q) z) (k : cY2 q s A) : cY2 q2 s2 B := by
  intro o o0 o1
  rw [(es o o0 o1).1, (es o o0 o1).2, (k o o0 o1).1, (k o o0 o1).2, e0]
  by_cases c : o < A 1
  · rw [if_pos c, if_pos c, if_pos c, if_pos c, e _ (by omega) (by omega), e _ (by omega) (by omega)]
    exact ⟨rfl, rfl⟩
  · rw [if_neg c, if_neg c, if_neg c, if_neg c]
    exact ⟨rfl, rfl⟩
theorem PY3_cg (e0 : B 2 = A 2) (w : A 2 ≤ 10) (e : ∀ z, 100 ≤ z → z < 160 → B z = A z) (es : ∀ z, 0 ≤ z → z < 10 → s2 (64 + q2) z = s (64 + q) z ∧ s2 (65 + q2) z = s (65 + q) z) (k : cY3 q s A) : cY3 q2 s2 B := by
  intro o o0 o1
  rw [(es o o0 o1).1, (es o o0 o1).2, (k o o0 o1).1, (k o o0 o1).2, e0]
  by_cases c : o < A 2
  · rw [if_pos c, if_pos c, if_pos c, if_pos c, e _ (by omega) (by omega), e _ (by omega) (by omega)]
    exact ⟨rfl, rfl⟩
  · rw [if_neg c, if_neg c, if_neg c, if_neg c]
    exact ⟨rfl, rfl⟩
theorem VT_cg (e0 : B 0 = A 0) (w : A 0 ≤ 10) (e : ∀ z, 10 ≤ z → z < 50 → B z = A z) (k : ∀ t, 0 ≤ t → t < A 0 → WT A t) : ∀ t, 0 ≤ t → t < B 0 → WT B t := by
  intro t t0 t1
  rw [e0] at t1
  unfold WT
  rw [e _ (by omega) (by omega), e _ (by omega) (by omega), e _ (by omega) (by omega), e _ (by omega) (by omega)]
  exact k t t0 t1
theorem VK_cg (e0 : B 1 = A 1) (w : A 1 ≤ 6) (e : ∀ k c, 0 ≤ k → k < A 1 → 0 ≤ c → c < 3 → B (60 + (5 * k + c)) = A (60 + (5 * k + c))) (k : ∀ t, 0 ≤ t → t < A 1 → WK A t) : ∀ t, 0 ≤ t → t < B 1 → WK B t := by
  intro t t0 t1
  rw [e0] at t1
  have q0 := e t 0 t0 t1 (by omega) (by omega)
  rw [Int.add_zero] at q0
  unfold WK
  rw [q0, e t 1 t0 t1 (by omega) (by omega), e t 2 t0 t1 (by omega) (by omega)]
  exact k t t0 t1
theorem VB_cg (e0 : B 2 = A 2) (w : A 2 ≤ 10) (e : ∀ k c, 0 ≤ k → k < A 2 → 0 ≤ c → c < 4 → B (100 + (6 * k + c)) = A (100 + (6 * k + c))) (k : ∀ t, 0 ≤ t → t < A 2 → WB A t) : ∀ t, 0 ≤ t → t < B 2 → WB B t := by
  intro t t0 t1
  rw [e0] at t1
  have q0 := e t 0 t0 t1 (by omega) (by omega)
  rw [Int.add_zero] at q0
  unfold WB
  rw [q0, e t 1 t0 t1 (by omega) (by omega), e t 2 t0 t1 (by omega) (by omega), e t 3 t0 t1 (by omega) (by omega)]
  exact k t t0 t1
theorem VG_cg (e0 : B 6 = A 6) (w : A 6 ≤ 30) (e : ∀ z, 480 ≤ z → z < 570 → B z = A z) (k : ∀ t, 0 ≤ t → t < A 6 → WG A t) : ∀ t, 0 ≤ t → t < B 6 → WG B t := by
  intro t t0 t1
  rw [e0] at t1
  unfold WG
  rw [e _ (by omega) (by omega), e _ (by omega) (by omega), e _ (by omega) (by omega)]
  exact k t t0 t1
theorem VO_cg {n : Int} (h0 : A 0 ≤ B 0) (h1 : A 1 ≤ B 1) (e : ∀ o c, 0 ≤ o → o < n → 0 ≤ c → c < 12 → B (180 + (13 * o + c)) = A (180 + (13 * o + c))) (k : ∀ t, 0 ≤ t → t < n → WO A t) : ∀ t, 0 ≤ t → t < n → WO B t := by
  intro t t0 t1
  obtain ⟨k1, k2, k3, k4⟩ := k t t0 t1
  have q0 := e t 0 t0 t1 (by omega) (by omega)
  rw [Int.add_zero] at q0
  unfold WO
  rw [q0, e t 1 t0 t1 (by omega) (by omega), e t 2 t0 t1 (by omega) (by omega)]
  refine ⟨by omega, k2, k3, fun i i0 i1 => ?_⟩
  have ki := k4 i i0 i1
  unfold WI at ki ⊢
  rw [e t (3 + 3 * i) t0 t1 (by omega) (by omega), e t (3 + (3 * i + 1)) t0 t1 (by omega) (by omega), e t (3 + (3 * i + 2)) t0 t1 (by omega) (by omega)]
  omega
/-- the tape -/
def Tp (s : sg) : Prop := s 6004 0 = s 122003 0 ∧ (0 ≤ s 6004 0 ∧ s 6004 0 ≤ 300) ∧ ∀ i, 0 ≤ i → i < s 6004 0 → (0 ≤ s 7 i ∧ s 7 i ≤ 255) ∧ s 125 i = if s 7 i < 128 then s 7 i else s 7 i - 256
/-- the latest fault -/
def Fl (s : sg) : Prop := (s 16000 0 = 0 ∧ s 122004 0 = -1 ∧ s 122005 0 = -1) ∨ (s 16000 0 = 1 ∧ s 16001 0 = s 122004 0 ∧ s 16002 0 = s 122005 0)
/-- between two calls: a row A, THE IMAGE's row I, the texts L -/
def Inv (s : sg) (A I : Int → Int) (L : Int → lawT) : Prop := s 123 = A ∧ s 124 = I ∧ WF A ∧ WF I ∧ WY A ∧ WY I ∧ IC 0 s A ∧ IC 18 s I ∧ I 4 ≤ A 4 ∧ LI s (A 4) L ∧ Tp s ∧ Fl s
/-- the cells that hold what is between two calls, but the rows -/
def holdL : List Nat := [124, 49004, 51004, 53004, 55004, 57004, 48007, 48008, 50, 52, 54, 58, 59, 61, 62, 63, 64, 65, 67004, 69004, 71004, 73004, 75004, 66007, 66008, 68, 70, 72, 74, 76, 77, 79, 80, 81, 82, 83, 126, 127, 128, 129, 130, 6004, 122003, 7, 125, 16000, 16001, 16002, 122004, 122005]
def ninA (H K : List Nat) : Bool := match H with
  | [] => true
  | a :: r => nin a K && ninA r K
theorem ninA_1 {H K : List Nat} (h : ninA H K = true) {a : Nat} (ha : nin a H = false) : nin a K = true := by
  induction H with
  | nil => cases ha
  | cons x r ih =>
    simp only [ninA, Bool.and_eq_true] at h
    simp only [nin, Bool.and_eq_false_iff, Bool.not_eq_false'] at ha
    rcases ha with e | e
    · rw [← Nat.eq_of_beq_eq_true e]
      exact h.1
    · exact ih h.2 e
/-- the image's side is kept -/
theorem IC18_fr (f : Fr K s s2) (w : ninA [67004, 69004, 71004, 73004, 75004, 66007, 66008, 68, 70, 72, 74, 76, 77, 79, 80, 81, 82, 83] K = true) (k : IC 18 s A) : IC 18 s2 A := by
  have g : ∀ a, nin a [67004, 69004, 71004, 73004, 75004, 66007, 66008, 68, 70, 72, 74, 76, 77, 79, 80, 81, 82, 83] = false → s2 a = s a := fun a ha => f a (ninA_1 w ha)
  obtain ⟨k1, k2, k3, k4⟩ := k
  refine ⟨IC0_cg ⟨g 67004 rfl, g 69004 rfl, g 71004 rfl, g 73004 rfl, g 75004 rfl, g 66007 rfl, g 66008 rfl, g 68 rfl, g 70 rfl, g 72 rfl, g 76 rfl, g 77 rfl⟩ k1, ?_, fun o o0 o1 => cO_cg (g 74 rfl) (k3 o o0 o1), cY_cg ⟨g 79 rfl, g 80 rfl, g 81 rfl, g 82 rfl, g 83 rfl⟩ k4⟩
  have e := g 66008 rfl
  show s2 66008 0 = _
  rw [e]
  exact k2
/-- asking changes nothing -/
theorem Inv_ask {I : Int → Int} (h : Inv s A I L) (f : Fr K s s2) (w : ninA holdL K = true) (wL : ninL K = true) (h56 : ∀ z, z < A 3 * 12 → s2 56 z = s 56 z) (h123 : ∀ z, z < 180 + 13 * A 3 ∨ 480 ≤ z → s2 123 z = A z) : Inv s2 (s2 123) I L := by
  have g : ∀ a, nin a holdL = false → s2 a = s a := fun a ha => f a (ninA_1 w ha)
  obtain ⟨hA, hI2, W, WI, wy, wyi, hI, hK, h4, hL, hT, hF⟩ := h
  have w0 := W.1.1
  unfold W0 at w0
  generalize eB : s2 123 = B at *
  have z0 : Eq0 A B := fun z hz => h123 z (by omega)
  have eo : ∀ o c, 0 ≤ o → o < A 3 → 0 ≤ c → c < 12 → B (180 + (13 * o + c)) = A (180 + (13 * o + c)) := fun o c o0 o1 c0 c1 => h123 _ (by omega)
  have b3 : B 3 = A 3 := z0 3 (by omega)
  have b4 : B 4 = A 4 := z0 4 (by omega)
  obtain ⟨k1, k2, k3, k4, k5, k6⟩ := hI
  refine ⟨eB, (g 124 rfl).trans hI2, ⟨WF0_cg z0 W.1, ?_⟩, WI, ?_, wyi, ⟨?_, ?_, ?_, ?_, ?_, ?_⟩, IC18_fr f ?_ hK, by rw [b4]; exact h4, ?_, ?_, ?_⟩
  · rw [b3]
    exact VO_cg (by rw [z0 0 (by omega)]; omega) (by rw [z0 1 (by omega)]; omega) eo W.2
  · intro o o0 o1
    rw [b3] at o1
    rw [h123 _ (by omega)]
    exact wy o o0 o1
  · have q := IC0_cgA W.1.1 z0 k1
    exact IC0_cg ⟨g 49004 rfl, g 51004 rfl, g 53004 rfl, g 55004 rfl, g 57004 rfl, g 48007 rfl, g 48008 rfl, g 50 rfl, g 52 rfl, g 54 rfl, g 58 rfl, g 59 rfl⟩ q
  · show s2 48008 0 = B 5
    rw [g 48008 rfl, z0 5 (by omega)]
    exact k2
  · exact PO_cg (q := 0) (q2 := 0) b3 (by omega) W.2 (fun z _ z1 _ => h123 z (by omega)) (fun z _ z1 => h56 z z1) k3
  · exact PY1_cg (q := 0) (q2 := 0) b3 (by omega) (fun o o0 o1 => h123 _ (by omega)) (fun z _ _ => congrFun (g 61 rfl) z) k4
  · exact PY2_cg (q := 0) (q2 := 0) (z0 1 (by omega)) (by omega) (fun z _ _ => z0 z (by omega)) (fun z _ _ => ⟨congrFun (g 62 rfl) z, congrFun (g 63 rfl) z⟩) k5
  · exact PY3_cg (q := 0) (q2 := 0) (z0 2 (by omega)) (by omega) (fun z _ _ => z0 z (by omega)) (fun z _ _ => ⟨congrFun (g 64 rfl) z, congrFun (g 65 rfl) z⟩) k6
  · have q : ∀ (H H2 : List Nat), ninA H K = true → sub H2 H = true → ninA H2 K = true := by
      intro H H2 h
      induction H2 with
      | nil => intro _; rfl
      | cons a r ih =>
        intro q
        simp only [sub, Bool.and_eq_true, Bool.not_eq_true'] at q
        simp only [ninA, Bool.and_eq_true]
        exact ⟨ninA_1 h q.1, ih q.2⟩
    exact q _ _ w rfl
  · rw [b4]
    refine LI_fr f wL ?_ hL
    simp only [Bool.and_eq_true]
    exact ⟨⟨⟨⟨ninA_1 w rfl, ninA_1 w rfl⟩, ninA_1 w rfl⟩, ninA_1 w rfl⟩, ninA_1 w rfl⟩
  · unfold Tp
    rw [g 6004 rfl, g 122003 rfl, g 7 rfl, g 125 rfl]
    exact hT
  · unfold Fl
    rw [g 16000 rfl, g 16001 rfl, g 16002 rfl, g 122004 rfl, g 122005 rfl]
    exact hF
end CGP
