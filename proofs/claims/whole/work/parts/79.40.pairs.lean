/-! EACH CALL OF THE LAW: the class, then the reference -/
section PR
variable {d : Nat} {X : hX} {s s1 s2 : sg} {A B I : Int → Int} {L : Int → lawT}
theorem wf_buyers {e n : Int} (W : WF A) (wy : WY A) : (WF (fBuyers A e n).2 ∧ WY (fBuyers A e n).2) ∧ (fBuyers A e n).2 4 = A 4 := by
  unfold fBuyers
  by_cases c : (0 ≤ e ∧ e ≤ 9999) ∧ (1 ≤ n ∧ n ≤ 10) ∧ ¬ A 0 = 0
  · rw [if_pos c]
    have w0 := W.1.1.1
    obtain ⟨h1, h2, h3, h4, h6, h5⟩ := bRun_ok (e := e) (j := n) W wy c.1 (by omega) (by omega) (by omega)
    exact ⟨h5, h6⟩
  · rw [if_neg c]
    exact ⟨⟨W, wy⟩, rfl⟩
theorem Inv_tape (h : Inv s A I L) (f : Fr [7, 6004, 125, 122003] s s2) (t : Tp s2) : Inv s2 A I L := by
  obtain ⟨hA, hI2, W, WI, wy, wyi, hI, hK, h4, hL, _, hF⟩ := h
  refine ⟨(f.g 123 rfl).trans hA, (f.g 124 rfl).trans hI2, W, WI, wy, wyi, ⟨IC0_fr f rfl hI.1, (congrFun (f.g 48008 rfl) 0).trans hI.2.1, fun o o0 o1 => cO_cg (q := 0) (f.g 56 rfl) (hI.2.2.1 o o0 o1), cY_cg (q := 0) ⟨f.g 61 rfl, f.g 62 rfl, f.g 63 rfl, f.g 64 rfl, f.g 65 rfl⟩ hI.2.2.2⟩, IC18_fr f rfl hK, h4, LI_fr f rfl rfl hL, t, ?_⟩
  unfold Fl
  rw [f.g 16000 rfl, f.g 16001 rfl, f.g 16002 rfl, f.g 122004 rfl, f.g 122005 rfl]
  exact hF
theorem p_thing {a l v f : Int} (g : GI s) (r : (-2147483648 ≤ a ∧ a < 2147483648) ∧ (-2147483648 ≤ l ∧ l < 2147483648) ∧ (-2147483648 ≤ v ∧ v < 2147483648) ∧ (-2147483648 ≤ f ∧ f < 2147483648)) : Pair X (d + 60) 121 [.ref 5, .int (iI a), .int (iI l), .int (iI v), .int (iI f), .float 0] 174 [.ref 122, .int (iI a), .int (iI l), .int (iI v), .int (iI f), .float 0] s := by
  obtain ⟨A, I, L, h0⟩ := g
  obtain ⟨hO, hL, hC⟩ := Inv_law h0
  have h1 := h0
  obtain ⟨hA, _, W, WI, wy, wyi, hI, hK, _, hLI, hT, hF⟩ := h1
  have w0 := W.1.1
  unfold W0 at w0
  have gk := gok_of W.1
  intro Q1 k1
  have e4 : (fThing A a l v f).2 4 = A 4 := by
    unfold fThing
    split
    · dsimp only
      repeat rw [up_ne (by omega)]
    · rfl
  refine c_thing hI W wy r fun s1 f1 i1 wf => k1 _ s1 fun Q2 k2 => ?_
  have hA1 : s1 123 = A := (f1.g 123 rfl).trans hA
  have hC1 : curM s1 (Lw L (A 5)) := curM_fr f1 rfl (congrFun (f1.g 123 rfl) 5) hC
  refine Eq.mpr (m_thing hA1 W.1.1 r) (k2 _ ⟨_, I, L, Inv_told h0 f1 rfl rfl rfl rfl i1 wf e4 ((Fr.rf s1).u rfl) (u_eq _ _ _)⟩)
theorem p_maker {a l v : Int} (g : GI s) (r : (-2147483648 ≤ a ∧ a < 2147483648) ∧ (-2147483648 ≤ l ∧ l < 2147483648) ∧ (-2147483648 ≤ v ∧ v < 2147483648)) : Pair X (d + 60) 122 [.ref 5, .int (iI a), .int (iI l), .int (iI v), .float 0] 175 [.ref 122, .int (iI a), .int (iI l), .int (iI v), .float 0] s := by
  obtain ⟨A, I, L, h0⟩ := g
  obtain ⟨hO, hL, hC⟩ := Inv_law h0
  have h1 := h0
  obtain ⟨hA, _, W, WI, wy, wyi, hI, hK, _, hLI, hT, hF⟩ := h1
  have w0 := W.1.1
  unfold W0 at w0
  have gk := gok_of W.1
  intro Q1 k1
  have e4 : (fMaker A a l v).2 4 = A 4 := by
    unfold fMaker
    split
    · dsimp only
      repeat rw [up_ne (by omega)]
    · rfl
  refine c_maker hI W wy r fun s1 f1 i1 wf => k1 _ s1 fun Q2 k2 => ?_
  have hA1 : s1 123 = A := (f1.g 123 rfl).trans hA
  have hC1 : curM s1 (Lw L (A 5)) := curM_fr f1 rfl (congrFun (f1.g 123 rfl) 5) hC
  refine Eq.mpr (m_maker hA1 W.1.1 r) (k2 _ ⟨_, I, L, Inv_told h0 f1 rfl rfl rfl rfl i1 wf e4 ((Fr.rf s1).u rfl) (u_eq _ _ _)⟩)
theorem p_buyer {a l v f : Int} (g : GI s) (r : (-2147483648 ≤ a ∧ a < 2147483648) ∧ (-2147483648 ≤ l ∧ l < 2147483648) ∧ (-2147483648 ≤ v ∧ v < 2147483648) ∧ (-2147483648 ≤ f ∧ f < 2147483648)) : Pair X (d + 60) 123 [.ref 5, .int (iI a), .int (iI l), .int (iI v), .int (iI f), .float 0] 177 [.ref 122, .int (iI a), .int (iI l), .int (iI v), .int (iI f), .float 0] s := by
  obtain ⟨A, I, L, h0⟩ := g
  obtain ⟨hO, hL, hC⟩ := Inv_law h0
  have h1 := h0
  obtain ⟨hA, _, W, WI, wy, wyi, hI, hK, _, hLI, hT, hF⟩ := h1
  have w0 := W.1.1
  unfold W0 at w0
  have gk := gok_of W.1
  intro Q1 k1
  have e4 : (fBuyer A a l v f).2 4 = A 4 := by
    unfold fBuyer
    split
    · dsimp only
      unfold fAdds
      repeat rw [up_ne (by omega)]
    · rfl
  refine c_buyer hI W wy r fun s1 f1 i1 wf => k1 _ s1 fun Q2 k2 => ?_
  have hA1 : s1 123 = A := (f1.g 123 rfl).trans hA
  have hC1 : curM s1 (Lw L (A 5)) := curM_fr f1 rfl (congrFun (f1.g 123 rfl) 5) hC
  refine Eq.mpr (m_buyer hA1 W.1.1 r) (k2 _ ⟨_, I, L, Inv_told h0 f1 rfl rfl rfl rfl i1 wf e4 ((Fr.rf s1).u rfl) (u_eq _ _ _)⟩)
theorem p_house {a l : Int} (g : GI s) (r : (-2147483648 ≤ a ∧ a < 2147483648) ∧ (-2147483648 ≤ l ∧ l < 2147483648)) : Pair X (d + 60) 124 [.ref 5, .int (iI a), .int (iI l)] 178 [.ref 122, .int (iI a), .int (iI l)] s := by
  obtain ⟨A, I, L, h0⟩ := g
  obtain ⟨hO, hL, hC⟩ := Inv_law h0
  have h1 := h0
  obtain ⟨hA, _, W, WI, wy, wyi, hI, hK, _, hLI, hT, hF⟩ := h1
  have w0 := W.1.1
  unfold W0 at w0
  have gk := gok_of W.1
  intro Q1 k1
  have e4 : (fHouse A a l).2 4 = A 4 := by
    unfold fHouse
    split
    · dsimp only
      repeat rw [up_ne (by omega)]
    · rfl
  refine c_house hI W wy r fun s1 f1 i1 wf => k1 _ s1 fun Q2 k2 => ?_
  have hA1 : s1 123 = A := (f1.g 123 rfl).trans hA
  have hC1 : curM s1 (Lw L (A 5)) := curM_fr f1 rfl (congrFun (f1.g 123 rfl) 5) hC
  refine Eq.mpr (m_house hA1 r) (k2 _ ⟨_, I, L, Inv_told h0 f1 rfl rfl rfl rfl i1 wf e4 ((Fr.rf s1).u rfl) (u_eq _ _ _)⟩)
theorem p_offer {a l : Int} (g : GI s) (r : (-2147483648 ≤ a ∧ a < 2147483648) ∧ (-2147483648 ≤ l ∧ l < 2147483648)) : Pair X (d + 60) 125 [.ref 5, .int (iI a), .int (iI l), .float 0] 180 [.ref 122, .int (iI a), .int (iI l)] s := by
  obtain ⟨A, I, L, h0⟩ := g
  obtain ⟨hO, hL, hC⟩ := Inv_law h0
  have h1 := h0
  obtain ⟨hA, _, W, WI, wy, wyi, hI, hK, _, hLI, hT, hF⟩ := h1
  have w0 := W.1.1
  unfold W0 at w0
  have gk := gok_of W.1
  intro Q1 k1
  have e4 : (fOffer A a l).2 4 = A 4 := by
    unfold fOffer
    split
    · dsimp only
      unfold fOpens
      repeat rw [up_ne (by omega)]
      unfold fZero
      rw [if_neg (by omega)]
      repeat rw [up_ne (by omega)]
    · rfl
  refine c_offer hI W wy r fun s1 f1 i1 wf => k1 _ s1 fun Q2 k2 => ?_
  have hA1 : s1 123 = A := (f1.g 123 rfl).trans hA
  have hC1 : curM s1 (Lw L (A 5)) := curM_fr f1 rfl (congrFun (f1.g 123 rfl) 5) hC
  refine Eq.mpr (m_offer hA1 W.1.1 r) (k2 _ ⟨_, I, L, Inv_told h0 f1 rfl rfl rfl rfl i1 wf e4 ((Fr.rf s1).u rfl) (u_eq _ _ _)⟩)
theorem p_put {o t w v : Int} (g : GI s) (r : (-2147483648 ≤ o ∧ o < 2147483648) ∧ (-2147483648 ≤ t ∧ t < 2147483648) ∧ (-2147483648 ≤ w ∧ w < 2147483648) ∧ (-2147483648 ≤ v ∧ v < 2147483648)) : Pair X (d + 60) 126 [.ref 5, .int (iI o), .int (iI t), .int (iI w), .int (iI v), .float 0] 182 [.ref 122, .int (iI o), .int (iI t), .int (iI w), .int (iI v)] s := by
  obtain ⟨A, I, L, h0⟩ := g
  obtain ⟨hO, hL, hC⟩ := Inv_law h0
  have h1 := h0
  obtain ⟨hA, _, W, WI, wy, wyi, hI, hK, _, hLI, hT, hF⟩ := h1
  have w0 := W.1.1
  unfold W0 at w0
  have gk := gok_of W.1
  intro Q1 k1
  have e4 : (fPut A (Lw L (A 5)) o t w v).2 4 = A 4 := by
    unfold fPut
    split
    · dsimp only
      have wo := (W.2 o (by omega) (by omega)).2.2.1
      unfold fLays
      repeat rw [up_ne (by omega)]
    · rfl
  refine c_put hI hL hO W wy r fun s1 f1 i1 wf => k1 _ s1 fun Q2 k2 => ?_
  have hA1 : s1 123 = A := (f1.g 123 rfl).trans hA
  have hC1 : curM s1 (Lw L (A 5)) := curM_fr f1 rfl (congrFun (f1.g 123 rfl) 5) hC
  exact m_put hA1 hC1 hO W r fun s2 f2 => k2 _ ⟨_, I, L, Inv_told h0 f1 rfl rfl rfl rfl i1 wf e4 ((f2.up rfl).u rfl) (u_eq _ _ _)⟩
theorem p_drop {a : Int} (g : GI s) (r : (-2147483648 ≤ a ∧ a < 2147483648)) : Pair X (d + 60) 127 [.ref 5, .int (iI a), .float 0] 183 [.ref 122, .int (iI a), .float 0] s := by
  obtain ⟨A, I, L, h0⟩ := g
  obtain ⟨hO, hL, hC⟩ := Inv_law h0
  have h1 := h0
  obtain ⟨hA, _, W, WI, wy, wyi, hI, hK, _, hLI, hT, hF⟩ := h1
  have w0 := W.1.1
  unfold W0 at w0
  have gk := gok_of W.1
  intro Q1 k1
  have e4 : (fDrop A a).2 4 = A 4 := by
    unfold fDrop
    split
    · dsimp only
      repeat rw [up_ne (by omega)]
    · rfl
  refine c_drop hI W wy r fun s1 f1 i1 wf => k1 _ s1 fun Q2 k2 => ?_
  have hA1 : s1 123 = A := (f1.g 123 rfl).trans hA
  have hC1 : curM s1 (Lw L (A 5)) := curM_fr f1 rfl (congrFun (f1.g 123 rfl) 5) hC
  refine Eq.mpr (m_drop hA1 W.1.1 r) (k2 _ ⟨_, I, L, Inv_told h0 f1 rfl rfl rfl rfl i1 wf e4 ((Fr.rf s1).u rfl) (u_eq _ _ _)⟩)
theorem p_by {a : Int} (g : GI s) (r : (-2147483648 ≤ a ∧ a < 2147483648)) : Pair X (d + 60) 132 [.ref 5, .int (iI a)] 217 [.ref 122, .int (iI a)] s := by
  obtain ⟨A, I, L, h0⟩ := g
  obtain ⟨hO, hL, hC⟩ := Inv_law h0
  have h1 := h0
  obtain ⟨hA, _, W, WI, wy, wyi, hI, hK, _, hLI, hT, hF⟩ := h1
  have w0 := W.1.1
  unfold W0 at w0
  have gk := gok_of W.1
  intro Q1 k1
  have e4 : (fBy A a).2 4 = A 4 := by
    unfold fBy
    split
    · dsimp only
      repeat rw [up_ne (by omega)]
    · rfl
  refine c_by hI W wy r fun s1 f1 i1 wf => k1 _ s1 fun Q2 k2 => ?_
  have hA1 : s1 123 = A := (f1.g 123 rfl).trans hA
  have hC1 : curM s1 (Lw L (A 5)) := curM_fr f1 rfl (congrFun (f1.g 123 rfl) 5) hC
  refine Eq.mpr (m_by hA1 W.1.1 r) (k2 _ ⟨_, I, L, Inv_told h0 f1 rfl rfl rfl rfl i1 wf e4 ((Fr.rf s1).u rfl) (u_eq _ _ _)⟩)
theorem p_gift {a l v : Int} (g : GI s) (r : (-2147483648 ≤ a ∧ a < 2147483648) ∧ (-2147483648 ≤ l ∧ l < 2147483648) ∧ (-2147483648 ≤ v ∧ v < 2147483648)) : Pair X (d + 60) 147 [.ref 5, .int (iI a), .int (iI l), .int (iI v), .float 0] 253 [.ref 122, .int (iI a), .int (iI l), .int (iI v), .float 0] s := by
  obtain ⟨A, I, L, h0⟩ := g
  obtain ⟨hO, hL, hC⟩ := Inv_law h0
  have h1 := h0
  obtain ⟨hA, _, W, WI, wy, wyi, hI, hK, _, hLI, hT, hF⟩ := h1
  have w0 := W.1.1
  unfold W0 at w0
  have gk := gok_of W.1
  intro Q1 k1
  have e4 : (fGift A a l v).2 4 = A 4 := by
    unfold fGift
    split
    · dsimp only
      repeat rw [up_ne (by omega)]
    · rfl
  refine c_gift hI W wy r fun s1 f1 i1 wf => k1 _ s1 fun Q2 k2 => ?_
  have hA1 : s1 123 = A := (f1.g 123 rfl).trans hA
  have hC1 : curM s1 (Lw L (A 5)) := curM_fr f1 rfl (congrFun (f1.g 123 rfl) 5) hC
  refine Eq.mpr (m_gift hA1 W.1.1 r) (k2 _ ⟨_, I, L, Inv_told h0 f1 rfl rfl rfl rfl i1 wf e4 ((Fr.rf s1).u rfl) (u_eq _ _ _)⟩)
theorem p_buyers {e n : Int} (g : GI s) (r : (-2147483648 ≤ e ∧ e < 2147483648) ∧ (-2147483648 ≤ n ∧ n < 2147483648)) : Pair X (d + 60) 151 [.ref 5, .int (iI e), .int (iI n)] 261 [.ref 122, .int (iI e), .int (iI n), .float 0, .float 0, .float 0, .float 0, .float 0, .float 0] s := by
  obtain ⟨A, I, L, h0⟩ := g
  obtain ⟨hO, hL, hC⟩ := Inv_law h0
  have h1 := h0
  obtain ⟨hA, _, W, WI, wy, wyi, hI, hK, _, hLI, hT, hF⟩ := h1
  have w0 := W.1.1
  unfold W0 at w0
  have gk := gok_of W.1
  intro Q1 k1
  have e4 : (fBuyers A e n).2 4 = A 4 := (wf_buyers W wy).2
  refine c_buyers hI W wy r.1 r.2 fun s1 f1 i1 => k1 _ s1 fun Q2 k2 => ?_
  have wf := (wf_buyers (e := e) (n := n) W wy).1
  have hA1 : s1 123 = A := (f1.g 123 rfl).trans hA
  have hC1 : curM s1 (Lw L (A 5)) := curM_fr f1 rfl (congrFun (f1.g 123 rfl) 5) hC
  exact m_buyers hA1 W wy r.1 r.2 fun s2 f2 e2 => k2 _ ⟨_, I, L, Inv_told h0 f1 rfl rfl rfl rfl i1 wf e4 (f2.up rfl) e2⟩
theorem p_of {o w : Int} (g : GI s) (r : (-2147483648 ≤ o ∧ o < 2147483648) ∧ (-2147483648 ≤ w ∧ w < 2147483648)) : Pair X (d + 60) 133 [.ref 5, .int (iI o), .int (iI w)] 229 [.ref 122, .int (iI o), .int (iI w), .float 0, .float 0] s := by
  obtain ⟨A, I, L, h0⟩ := g
  obtain ⟨hO, hL, hC⟩ := Inv_law h0
  have h1 := h0
  obtain ⟨hA, _, W, WI, wy, wyi, hI, hK, _, hLI, hT, hF⟩ := h1
  have w0 := W.1.1
  unfold W0 at w0
  have gk := gok_of W.1
  intro Q1 k1
  refine c_of hI hL hO W wy r.1 r.2 fun s1 f1 => k1 _ s1 fun Q2 k2 => ?_
  have hA1 : s1 123 = A := (f1.g 123 rfl).trans hA
  have hC1 : curM s1 (Lw L (A 5)) := curM_fr f1 rfl (congrFun (f1.g 123 rfl) 5) hC
  have hL1 : LI s1 (A 4) L := LI_fr f1 rfl rfl hLI
  refine m_of hA1 hC1 hO W r.1 r.2 fun s2 f2 => ?_
  exact k2 s2 ⟨_, I, L, Inv_ask h0 ((f1.up (L2 := [84900, 85, 86, 88, 89, 90, 91, 92, 93, 139, 140, 141, 142, 143, 144, 145, 146]) rfl).tr (f2.up rfl)) rfl rfl (fun z hz => congrFun ((f2.g 56 rfl).trans (f1.g 56 rfl)) z) (fun z hz => (congrFun (f2.g 123 rfl) z).trans (congrFun hA1 z))⟩
theorem p_worth {b o : Int} (g : GI s) (r : (-2147483648 ≤ b ∧ b < 2147483648) ∧ (-2147483648 ≤ o ∧ o < 2147483648)) : Pair X (d + 60) 134 [.ref 5, .int (iI b), .int (iI o)] 230 [.ref 122, .int (iI b), .int (iI o)] s := by
  obtain ⟨A, I, L, h0⟩ := g
  obtain ⟨hO, hL, hC⟩ := Inv_law h0
  have h1 := h0
  obtain ⟨hA, _, W, WI, wy, wyi, hI, hK, _, hLI, hT, hF⟩ := h1
  have w0 := W.1.1
  unfold W0 at w0
  have gk := gok_of W.1
  intro Q1 k1
  refine c_worth hI hL hO W r.2 r.1 fun s1 f1 => k1 _ s1 fun Q2 k2 => ?_
  have hA1 : s1 123 = A := (f1.g 123 rfl).trans hA
  have hC1 : curM s1 (Lw L (A 5)) := curM_fr f1 rfl (congrFun (f1.g 123 rfl) 5) hC
  have hL1 : LI s1 (A 4) L := LI_fr f1 rfl rfl hLI
  refine m_worth hA1 hC1 hO W r.2 r.1 fun s2 f2 => ?_
  exact k2 s2 ⟨_, I, L, Inv_ask h0 ((f1.up (L2 := [84900, 85, 86, 139, 140]) rfl).tr (f2.up rfl)) rfl rfl (fun z hz => congrFun ((f2.g 56 rfl).trans (f1.g 56 rfl)) z) (fun z hz => (congrFun (f2.g 123 rfl) z).trans (congrFun hA1 z))⟩
theorem p_likes {b : Int} (g : GI s) (r : (-2147483648 ≤ b ∧ b < 2147483648)) : Pair X (d + 60) 135 [.ref 5, .int (iI b)] 232 [.ref 122, .int (iI b), .float 0, .float 0, .float 0] s := by
  obtain ⟨A, I, L, h0⟩ := g
  obtain ⟨hO, hL, hC⟩ := Inv_law h0
  have h1 := h0
  obtain ⟨hA, _, W, WI, wy, wyi, hI, hK, _, hLI, hT, hF⟩ := h1
  have w0 := W.1.1
  unfold W0 at w0
  have gk := gok_of W.1
  intro Q1 k1
  refine c_likes hI hL hO W r fun s1 f1 => k1 _ s1 fun Q2 k2 => ?_
  have hA1 : s1 123 = A := (f1.g 123 rfl).trans hA
  have hC1 : curM s1 (Lw L (A 5)) := curM_fr f1 rfl (congrFun (f1.g 123 rfl) 5) hC
  have hL1 : LI s1 (A 4) L := LI_fr f1 rfl rfl hLI
  refine m_likes hA1 hC1 hO W r fun s2 f2 => ?_
  exact k2 s2 ⟨_, I, L, Inv_ask h0 ((f1.up (L2 := [84900, 85, 86, 88, 89, 90, 91, 92, 93, 95, 96, 97, 98, 99, 100, 101, 102, 103, 104, 139, 140, 141, 142, 143, 144, 145, 146, 152]) rfl).tr (f2.up rfl)) rfl rfl (fun z hz => congrFun ((f2.g 56 rfl).trans (f1.g 56 rfl)) z) (fun z hz => (congrFun (f2.g 123 rfl) z).trans (congrFun hA1 z))⟩
theorem p_judge (g : GI s) : Pair X (d + 60) 138 [.ref 5, .float 0, .float 0] 238 [.ref 122, .float 0] s := by
  obtain ⟨A, I, L, h0⟩ := g
  obtain ⟨hO, hL, hC⟩ := Inv_law h0
  have h1 := h0
  obtain ⟨hA, _, W, WI, wy, wyi, hI, hK, _, hLI, hT, hF⟩ := h1
  have w0 := W.1.1
  unfold W0 at w0
  have gk := gok_of W.1
  intro Q1 k1
  refine c_judge hI hL hO W wy fun s1 f1 => k1 _ s1 fun Q2 k2 => ?_
  have hA1 : s1 123 = A := (f1.g 123 rfl).trans hA
  have hC1 : curM s1 (Lw L (A 5)) := curM_fr f1 rfl (congrFun (f1.g 123 rfl) 5) hC
  have hL1 : LI s1 (A 4) L := LI_fr f1 rfl rfl hLI
  refine m_judge hA1 hC1 hO W wy fun s2 f2 => ?_
  exact k2 s2 ⟨_, I, L, Inv_ask h0 ((f1.up (L2 := [84900, 85, 86, 88, 89, 90, 91, 92, 93, 139, 140, 141, 142, 143, 144, 145, 146]) rfl).tr (f2.up rfl)) rfl rfl (fun z hz => congrFun ((f2.g 56 rfl).trans (f1.g 56 rfl)) z) (fun z hz => (congrFun (f2.g 123 rfl) z).trans (congrFun hA1 z))⟩
theorem p_best {k t h z : Int} (g : GI s) (r : (-2147483648 ≤ k ∧ k < 2147483648) ∧ (-2147483648 ≤ t ∧ t < 2147483648) ∧ (-2147483648 ≤ h ∧ h < 2147483648) ∧ (-2147483648 ≤ z ∧ z < 2147483648)) : Pair X (d + 60) 139 [.ref 5, .int (iI k), .int (iI t), .int (iI h), .int (iI z), .float 0] 240 [.ref 122, .int (iI k), .int (iI t), .int (iI h), .int (iI z), .float 0] s := by
  obtain ⟨A, I, L, h0⟩ := g
  obtain ⟨hO, hL, hC⟩ := Inv_law h0
  have h1 := h0
  obtain ⟨hA, _, W, WI, wy, wyi, hI, hK, _, hLI, hT, hF⟩ := h1
  have w0 := W.1.1
  unfold W0 at w0
  have gk := gok_of W.1
  intro Q1 k1
  refine c_best hI hL hO W r fun s1 f1 o1 => k1 _ s1 fun Q2 k2 => ?_
  have hA1 : s1 123 = A := (f1.g 123 rfl).trans hA
  have hC1 : curM s1 (Lw L (A 5)) := curM_fr f1 rfl (congrFun (f1.g 123 rfl) 5) hC
  have hL1 : LI s1 (A 4) L := LI_fr f1 rfl rfl hLI
  refine m_best hA1 hC1 hO W r fun s2 f2 o2 => ?_
  exact k2 s2 ⟨_, I, L, Inv_ask h0 ((f1.up (L2 := [84900, 105002, 56, 85, 86, 88, 89, 90, 91, 92, 93, 95, 96, 97, 98, 99, 100, 101, 102, 103, 104, 113, 114, 115, 116, 117, 122047, 123, 139, 140, 141, 142, 143, 144, 145, 146, 147, 148, 149, 150, 151, 152]) rfl).tr (f2.up rfl)) rfl rfl (fun z hz => (congrFun (f2.g 56 rfl) z).trans (o1 z (Or.inl hz))) (fun z hz => o2 z (by omega))⟩
theorem p_never {t : Int} (g : GI s) (r : (-2147483648 ≤ t ∧ t < 2147483648)) : Pair X (d + 60) 141 [.ref 5, .int (iI t)] 244 [.ref 122, .int (iI t), .float 0, .float 0, .float 0, .float 0, .float 0] s := by
  obtain ⟨A, I, L, h0⟩ := g
  obtain ⟨hO, hL, hC⟩ := Inv_law h0
  have h1 := h0
  obtain ⟨hA, _, W, WI, wy, wyi, hI, hK, _, hLI, hT, hF⟩ := h1
  have w0 := W.1.1
  unfold W0 at w0
  have gk := gok_of W.1
  intro Q1 k1
  refine c_never hI hL hO W r fun s1 r1 f1 o1 d1 => k1 _ s1 fun Q2 k2 => ?_
  have hA1 : s1 123 = A := (f1.g 123 rfl).trans hA
  have hC1 : curM s1 (Lw L (A 5)) := curM_fr f1 rfl (congrFun (f1.g 123 rfl) 5) hC
  have hL1 : LI s1 (A 4) L := LI_fr f1 rfl rfl hLI
  refine m_never hA1 hC1 hO W.1 r fun s2 r2 f2 d2 => ?_
  have er : r2 = r1 := by
    rcases d1 with ⟨a1, a2, a3⟩ | ⟨a1, a2⟩ <;> rcases d2 with ⟨b1, b2, b3⟩ | ⟨b1, b2⟩
    · exact isN_u b3 a3
    · exact absurd ⟨a1, a2⟩ b1
    · exact absurd ⟨b1, b2⟩ a1
    · omega
  rw [er]
  exact k2 s2 ⟨_, I, L, Inv_ask h0 ((f1.up (L2 := [84900, 56, 85, 86, 88, 89, 90, 91, 92, 93, 95, 96, 97, 98, 99, 100, 101, 102, 103, 104, 139, 140]) rfl).tr (f2.up rfl)) rfl rfl (fun z hz => (congrFun (f2.g 56 rfl) z).trans (o1 z (Or.inl hz))) (fun z hz => (congrFun (f2.g 123 rfl) z).trans (congrFun hA1 z))⟩
theorem p_tied {k t t2 h : Int} (g : GI s) (r : (-2147483648 ≤ k ∧ k < 2147483648) ∧ (-2147483648 ≤ t ∧ t < 2147483648) ∧ (-2147483648 ≤ t2 ∧ t2 < 2147483648) ∧ (-2147483648 ≤ h ∧ h < 2147483648)) : Pair X (d + 60) 142 [.ref 5, .int (iI k), .int (iI t), .int (iI t2), .int (iI h), .float 0, .float 0, .float 0] 245 [.ref 122, .int (iI k), .int (iI t), .int (iI t2), .int (iI h), .float 0, .float 0, .float 0, .float 0, .float 0, .float 0] s := by
  obtain ⟨A, I, L, h0⟩ := g
  obtain ⟨hO, hL, hC⟩ := Inv_law h0
  have h1 := h0
  obtain ⟨hA, _, W, WI, wy, wyi, hI, hK, _, hLI, hT, hF⟩ := h1
  have w0 := W.1.1
  unfold W0 at w0
  have gk := gok_of W.1
  intro Q1 k1
  refine c_tiedT hI hL hO W r fun s1 f1 o1 => k1 _ s1 fun Q2 k2 => ?_
  have hA1 : s1 123 = A := (f1.g 123 rfl).trans hA
  have hC1 : curM s1 (Lw L (A 5)) := curM_fr f1 rfl (congrFun (f1.g 123 rfl) 5) hC
  have hL1 : LI s1 (A 4) L := LI_fr f1 rfl rfl hLI
  refine m_tiedT hA1 hC1 hO W r fun s2 f2 o2 => ?_
  exact k2 s2 ⟨_, I, L, Inv_ask h0 ((f1.up (L2 := [84900, 105002, 56, 85, 86, 88, 89, 90, 91, 92, 93, 95, 96, 97, 98, 99, 100, 101, 102, 103, 104, 113, 114, 115, 116, 117, 122047, 123, 139, 140, 141, 142, 143, 144, 145, 146, 147, 148, 149, 150, 151, 152]) rfl).tr (f2.up rfl)) rfl rfl (fun z hz => (congrFun (f2.g 56 rfl) z).trans (o1 z (Or.inl hz))) (fun z hz => o2 z (by omega))⟩
theorem p_harm {t w : Int} (g : GI s) (r : (-2147483648 ≤ t ∧ t < 2147483648) ∧ (-2147483648 ≤ w ∧ w < 2147483648)) : Pair X (d + 60) 143 [.ref 5, .int (iI t), .int (iI w), .float 0] 249 [.ref 122, .int (iI t), .int (iI w), .float 0, .float 0] s := by
  obtain ⟨A, I, L, h0⟩ := g
  obtain ⟨hO, hL, hC⟩ := Inv_law h0
  have h1 := h0
  obtain ⟨hA, _, W, WI, wy, wyi, hI, hK, _, hLI, hT, hF⟩ := h1
  have w0 := W.1.1
  unfold W0 at w0
  have gk := gok_of W.1
  intro Q1 k1
  refine c_harm hI hLI W r.1 r.2 fun s1 f1 => k1 _ s1 fun Q2 k2 => ?_
  have hA1 : s1 123 = A := (f1.g 123 rfl).trans hA
  have hC1 : curM s1 (Lw L (A 5)) := curM_fr f1 rfl (congrFun (f1.g 123 rfl) 5) hC
  have hL1 : LI s1 (A 4) L := LI_fr f1 rfl rfl hLI
  refine m_harm hA1 hL1 W r.1 r.2 fun s2 f2 e2 => ?_
  exact k2 s2 ⟨_, I, L, Inv_ask h0 ((f1.up (L2 := [84900, 85, 86, 88, 89, 90, 91, 92, 93, 95, 96, 97, 98, 99, 100, 101, 102, 103, 104, 113, 114, 115, 116, 117, 118, 123, 139, 140, 141, 142, 143, 144, 145, 146, 147, 148, 149, 150, 151, 152]) rfl).tr (f2.up rfl)) rfl rfl (fun z hz => congrFun ((f2.g 56 rfl).trans (f1.g 56 rfl)) z) (fun z hz => congrFun e2 z)⟩
theorem p_least (g : GI s) : Pair X (d + 60) 144 [.ref 5, .float 0, .float 0, .float 0, .float 0, .float 0] 250 [.ref 122, .float 0, .float 0, .float 0, .float 0] s := by
  obtain ⟨A, I, L, h0⟩ := g
  obtain ⟨hO, hL, hC⟩ := Inv_law h0
  have h1 := h0
  obtain ⟨hA, _, W, WI, wy, wyi, hI, hK, _, hLI, hT, hF⟩ := h1
  have w0 := W.1.1
  unfold W0 at w0
  have gk := gok_of W.1
  intro Q1 k1
  refine c_least hI hLI W fun s1 f1 => k1 _ s1 fun Q2 k2 => ?_
  have hA1 : s1 123 = A := (f1.g 123 rfl).trans hA
  have hC1 : curM s1 (Lw L (A 5)) := curM_fr f1 rfl (congrFun (f1.g 123 rfl) 5) hC
  have hL1 : LI s1 (A 4) L := LI_fr f1 rfl rfl hLI
  refine m_least hA1 hL1 W fun s2 f2 e2 => ?_
  exact k2 s2 ⟨_, I, L, Inv_ask h0 ((f1.up (L2 := [84900, 85, 86, 88, 89, 90, 91, 92, 93, 95, 96, 97, 98, 99, 100, 101, 102, 103, 104, 113, 114, 115, 116, 117, 118, 123, 139, 140, 141, 142, 143, 144, 145, 146, 147, 148, 149, 150, 151, 152]) rfl).tr (f2.up rfl)) rfl rfl (fun z hz => congrFun ((f2.g 56 rfl).trans (f1.g 56 rfl)) z) (fun z hz => congrFun e2 z)⟩
theorem p_changed {t w : Int} (g : GI s) (r : (-2147483648 ≤ t ∧ t < 2147483648) ∧ (-2147483648 ≤ w ∧ w < 2147483648)) : Pair X (d + 60) 145 [.ref 5, .int (iI t), .int (iI w)] 251 [.ref 122, .int (iI t), .int (iI w), .float 0, .float 0, .float 0, .float 0, .float 0] s := by
  obtain ⟨A, I, L, h0⟩ := g
  obtain ⟨hO, hL, hC⟩ := Inv_law h0
  have h1 := h0
  obtain ⟨hA, _, W, WI, wy, wyi, hI, hK, _, hLI, hT, hF⟩ := h1
  have w0 := W.1.1
  unfold W0 at w0
  have gk := gok_of W.1
  intro Q1 k1
  refine c_changed hI hLI W r.1 r.2 fun s1 f1 => k1 _ s1 fun Q2 k2 => ?_
  have hA1 : s1 123 = A := (f1.g 123 rfl).trans hA
  have hC1 : curM s1 (Lw L (A 5)) := curM_fr f1 rfl (congrFun (f1.g 123 rfl) 5) hC
  have hL1 : LI s1 (A 4) L := LI_fr f1 rfl rfl hLI
  refine m_changed hA1 hL1 W r.1 r.2 fun s2 f2 e2 => ?_
  exact k2 s2 ⟨_, I, L, Inv_ask h0 ((f1.up (L2 := [84900, 85, 86, 88, 89, 90, 91, 92, 93, 95, 96, 97, 98, 99, 100, 101, 102, 103, 104, 107, 108, 109, 110, 111, 113, 114, 115, 116, 117, 123, 139, 140, 141, 142, 143, 144, 145, 146, 147, 148, 149, 150, 151, 152, 153]) rfl).tr (f2.up rfl)) rfl rfl (fun z hz => congrFun ((f2.g 56 rfl).trans (f1.g 56 rfl)) z) (fun z hz => congrFun e2 z)⟩
theorem p_where {o : Int} (g : GI s) (r : (-2147483648 ≤ o ∧ o < 2147483648)) : Pair X (d + 60) 146 [.ref 5, .int (iI o)] 252 [.ref 122, .int (iI o), .float 0, .float 0, .float 0, .float 0, .float 0] s := by
  obtain ⟨A, I, L, h0⟩ := g
  obtain ⟨hO, hL, hC⟩ := Inv_law h0
  have h1 := h0
  obtain ⟨hA, _, W, WI, wy, wyi, hI, hK, _, hLI, hT, hF⟩ := h1
  have w0 := W.1.1
  unfold W0 at w0
  have gk := gok_of W.1
  intro Q1 k1
  refine c_where hI hL hO W r fun s1 f1 e1 => k1 _ s1 fun Q2 k2 => ?_
  have hA1 : s1 123 = A := (f1.g 123 rfl).trans hA
  have hC1 : curM s1 (Lw L (A 5)) := curM_fr f1 rfl (congrFun (f1.g 123 rfl) 5) hC
  have hL1 : LI s1 (A 4) L := LI_fr f1 rfl rfl hLI
  refine m_where hA1 hC1 hO W.1 W.2 r fun s2 f2 e2 => ?_
  exact k2 s2 ⟨_, I, L, Inv_ask h0 ((f1.up (L2 := [84900, 105002, 56, 85, 86, 88, 89, 90, 91, 92, 93, 95, 96, 97, 98, 99, 100, 101, 102, 103, 104, 113, 114, 115, 116, 117, 123, 139, 140, 141, 142, 143, 144, 145, 146, 147, 148, 149, 150, 151, 152]) rfl).tr (f2.up rfl)) rfl rfl (fun z hz => congrFun ((f2.g 56 rfl).trans e1) z) (fun z hz => congrFun e2 z)⟩
theorem p_net {w : Int} (g : GI s) (r : (-2147483648 ≤ w ∧ w < 2147483648)) : Pair X (d + 60) 149 [.ref 5, .int (iI w)] 257 [.ref 122, .int (iI w)] s := by
  obtain ⟨A, I, L, h0⟩ := g
  obtain ⟨hO, hL, hC⟩ := Inv_law h0
  have h1 := h0
  obtain ⟨hA, _, W, WI, wy, wyi, hI, hK, _, hLI, hT, hF⟩ := h1
  have w0 := W.1.1
  unfold W0 at w0
  have gk := gok_of W.1
  intro Q1 k1
  refine c_net hI.1 gk r fun s1 f1 => k1 _ s1 fun Q2 k2 => ?_
  have hA1 : s1 123 = A := (f1.g 123 rfl).trans hA
  have hC1 : curM s1 (Lw L (A 5)) := curM_fr f1 rfl (congrFun (f1.g 123 rfl) 5) hC
  have hL1 : LI s1 (A 4) L := LI_fr f1 rfl rfl hLI
  refine m_net gk hA1 r fun s2 f2 => ?_
  exact k2 s2 ⟨_, I, L, Inv_ask h0 ((f1.up (L2 := [120, 121, 155]) rfl).tr (f2.up rfl)) rfl rfl (fun z hz => congrFun ((f2.g 56 rfl).trans (f1.g 56 rfl)) z) (fun z hz => (congrFun (f2.g 123 rfl) z).trans (congrFun hA1 z))⟩
theorem p_steady (g : GI s) : Pair X (d + 60) 150 [.ref 5] 259 [.ref 122, .float 0, .float 0, .float 0, .float 0] s := by
  obtain ⟨A, I, L, h0⟩ := g
  obtain ⟨hO, hL, hC⟩ := Inv_law h0
  have h1 := h0
  obtain ⟨hA, _, W, WI, wy, wyi, hI, hK, _, hLI, hT, hF⟩ := h1
  have w0 := W.1.1
  unfold W0 at w0
  have gk := gok_of W.1
  intro Q1 k1
  refine c_steady hI.1 gk fun s1 f1 => k1 _ s1 fun Q2 k2 => ?_
  have hA1 : s1 123 = A := (f1.g 123 rfl).trans hA
  have hC1 : curM s1 (Lw L (A 5)) := curM_fr f1 rfl (congrFun (f1.g 123 rfl) 5) hC
  have hL1 : LI s1 (A 4) L := LI_fr f1 rfl rfl hLI
  refine m_steady gk hA1 fun s2 f2 => ?_
  exact k2 s2 ⟨_, I, L, Inv_ask h0 ((f1.up (L2 := [120, 121, 155]) rfl).tr (f2.up rfl)) rfl rfl (fun z hz => congrFun ((f2.g 56 rfl).trans (f1.g 56 rfl)) z) (fun z hz => (congrFun (f2.g 123 rfl) z).trans (congrFun hA1 z))⟩
theorem p_round {w : Int} (g : GI s) (r : (-2147483648 ≤ w ∧ w < 2147483648)) : Pair X (d + 60) 148 [.ref 5, .int (iI w)] 254 [.ref 122, .int (iI w), .float 0, .float 0, .float 0, .float 0] s := by
  obtain ⟨A, I, L, h0⟩ := g
  obtain ⟨hO, hL, hC⟩ := Inv_law h0
  have h1 := h0
  obtain ⟨hA, _, W, WI, wy, wyi, hI, hK, _, hLI, hT, hF⟩ := h1
  have w0 := W.1.1
  unfold W0 at w0
  have gk := gok_of W.1
  intro Q1 k1
  refine c_round hI gk r fun r1 d1 => k1 _ s fun Q2 k2 => ?_
  refine m_round hA gk r fun s2 r2 f2 d2 => ?_
  have er : r2 = r1 := by
    rcases d1 with ⟨a1, a2, a3⟩ | ⟨a1, a2⟩ <;> rcases d2 with ⟨b1, b2, b3⟩ | ⟨b1, b2⟩
    · exact grd_u b3 a3
    · exact absurd ⟨a1, a2⟩ b1
    · exact absurd ⟨b1, b2⟩ a1
    · omega
  rw [er]
  exact k2 s2 ⟨_, I, L, Inv_ask h0 f2 rfl rfl (fun z _ => congrFun (f2.g 56 rfl) z) (fun z _ => (congrFun (f2.g 123 rfl) z).trans (congrFun hA z))⟩
theorem p_told {w k : Int} (g : GI s) (r : (-2147483648 ≤ w ∧ w < 2147483648) ∧ (-2147483648 ≤ k ∧ k < 2147483648)) : Pair X (d + 60) 137 [.ref 5, .int (iI w), .int (iI k)] 237 [.ref 122, .int (iI w), .int (iI k)] s := by
  obtain ⟨A, I, L, h0⟩ := g
  obtain ⟨hO, hL, hC⟩ := Inv_law h0
  have h1 := h0
  obtain ⟨hA, _, W, WI, wy, wyi, hI, hK, _, hLI, hT, hF⟩ := h1
  have w0 := W.1.1
  unfold W0 at w0
  have gk := gok_of W.1
  intro Q1 k1
  exact c_told hI W r.2 r.1 (k1 _ s fun Q2 k2 => m_told hA W r.2 r.1 (k2 s ⟨A, I, L, h0⟩))
theorem p_fault {w : Int} (g : GI s) (r : (-2147483648 ≤ w ∧ w < 2147483648)) : Pair X (d + 60) 131 [.ref 5, .int (iI w)] 212 [.ref 122, .int (iI w)] s := by
  obtain ⟨A, I, L, h0⟩ := g
  obtain ⟨hO, hL, hC⟩ := Inv_law h0
  have h1 := h0
  obtain ⟨hA, _, W, WI, wy, wyi, hI, hK, _, hLI, hT, hF⟩ := h1
  have w0 := W.1.1
  unfold W0 at w0
  have gk := gok_of W.1
  intro Q1 k1
  exact c_fault hF r (k1 _ s fun Q2 k2 => m_fault r (k2 s ⟨A, I, L, h0⟩))
theorem p_about {w : Int} (g : GI s) (r : (-2147483648 ≤ w ∧ w < 2147483648)) : Pair X (d + 60) 154 [.ref 5, .int (iI w), .float 0] 264 [.ref 122, .int (iI w), .float 0] s := by
  obtain ⟨A, I, L, h0⟩ := g
  obtain ⟨hO, hL, hC⟩ := Inv_law h0
  have h1 := h0
  obtain ⟨hA, _, W, WI, wy, wyi, hI, hK, _, hLI, hT, hF⟩ := h1
  have w0 := W.1.1
  unfold W0 at w0
  have gk := gok_of W.1
  intro Q1 k1
  have e3 : s 122003 0 = s 6004 0 := hT.1.symm
  refine c_about hI W hT.2.1 r (k1 _ s fun Q2 k2 => ?_)
  refine m_about hA W (by rw [e3]; exact hT.2.1) r ?_
  rw [e3]
  exact k2 s ⟨A, I, L, h0⟩
theorem p_feed {a b c e f : Int} (g : GI s) (r : (-2147483648 ≤ a ∧ a < 2147483648) ∧ (-2147483648 ≤ b ∧ b < 2147483648) ∧ (-2147483648 ≤ c ∧ c < 2147483648) ∧ (-2147483648 ≤ e ∧ e < 2147483648) ∧ (-2147483648 ≤ f ∧ f < 2147483648)) : Pair X (d + 60) 128 [.ref 5, .int (iI a), .int (iI b), .int (iI c), .int (iI e), .int (iI f)] 185 [.ref 122, .int (iI a), .int (iI b), .int (iI c), .int (iI e), .int (iI f)] s := by
  obtain ⟨A, I, L, h0⟩ := g
  obtain ⟨hO, hL, hC⟩ := Inv_law h0
  have h1 := h0
  obtain ⟨hA, _, W, WI, wy, wyi, hI, hK, _, hLI, hT, hF⟩ := h1
  have w0 := W.1.1
  unfold W0 at w0
  have gk := gok_of W.1
  intro Q1 k1
  have e0 : s 122003 0 = s 6004 0 := hT.1.symm
  refine c_feed hT.2.1 (fun q => k1 _ s fun Q2 k2 => ?_) (fun q s1 f1 t1 => k1 _ s1 fun Q2 k2 => ?_)
  · exact m_feed (by rw [e0]; exact hT.2.1) (fun _ => k2 s ⟨A, I, L, h0⟩) (fun q2 => absurd (by rw [← e0]; exact q2) q)
  · have e3 : s1 122003 0 = s 6004 0 := (congrFun (f1.g 122003 rfl) 0).trans e0
    refine m_feed (by rw [e3]; exact hT.2.1) (fun q2 => absurd (by rw [e3]; exact q) q2) (fun q2 s2 f2 t2 => ?_)
    rw [e3] at t2
    rw [e3]
    exact k2 s2 ⟨A, I, L, Inv_tape h0 ((f1.up rfl).tr (f2.up rfl)) (Tp_feed hT q f1 t1 f2 t2)⟩
theorem p_end {w : Int} (g : GI s) (r : (-2147483648 ≤ w ∧ w < 2147483648)) : Pair X (d + 60) 129 [.ref 5, .int (iI w)] 186 [.ref 122, .int (iI w)] s := by
  obtain ⟨A, I, L, h0⟩ := g
  obtain ⟨hO, hL, hC⟩ := Inv_law h0
  have h1 := h0
  obtain ⟨hA, _, W, WI, wy, wyi, hI, hK, _, hLI, hT, hF⟩ := h1
  have w0 := W.1.1
  unfold W0 at w0
  have gk := gok_of W.1
  intro Q1 k1
  have e0 : s 122003 0 = s 6004 0 := hT.1.symm
  refine c_end hT.2.1 r (fun q => k1 _ _ fun Q2 k2 => ?_) (fun q => k1 _ s fun Q2 k2 => ?_)
  · have e3 : u s 6004 (fun _ => w) 122003 0 = s 6004 0 := e0
    refine m_end (by rw [e3]; exact hT.2.1) r (fun q2 => k2 _ ⟨A, I, L, Inv_tape h0 (((Fr.rf s).u rfl).u rfl) ⟨rfl, ?_, fun i i0 i1 => ?_⟩⟩) (fun q2 => absurd (by rw [e3]; exact q) q2)
    · have := hT.2.1
      show 0 ≤ w ∧ w ≤ 300
      omega
    · have i1 : i < w := i1
      exact hT.2.2 i i0 (by omega)
  · exact m_end (by rw [e0]; exact hT.2.1) r (fun q2 => absurd (by rw [← e0]; exact q2) q) (fun _ => k2 s ⟨A, I, L, h0⟩)
theorem p_year (g : GI s) : Pair X (d + 60) 136 [.ref 5] 236 [.ref 122, .float 0, .float 0, .float 0] s := by
  obtain ⟨A, I, L, h0⟩ := g
  obtain ⟨hO, hL, hC⟩ := Inv_law h0
  have h1 := h0
  obtain ⟨hA, _, W, WI, wy, wyi, hI, hK, _, hLI, hT, hF⟩ := h1
  have w0 := W.1.1
  unfold W0 at w0
  have gk := gok_of W.1
  intro Q1 k1
  have yb := (year_b (l := Lw L (A 5)) (n := A 3) W.1 (by omega) W.2).1
  refine c_year hI hL hO W fun s1 f1 rc => k1 _ s1 fun Q2 k2 => ?_
  have hA1 : s1 123 = A := (f1.g 123 rfl).trans hA
  have hC1 : curM s1 (Lw L (A 5)) := curM_fr f1 rfl (congrFun (f1.g 123 rfl) 5) hC
  refine m_year hA1 hC1 hO W fun s2 f2 yw => ?_
  have i1 := ic_year W (IC0_fr f1 rfl hI.1) ((congrFun (f1.g 48008 rfl) 0).trans hI.2.1) (fun o o0 o1 => cO_cg (q := 0) (f1.g 56 rfl) (hI.2.2.1 o o0 o1)) rc yw yb
  exact k2 s2 ⟨_, I, L, Inv_told h0 f1 rfl rfl rfl rfl i1 (wf_year W yw yb) (yw.2.2.2 4 (fun o _ _ => by omega) (fun k _ _ => by omega) (fun b _ _ => by omega)) (f2.up rfl) rfl⟩
theorem p_rounds (g : GI s) : Pair X (d + 60) 140 [.ref 5, .float 0, .float 0, .float 0, .float 0] 242 [.ref 122, .float 0, .float 0, .float 0, .float 0, .float 0] s := by
  obtain ⟨A, I, L, h0⟩ := g
  obtain ⟨hO, hL, hC⟩ := Inv_law h0
  have h1 := h0
  obtain ⟨hA, _, W, WI, wy, wyi, hI, hK, _, hLI, hT, hF⟩ := h1
  have w0 := W.1.1
  unfold W0 at w0
  have gk := gok_of W.1
  intro Q1 k1
  refine c_rounds hI hL hO W fun s1 B1 r1 f1 o1 g1 e1 => k1 _ s1 fun Q2 k2 => ?_
  have hA1 : s1 123 = A := (f1.g 123 rfl).trans hA
  have hC1 : curM s1 (Lw L (A 5)) := curM_fr f1 rfl (congrFun (f1.g 123 rfl) 5) hC
  refine m_rounds (A0 := A) W.1.1 hC1 hO (congrFun hA1 5) (fun s2 B2 r2 f2 e2 _ e3 => ?_) hA1 (GA.rf W.1 W.2)
  have er := e3.trans e1.symm
  have er1 : r2 = r1 := congrArg Prod.fst er
  have er2 : B2 = B1 := congrArg Prod.snd er
  subst er1
  subst er2
  have i1 := ic_rounds W (IC0_fr f1 rfl hI.1) ((congrFun (f1.g 48008 rfl) 0).trans hI.2.1) (cY_cg (q := 0) ⟨f1.g 61 rfl, f1.g 62 rfl, f1.g 63 rfl, f1.g 64 rfl, f1.g 65 rfl⟩ hI.2.2.2) o1 g1
  have wf := wf_rounds W wy g1
  exact k2 s2 ⟨_, I, L, Inv_told h0 f1 rfl rfl rfl rfl i1 wf.1 wf.2 (f2.up rfl) e2⟩
theorem p_image (g : GI s) : Pair X (d + 60) 152 [.ref 5] 262 [.ref 122] s := by
  obtain ⟨A, I, L, h0⟩ := g
  obtain ⟨hO, hL, hC⟩ := Inv_law h0
  have h1 := h0
  obtain ⟨hA, _, W, WI, wy, wyi, hI, hK, _, hLI, hT, hF⟩ := h1
  have w0 := W.1.1
  unfold W0 at w0
  have gk := gok_of W.1
  intro Q1 k1
  have e5 : s 55004 0 = A 3 := hI.1.1.2.2.2.1
  refine c_image fun s1 f1 cp => k1 _ s1 fun Q2 k2 => ?_
  have hA1 : s1 123 = A := (f1.g 123 rfl).trans hA
  rw [e5] at k2
  refine m_image ?_
  rw [hA1]
  have f2 : Fr [124] s1 (u s1 124 (cpF A (s1 124) 570)) := (Fr.rf s1).u rfl
  have f : Fr [67004, 69004, 71004, 73004, 75004, 66007, 66008, 68, 70, 72, 74, 76, 77, 79, 80, 81, 82, 83, 124] s (u s1 124 (cpF A (s1 124) 570)) := (f1.up rfl).tr (f2.up rfl)
  have ec : ∀ z, 0 ≤ z → z < 570 → cpF A (s1 124) 570 z = A z := fun z z0 z1 => cpF_i z0 z1
  have wf := WF_cp W wy ec
  refine k2 _ ⟨A, cpF A (s1 124) 570, L, (f.g 123 rfl).trans hA, u_eq _ _ _, W, wf.1, wy, wf.2, ⟨IC0_fr f rfl hI.1, (congrFun (f.g 48008 rfl) 0).trans hI.2.1, fun o o0 o1 => cO_cg (q := 0) (f.g 56 rfl) (hI.2.2.1 o o0 o1), cY_cg (q := 0) ⟨f.g 61 rfl, f.g 62 rfl, f.g 63 rfl, f.g 64 rfl, f.g 65 rfl⟩ hI.2.2.2⟩, IC18_fr f2 rfl (IC_cp W hI cp ec), by rw [ec 4 (by omega) (by omega)]; exact Int.le_refl _, LI_fr f rfl rfl hLI, ?_, ?_⟩
  · unfold Tp
    rw [f.g 6004 rfl, f.g 122003 rfl, f.g 7 rfl, f.g 125 rfl]
    exact hT
  · unfold Fl
    rw [f.g 16000 rfl, f.g 16001 rfl, f.g 16002 rfl, f.g 122004 rfl, f.g 122005 rfl]
    exact hF
theorem p_back (g : GI s) : Pair X (d + 60) 153 [.ref 5] 263 [.ref 122] s := by
  obtain ⟨A, I, L, h0⟩ := g
  obtain ⟨hO, hL, hC⟩ := Inv_law h0
  have h1 := h0
  obtain ⟨hA, _, W, WI, wy, wyi, hI, hK, _, hLI, hT, hF⟩ := h1
  have w0 := W.1.1
  unfold W0 at w0
  have gk := gok_of W.1
  intro Q1 k1
  have h0' := h0
  obtain ⟨_, hI2, _, _, _, _, _, _, h4, _, _, _⟩ := h0'
  have e5 : s 73004 0 = I 3 := hK.1.1.2.2.2.1
  refine c_back fun s1 f1 cp => k1 _ s1 fun Q2 k2 => ?_
  have hI1 : s1 124 = I := (f1.g 124 rfl).trans hI2
  rw [e5] at k2
  refine m_back ?_
  rw [hI1]
  have f2 : Fr [123] s1 (u s1 123 (cpF I (s1 123) 570)) := (Fr.rf s1).u rfl
  have f : Fr [49004, 51004, 53004, 55004, 57004, 48007, 48008, 50, 52, 54, 56, 58, 59, 61, 62, 63, 64, 65, 123] s (u s1 123 (cpF I (s1 123) 570)) := (f1.up rfl).tr (f2.up rfl)
  have ec : ∀ z, 0 ≤ z → z < 570 → cpF I (s1 123) 570 z = I z := fun z z0 z1 => cpF_i z0 z1
  have wf := WF_cp WI wyi ec
  have i1 := IC_cp WI hK cp ec
  have w4 := WI.1.1.2.2.2.2.1
  refine k2 _ ⟨cpF I (s1 123) 570, I, L, u_eq _ _ _, (f.g 124 rfl).trans hI2, wf.1, WI, wf.2, wyi, i1, IC18_fr f rfl hK, by rw [ec 4 (by omega) (by omega)]; exact Int.le_refl _, ?_, ?_, ?_⟩
  · rw [ec 4 (by omega) (by omega)]
    have li := LI_fr f rfl rfl hLI
    exact ⟨li.1, fun t t0 t1 => li.2 t t0 (by omega)⟩
  · unfold Tp
    rw [f.g 6004 rfl, f.g 122003 rfl, f.g 7 rfl, f.g 125 rfl]
    exact hT
  · unfold Fl
    rw [f.g 16000 rfl, f.g 16001 rfl, f.g 16002 rfl, f.g 122004 rfl, f.g 122005 rfl]
    exact hF
theorem p_text (g : GI s) : Pair X (d + 60) 130 [.ref 5, .float 0, .float 0] 210 [.ref 122] s := by
  obtain ⟨A, I, L, h0⟩ := g
  obtain ⟨hO, hL, hC⟩ := Inv_law h0
  have h1 := h0
  obtain ⟨hA, _, W, WI, wy, wyi, hI, hK, _, hLI, hT, hF⟩ := h1
  have w0 := W.1.1
  unfold W0 at w0
  have gk := gok_of W.1
  intro Q1 k1
  have hB : TB s (s 7) (s 6004 0) := ⟨rfl, rfl, hT.2.1, fun i i0 i1 => (hT.2.2 i i0 i1).1⟩
  have e7 : s 48007 0 = A 4 := hI.1.1.2.2.2.2.2
  have a4 : 0 ≤ A 4 ∧ A 4 ≤ 6 := by omega
  refine c_text e7 a4 hB (fun c => k1 _ s fun Q2 k2 => ?_) (fun T s1 c z f1 a0 a1 a2 hlC hlO hT2 T1 b4 b7 => k1 _ s1 fun Q2 k2 => ?_) (fun T s1 c z f1 a0 a1 a2 hT2 T1 b4 b7 => k1 _ s1 fun Q2 k2 => ?_)
  · exact m_text (B := s 7) (n := s 6004 0) (T := 0) (fun i i0 i1 => hT.2.2 i i0 i1) hT.1.symm hT.2.1 (congrFun hA 4) a4 (fun c2 => by omega) (fun _ => k2 s ⟨A, I, L, h0⟩) (fun c2 => by omega) (fun c2 => by omega)
  · have F1 := FX_fr (lq_L _) f1
    have hA1 : s1 123 = A := (F1.g 123 rfl).trans hA
    refine m_text (B := s 7) (n := s 6004 0) (T := T) (fun i i0 i1 => by rw [F1.g 125 rfl]; exact hT.2.2 i i0 i1) ((congrFun (F1.g 122003 rfl) 0).trans hT.1.symm) hT.2.1 (congrFun hA1 4) a4 (fun _ => ⟨hT2, T1⟩) (fun c2 => by omega) (fun _ _ s2 f2 e123 lm lo t3 w4 w5 => ?_) (fun _ z2 => absurd z z2)
    have e6 : s2 6004 0 = 0 := (congrFun (f2.g 6004 rfl) 0).trans b4
    have e77 : s2 48007 0 = A 4 + 1 := (congrFun (f2.g 48007 rfl) 0).trans b7
    refine k2 s2 ⟨up A 4 (A 4 + 1), I, fun y => if y = A 4 then (pTx (kd (s 7) (s 6004 0)) (nu (s 7) (s 6004 0)) 11 0 []).2.2 else L y, Inv_text h0 ⟨rfl, c⟩ f1 f2 (by rw [e123, hA1]) (fun y hy => up_ne hy) (by rw [up_eq rfl]; omega) ⟨e6, t3⟩ (by rw [up_eq rfl]; exact e77) (Or.inr ⟨(congrFun (f2.g 16000 rfl) 0).trans a0, by rw [f2.g 16001 rfl, a1, w4], by rw [f2.g 16002 rfl, a2, w5]⟩) (fun c11 all => ?_)⟩
    rw [up_eq rfl]
    refine ⟨c11, fun t2 q0 q1 => ?_⟩
    dsimp only
    by_cases c2 : t2 = A 4
    · rw [if_pos c2, c2]
      exact ⟨hlO, lC_fr f2 rfl (lq_L _) hlC, lm⟩
    · rw [if_neg c2]
      obtain ⟨p1, p2, p3⟩ := all t2 q0 (by omega)
      exact ⟨p1, p2, lo t2 _ ⟨q0, c2⟩ p3 p1.1⟩
  · have F1 := FX_fr (lq_L _) f1
    have hA1 : s1 123 = A := (F1.g 123 rfl).trans hA
    refine m_text (B := s 7) (n := s 6004 0) (T := T) (fun i i0 i1 => by rw [F1.g 125 rfl]; exact hT.2.2 i i0 i1) ((congrFun (F1.g 122003 rfl) 0).trans hT.1.symm) hT.2.1 (congrFun hA1 4) a4 (fun _ => ⟨hT2, T1⟩) (fun c2 => by omega) (fun _ z2 => absurd z2 z) (fun _ _ s2 f2 e123 em t3 w4 w5 => ?_)
    have e6 : s2 6004 0 = 0 := (congrFun (f2.g 6004 rfl) 0).trans b4
    have e77 : s2 48007 0 = A 4 := (congrFun (f2.g 48007 rfl) 0).trans b7
    refine k2 s2 ⟨A, I, L, Inv_text h0 ⟨rfl, c⟩ f1 f2 (e123.trans hA1) (fun y _ => rfl) (by omega) ⟨e6, t3⟩ e77 (Or.inr ⟨(congrFun (f2.g 16000 rfl) 0).trans a0, by rw [f2.g 16001 rfl, a1, w4], by rw [f2.g 16002 rfl, a2, w5]⟩) (fun c11 all => ⟨c11, fun t2 q0 q1 => ?_⟩)⟩
    obtain ⟨p1, p2, p3⟩ := all t2 q0 q1
    exact ⟨p1, p2, lM_cg em p3⟩
end PR
