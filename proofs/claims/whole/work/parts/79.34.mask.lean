/-! PARSING, the reference follows asks, ands, ors -/
section SA
variable {d : Nat} {X : hX} {s s1 s2 : sg} {Q : Option Value → aH → Prop} {n w T : Int} {B : Int → Int}
def SimAsk (X : hX) (d : Nat) (Q : Option Value → aH → Prop) (B : Int → Int) (n w T : Int) (e : Nat) : Prop := ∀ (k : Nat) (q : Int × Int) (F W : List (Int × Int)) (s : sg) (c : opl) (j : Int), MTK s B n j → j ≤ T → MR s (List.replicate k (3, 0) ++ q :: F) W (8 - e) c → s 122025 0 = 0 → s 122027 0 = w → (¬ q.1 = 3 ∧ 1 ≤ q.1 ∧ q.1 ≤ 7) → k + F.length + 2 + e ≤ 10 → (W.length : Int) ≤ 2 * (F.length + 1) → WOK (F.length + 1) W → (c.length : Int) + W.length + (k + F.length + 1) ≤ j + 1 →
  ((pAsk (kd B n) (nu B n) w e j).1 = 0 → ∀ s', Fr ML s s' → MTK s' B n (pAsk (kd B n) (nu B n) w e j).2.1 → MR s' (q :: F) W (8 - e - k) (c ++ (pAsk (kd B n) (nu B n) w e j).2.2 ++ List.replicate k (405, 0)) → s' 122025 0 = 3 → At X d Q s') → kEr X d Q B n s (pAsk (kd B n) (nu B n) w e j) → At X d Q s
theorem sim_cmp (hnn : 0 ≤ n) (hT : kd B n T = 16 ∧ 0 ≤ T ∧ T ≤ 300) (hw4 : 0 ≤ w ∧ w ≤ 4) {e : Nat} (he : e ≤ 8) {k : Nat} {q : Int × Int} {F W : List (Int × Int)} {c : opl} {j : Int} {r : prr} (er0 : r = pCmp (kd B n) (pSum (kd B n) (pOne (kd B n) (nu B n) w e)) j) (c13 : ¬ kd B n j = 13) (T0 : MTK s B n j) (jT : j ≤ T) (M : MR s (List.replicate k (3, 0) ++ q :: F) W (8 - e) c) (h25 : s 122025 0 = 0) (h27 : s 122027 0 = w) (hq : ¬ q.1 = 3 ∧ 1 ≤ q.1 ∧ q.1 ≤ 7) (hF : k + F.length + 2 + e ≤ 10) (hW : (W.length : Int) ≤ 2 * (F.length + 1)) (hWK : WOK (F.length + 1) W) (hphi : (c.length : Int) + W.length + (k + F.length + 1) ≤ j + 1)
    (kS : r.1 = 0 → ∀ s', Fr ML s s' → MTK s' B n r.2.1 → MR s' (q :: F) W (8 - e - k) (c ++ r.2.2 ++ List.replicate k (405, 0)) → s' 122025 0 = 3 → At X d Q s') (kE : kEr X d Q B n s r) : At X d Q s := by
  have j0 := T0.2.2.2.2
  have gS1 := pSum_g (K := kd B n) (pOne_g (K := kd B n) w (nu_p (B := B) hnn) e)
  have SS : SimL X d Q B n w T e (pSum (kd B n) (pOne (kd B n) (nu B n) w e)) 3 2 (fun k => ¬ isOp k) 1 2 := sim_sum hnn hT (sim_prod hnn hT (sim_one hnn hT hw4 e he))
  generalize pSum (kd B n) (pOne (kd B n) (nu B n) w e) = sm at *
  have lf : (List.replicate k ((3 : Int), (0 : Int)) ++ q :: F).length = k + F.length + 1 := by simp; omega
  obtain ⟨g1, g2, _⟩ := gS1 j j0
  have gT := Gd_T gS1 j0 hT.1 jT
  refine at_0 M.1 h25 fun Q' hQ => ?_
  refine n_left T0 c13 M (by omega) fun s1 f1 T1 M1 h251 => hQ s1 ?_
  refine SS (4, 0) (List.replicate k (3, 0) ++ q :: F) W s1 c j T1 jT M1 h251 (by rw [f1.g 122027 rfl]; exact h27) (by show ¬ (4 : Int) = 7 ∧ ¬ (4 : Int) = 3 ∧ 1 ≤ (4 : Int) ∧ (4 : Int) ≤ 7; omega) (by omega) (by omega) (WOK_up hWK (by omega)) (WOK_low hWK (by omega) (by omega)) (by omega) (fun z s2 p2 e2 f2 T2 M2 he2 hp2 hl2 hx2 h252 => ?_) (fun z s2 f2 h16 h17 => ?_)
  · obtain ⟨g3, g4, _⟩ := g2 z
    have lc : (e2.length : Int) + p2.length = c.length + (sm j).2.2.length := by
      have q := congrArg List.length he2
      simp at q
      omega
    refine at_2 M2.1 h252 fun Q' hQ => ?_
    by_cases cc : isCK (kd B n (sm j).2.1)
    · have jT2 : (sm j).2.1 < T := by
        by_cases x : (sm j).2.1 = T
        · rw [x, hT.1] at cc; unfold isCK at cc; omega
        · omega
      refine g_cmp T2 cc M2 hp2 (WOK_low hWK (by simp; omega) (by simp; omega)) ⟨by omega, by omega, by omega⟩ fun s3 f3 T3 M3 h253 => hQ s3 ?_
      rw [he2] at M3
      obtain ⟨i1, i2, _⟩ := gS1 ((sm j).2.1 + 1) (by omega)
      have iT := Gd_T gS1 (show 0 ≤ (sm j).2.1 + 1 by omega) hT.1 (by omega)
      refine SS (5, sgT (kd B n (sm j).2.1)) (List.replicate k (3, 0) ++ q :: F) W s3 (c ++ (sm j).2.2) ((sm j).2.1 + 1) T3 (by omega) M3 h253 (by rw [f3.g 122027 rfl, f2.g 122027 rfl, f1.g 122027 rfl]; exact h27) (by show ¬ (5 : Int) = 7 ∧ ¬ (5 : Int) = 3 ∧ 1 ≤ (5 : Int) ∧ (5 : Int) ≤ 7; omega) (by omega) (by omega) (WOK_up hWK (by omega)) (WOK_low hWK (by omega) (by omega)) (by simp; omega) (fun z2 s4 p4 e4 f4 T4 M4 he4 hp4 hl4 hx4 h254 => ?_) (fun z2 s4 f4 h16 h17 => ?_)
      · obtain ⟨i3, i4, _⟩ := i2 z2
        have er : r = (0, (sm ((sm j).2.1 + 1)).2.1, (sm j).2.2 ++ (sm ((sm j).2.1 + 1)).2.2 ++ [(sgT (kd B n (sm j).2.1), 0)]) := by rw [er0]; unfold pCmp; rw [if_pos z, if_pos cc, if_pos z2]
        have lc4 : (e4.length : Int) + p4.length = c.length + (sm j).2.2.length + (sm ((sm j).2.1 + 1)).2.2.length := by
          have q := congrArg List.length he4
          simp at q
          omega
        rw [er] at kS
        refine at_2 M4.1 h254 fun Q' hQ => ?_
        refine g_right T4 hx4 hq M4 hp4 (WOK_low hWK (by simp; omega) (by simp; omega)) ⟨by omega, by omega, by omega⟩ (by omega) fun s5 f5 T5 M5 h255 => hQ s5 ?_
        refine kS rfl s5 ((((f1.tr f2).tr f3).tr f4).tr f5) T5 ?_ h255
        rw [he4] at M5
        have ec : c ++ ((sm j).2.2 ++ (sm ((sm j).2.1 + 1)).2.2 ++ [(sgT (kd B n (sm j).2.1), 0)]) = c ++ (sm j).2.2 ++ (sm ((sm j).2.1 + 1)).2.2 ++ [(sgT (kd B n (sm j).2.1), 0)] := by simp
        show MR s5 (q :: F) W (8 - (e : Int) - k) (c ++ ((sm j).2.2 ++ (sm ((sm j).2.1 + 1)).2.2 ++ [(sgT (kd B n (sm j).2.1), 0)]) ++ List.replicate k ((405 : Int), (0 : Int)))
        rw [ec]
        exact M5
      · have er : r = ((sm ((sm j).2.1 + 1)).1, (sm ((sm j).2.1 + 1)).2.1, []) := by rw [er0]; unfold pCmp; rw [if_pos z, if_pos cc, if_neg z2]
        exact kE (by rw [er]; exact z2) s4 (((f1.tr f2).tr f3).tr f4) (by rw [er]; exact h16) (by rw [er]; exact h17)
    · have er : r = (1, (sm j).2.1, []) := by rw [er0]; unfold pCmp; rw [if_pos z, if_neg cc]
      refine g_err T2 hx2 M2 (by omega) (Or.inr (Or.inl ⟨rfl, cc⟩)) fun s4 f4 h16 h17 => hQ s4 ?_
      exact kE (by rw [er]; show ¬ (1 : Int) = 0; omega) s4 ((f1.tr f2).tr f4) (by rw [er]; exact h16) (by rw [er]; exact h17)
  · have er : r = ((sm j).1, (sm j).2.1, []) := by rw [er0]; unfold pCmp; rw [if_neg z]
    exact kE (by rw [er]; exact z) s2 (f1.tr f2) (by rw [er]; exact h16) (by rw [er]; exact h17)
theorem sim_ask (hnn : 0 ≤ n) (hT : kd B n T = 16 ∧ 0 ≤ T ∧ T ≤ 300) (hw4 : 0 ≤ w ∧ w ≤ 4) : ∀ e : Nat, e ≤ 8 → SimAsk X d Q B n w T e
  | 0, he => by
    intro k q F W s c j T0 jT M h25 h27 hq hF hW hWK hphi kS kE
    by_cases c13 : kd B n j = 13
    · have er : pAsk (kd B n) (nu B n) w 0 j = (3, j, []) := by rw [pAsk, if_pos c13]
      have lf : (List.replicate k ((3 : Int), (0 : Int)) ++ q :: F).length = k + F.length + 1 := by simp; omega
      have e8 : (8 : Int) - ((0 : Nat) : Int) = 8 := rfl
      rw [e8] at M
      refine at_0 M.1 h25 fun Q' hQ => ?_
      exact n_not T0 c13 M (by omega) (by omega) (fun h => absurd h (by omega)) (fun _ s' f' h16 h17 => hQ s' (kE (by rw [er]; show ¬ (3 : Int) = 0; omega) s' f' (by rw [er]; exact h16) (by rw [er]; exact h17)))
    · exact sim_cmp hnn hT hw4 he (by rw [pAsk, if_neg c13]) c13 T0 jT M h25 h27 hq hF hW hWK hphi kS kE
  | e + 1, he => by
    intro k q F W s c j T0 jT M h25 h27 hq hF hW hWK hphi kS kE
    by_cases c13 : kd B n j = 13
    · have lf : (List.replicate k ((3 : Int), (0 : Int)) ++ q :: F).length = k + F.length + 1 := by simp; omega
      have j0 := T0.2.2.2.2
      have jT2 : j < T := by
        by_cases x : j = T
        · rw [x, hT.1] at c13; omega
        · omega
      have ee : (8 : Int) - ((e + 1 : Nat) : Int) + 1 = 8 - e := by omega
      refine at_0 M.1 h25 fun Q' hQ => ?_
      refine n_not T0 c13 M (by omega) (by omega) (fun _ s2 f2 h252 T2 M2 => hQ s2 ?_) (fun h => by omega)
      rw [ee] at M2
      refine sim_ask hnn hT hw4 e (by omega) (k + 1) q F W s2 c (j + 1) T2 (by omega) M2 (by rw [h252]; exact h25) (by rw [f2.g 122027 rfl]; exact h27) hq (by omega) hW hWK (by omega) (fun z s3 f3 T3 M3 h253 => ?_) (fun z s3 f3 h16 h17 => ?_)
      · have er : pAsk (kd B n) (nu B n) w (e + 1) j = (0, (pAsk (kd B n) (nu B n) w e (j + 1)).2.1, (pAsk (kd B n) (nu B n) w e (j + 1)).2.2 ++ [(405, 0)]) := by rw [pAsk, if_pos c13, if_pos z]
        rw [er] at kS
        refine kS rfl s3 (f2.tr f3) T3 ?_ h253
        have eo : (8 : Int) - ((e + 1 : Nat) : Int) - k = 8 - e - ((k + 1 : Nat) : Int) := by omega
        have ec : c ++ ((pAsk (kd B n) (nu B n) w e (j + 1)).2.2 ++ [(405, 0)]) ++ List.replicate k ((405 : Int), (0 : Int)) = c ++ (pAsk (kd B n) (nu B n) w e (j + 1)).2.2 ++ List.replicate (k + 1) (405, 0) := by simp [List.replicate_succ]
        show MR s3 (q :: F) W (8 - ((e + 1 : Nat) : Int) - k) (c ++ ((pAsk (kd B n) (nu B n) w e (j + 1)).2.2 ++ [(405, 0)]) ++ List.replicate k ((405 : Int), (0 : Int)))
        rw [eo, ec]
        exact M3
      · have er : pAsk (kd B n) (nu B n) w (e + 1) j = ((pAsk (kd B n) (nu B n) w e (j + 1)).1, (pAsk (kd B n) (nu B n) w e (j + 1)).2.1, []) := by rw [pAsk, if_pos c13, if_neg z]
        exact kE (by rw [er]; exact z) s3 (f2.tr f3) (by rw [er]; exact h16) (by rw [er]; exact h17)
    · exact sim_cmp hnn hT hw4 he (by rw [pAsk, if_neg c13]) c13 T0 jT M h25 h27 hq hF hW hWK hphi kS kE
/-- ands, ors: in the one frame of a bars clause -/
def SimB (X : hX) (d : Nat) (Q : Option Value → aH → Prop) (B : Int → Int) (n w T : Int) (sub : Int → prr) (r : Int) (m : Nat) (ex : Int → Prop) : Prop := ∀ (W : List (Int × Int)) (s : sg) (c : opl) (j : Int), MTK s B n j → j ≤ T → MR s [(2, 0)] W 0 c → s 122025 0 = 0 → s 122027 0 = w → (W.length : Int) + m ≤ 2 → WOK 1 W → Low r 1 W → (c.length : Int) + W.length + 1 ≤ j + 1 →
  ((sub j).1 = 0 → ∀ (s' : sg) (p : List Int) (e' : opl), Fr ML s s' → MTK s' B n (sub j).2.1 → MR s' [(2, 0)] (p.map (fun o => (o, (1 : Int))) ++ W) 0 e' → e' ++ p.map (fun o => (o, 0)) = c ++ (sub j).2.2 → (∀ o ∈ p, r ≤ rkk o ∧ (-2147483648 ≤ o ∧ o < 2147483648)) → p.length ≤ m → ex (kd B n (sub j).2.1) → s' 122025 0 = 3 → At X d Q s') → kEr X d Q B n s (sub j) → At X d Q s
theorem sim_both (hnn : 0 ≤ n) (hT : kd B n T = 16 ∧ 0 ≤ T ∧ T ≤ 300) (hw4 : 0 ≤ w ∧ w ≤ 4) : SimB X d Q B n w T (pBoth (kd B n) (nu B n) w) 2 1 (fun k => ¬ k = 12) := by
  have S := sim_ask (X := X) (d := d) (Q := Q) hnn hT hw4 8 (by omega)
  have g := pAsk_g (K := kd B n) w (nu_p (B := B) hnn) 8
  have er0 : pBoth (kd B n) (nu B n) w = pLoop (kd B n) (fun k => k = 12) (pAsk (kd B n) (nu B n) w 8) (fun _ => 406) := rfl
  rw [er0]
  unfold SimAsk at S
  generalize pAsk (kd B n) (nu B n) w 8 = sub at *
  intro W s c j T0 jT M h25 h27 hW hWK hL hphi kS kE
  have j0 := T0.2.2.2.2
  have hw : ∀ s', Fr ML s s' → s' 122027 0 = w := fun s' f' => by rw [f'.g 122027 rfl]; exact h27
  have e8 : (8 : Int) - ((8 : Nat) : Int) = 0 := rfl
  have loop : ∀ (f : Nat) (j1 : Int) (c1 e1 : opl) (p : List Int) (s1 : sg), 300 ≤ f + j1 → (j < j1 ∧ j1 ≤ T) → Fr ML s s1 → MTK s1 B n j1 → MR s1 [(2, 0)] (p.map (fun o => (o, (1 : Int))) ++ W) 0 e1 → e1 ++ p.map (fun o => (o, 0)) = c ++ c1 → (∀ o ∈ p, 2 ≤ rkk o ∧ (-2147483648 ≤ o ∧ o < 2147483648)) → p.length ≤ 1 → (c1.length : Int) ≤ j1 - j → s1 122025 0 = 3 → pLp (kd B n) (fun k => k = 12) sub (fun _ => 406) f j1 c1 = pLoop (kd B n) (fun k => k = 12) sub (fun _ => 406) j → At X d Q s1 := by
    intro f
    induction f with
    | zero =>
      intro j1 c1 e1 p s1 hf hj1 fr T1 M1 he hp1 hpl hcl h251 hr
      have ej : j1 = T := by omega
      have er : pLoop (kd B n) (fun k => k = 12) sub (fun _ => 406) j = (0, j1, c1) := hr.symm
      rw [er] at kS
      exact kS rfl s1 p e1 fr T1 M1 he hp1 hpl (by show ¬ kd B n j1 = 12; rw [ej, hT.1]; omega) h251
    | succ f ih =>
      intro j1 c1 e1 p s1 hf hj1 fr T1 M1 he hp1 hpl hcl h251 hr
      rw [pLp] at hr
      have lc : (e1.length : Int) + p.length = c.length + c1.length := by
        have q := congrArg List.length he
        simp at q
        omega
      by_cases cm : kd B n j1 = 12
      · rw [if_pos cm] at hr
        have nT : ¬ j1 = T := fun x => by rw [x, hT.1] at cm; omega
        have rk : rkk 406 = 2 := by decide
        refine at_3 M1.1 h251 fun Q' hQ => ?_
        refine a_op (o := 406) T1 (Or.inl ⟨cm, rfl⟩) (F := [(2, 0)]) M1 (by rw [rk]; exact hp1) (by rw [rk]; exact hL) ⟨by simp, by omega, by omega⟩ fun s2 f2 T2 M2 h252 => hQ s2 ?_
        rw [he] at M2
        obtain ⟨g1, g2, _⟩ := g (j1 + 1) (by omega)
        have gT := Gd_T g (show 0 ≤ j1 + 1 by omega) hT.1 (by omega)
        refine S 0 (2, 0) [] ((406, 1) :: W) s2 (c ++ c1) (j1 + 1) T2 (by omega) M2 h252 (hw s2 (fr.tr f2)) (by show ¬ (2 : Int) = 3 ∧ 1 ≤ (2 : Int) ∧ (2 : Int) ≤ 7; omega) (by simp) (by simp; omega) (WOK_cons hWK (by show ((0 : Int) ≤ 1 ∧ (1 : Int) ≤ _) ∧ (-2147483648 : Int) ≤ 406 ∧ (406 : Int) < 2147483648; simp)) (by simp; omega) (fun z s3 f3 T3 M3 h253 => ?_) (fun z s3 f3 h16 h17 => ?_)
        · rw [if_pos z] at hr
          obtain ⟨g3, g4, _⟩ := g2 z
          simp only [List.replicate, List.append_nil] at M3
          have e0 : (8 : Int) - ((8 : Nat) : Int) - ((0 : Nat) : Int) = 0 := rfl
          rw [e0] at M3
          exact ih (sub (j1 + 1)).2.1 (c1 ++ (sub (j1 + 1)).2.2 ++ [(406, 0)]) _ [406] s3 (by omega) (by omega) ((fr.tr f2).tr f3) T3 M3 (by simp) (fun o ho => by rw [List.mem_singleton] at ho; subst ho; rw [rk]; omega) (by simp) (by simp; omega) h253 hr
        · rw [if_neg z] at hr
          exact kE (by rw [← hr]; exact z) s3 ((fr.tr f2).tr f3) (by rw [← hr]; exact h16) (by rw [← hr]; exact h17)
      · rw [if_neg cm] at hr
        rw [← hr] at kS
        exact kS rfl s1 p e1 fr T1 M1 he hp1 hpl cm h251
  obtain ⟨g1, g2, _⟩ := g j j0
  have gT := Gd_T g j0 hT.1 jT
  refine S 0 (2, 0) [] W s c j T0 jT M h25 h27 (by show ¬ (2 : Int) = 3 ∧ 1 ≤ (2 : Int) ∧ (2 : Int) ≤ 7; omega) (by simp) (by simp; omega) hWK (by simp; omega) (fun z s1 f1 T1 M1 h251 => ?_) (fun z s1 f1 h16 h17 => ?_)
  · obtain ⟨g3, g4, _⟩ := g2 z
    simp only [List.replicate, List.append_nil] at M1
    have e0 : (8 : Int) - ((8 : Nat) : Int) - ((0 : Nat) : Int) = 0 := rfl
    rw [e0] at M1
    exact loop 300 _ _ _ [] s1 (by omega) (by omega) f1 T1 M1 (by simp) (fun o ho => by cases ho) (by simp) g4 h251 (if_pos z).symm
  · have er : pLoop (kd B n) (fun k => k = 12) sub (fun _ => 406) j = ((sub j).1, (sub j).2.1, []) := if_neg z
    exact kE (by rw [er]; exact z) s1 f1 (by rw [er]; exact h16) (by rw [er]; exact h17)
theorem sim_eith (hnn : 0 ≤ n) (hT : kd B n T = 16 ∧ 0 ≤ T ∧ T ≤ 300) (hw4 : 0 ≤ w ∧ w ≤ 4) : SimB X d Q B n w T (pEith (kd B n) (nu B n) w) 1 2 (fun k => ¬ k = 11 ∧ ¬ k = 12) := by
  have S := sim_both (X := X) (d := d) (Q := Q) hnn hT hw4
  have g := pBoth_g (K := kd B n) w (nu_p (B := B) hnn)
  have er0 : pEith (kd B n) (nu B n) w = pLoop (kd B n) (fun k => k = 11) (pBoth (kd B n) (nu B n) w) (fun _ => 407) := rfl
  rw [er0]
  generalize pBoth (kd B n) (nu B n) w = sub at *
  intro W s c j T0 jT M h25 h27 hW hWK hL hphi kS kE
  have j0 := T0.2.2.2.2
  have W0 : W = [] := by
    cases W with
    | nil => rfl
    | cons x W => simp at hW; omega
  subst W0
  have hw : ∀ s', Fr ML s s' → s' 122027 0 = w := fun s' f' => by rw [f'.g 122027 rfl]; exact h27
  have loop : ∀ (f : Nat) (j1 : Int) (c1 e1 : opl) (p : List Int) (s1 : sg), 300 ≤ f + j1 → (j < j1 ∧ j1 ≤ T) → Fr ML s s1 → MTK s1 B n j1 → MR s1 [(2, 0)] (p.map (fun o => (o, (1 : Int))) ++ []) 0 e1 → e1 ++ p.map (fun o => (o, 0)) = c ++ c1 → (∀ o ∈ p, 1 ≤ rkk o ∧ (-2147483648 ≤ o ∧ o < 2147483648)) → p.length ≤ 2 → (c1.length : Int) ≤ j1 - j → ¬ kd B n j1 = 12 → s1 122025 0 = 3 → pLp (kd B n) (fun k => k = 11) sub (fun _ => 407) f j1 c1 = pLoop (kd B n) (fun k => k = 11) sub (fun _ => 407) j → At X d Q s1 := by
    intro f
    induction f with
    | zero =>
      intro j1 c1 e1 p s1 hf hj1 fr T1 M1 he hp1 hpl hcl hnm h251 hr
      have ej : j1 = T := by omega
      have er : pLoop (kd B n) (fun k => k = 11) sub (fun _ => 407) j = (0, j1, c1) := hr.symm
      rw [er] at kS
      exact kS rfl s1 p e1 fr T1 M1 he hp1 hpl (by show ¬ kd B n j1 = 11 ∧ ¬ kd B n j1 = 12; rw [ej, hT.1]; omega) h251
    | succ f ih =>
      intro j1 c1 e1 p s1 hf hj1 fr T1 M1 he hp1 hpl hcl hnm h251 hr
      rw [pLp] at hr
      have lc : (e1.length : Int) + p.length = c.length + c1.length := by
        have q := congrArg List.length he
        simp at q
        omega
      by_cases cm : kd B n j1 = 11
      · rw [if_pos cm] at hr
        have nT : ¬ j1 = T := fun x => by rw [x, hT.1] at cm; omega
        have rk : rkk 407 = 1 := by decide
        refine at_3 M1.1 h251 fun Q' hQ => ?_
        refine a_op (o := 407) T1 (Or.inr ⟨cm, rfl⟩) (F := [(2, 0)]) M1 (by rw [rk]; exact hp1) trivial ⟨by simp, by simp at hphi; omega, by simp; omega⟩ fun s2 f2 T2 M2 h252 => hQ s2 ?_
        rw [he] at M2
        obtain ⟨g1, g2, _⟩ := g (j1 + 1) (by omega)
        have gT := Gd_T g (show 0 ≤ j1 + 1 by omega) hT.1 (by omega)
        refine S [(407, 1)] s2 (c ++ c1) (j1 + 1) T2 (by omega) M2 h252 (hw s2 (fr.tr f2)) (by simp) (fun x hx => by rw [List.mem_singleton] at hx; subst hx; show ((0 : Int) ≤ 1 ∧ (1 : Int) ≤ 1) ∧ (-2147483648 : Int) ≤ 407 ∧ (407 : Int) < 2147483648; omega) ⟨by show ((-2147483648 : Int) ≤ 407 ∧ (407 : Int) < 2147483648) ∧ (-2147483648 : Int) ≤ 1 ∧ (1 : Int) < 2147483648; omega, fun _ => by show rkk 407 < 2; rw [rk]; omega⟩ (by simp at hphi ⊢; omega) (fun z s3 p3 e3 f3 T3 M3 he3 hp3 hl3 hx3 h253 => ?_) (fun z s3 f3 h16 h17 => ?_)
        · rw [if_pos z] at hr
          obtain ⟨g3, g4, _⟩ := g2 z
          exact ih (sub (j1 + 1)).2.1 (c1 ++ (sub (j1 + 1)).2.2 ++ [(407, 0)]) e3 (p3 ++ [407]) s3 (by omega) (by omega) ((fr.tr f2).tr f3) T3 (by
            have q : (p3 ++ [407]).map (fun o => (o, (1 : Int))) ++ [] = p3.map (fun o => (o, (1 : Int))) ++ [(407, 1)] := by simp
            rw [q]
            exact M3) (by
            rw [List.map_append, ← List.append_assoc, he3]
            simp) (fun o ho => by
            rcases List.mem_append.mp ho with y | y
            · have := hp3 o y
              omega
            · rw [List.mem_singleton] at y
              subst y
              rw [rk]
              omega) (by simp; omega) (by simp; omega) hx3 h253 hr
        · rw [if_neg z] at hr
          exact kE (by rw [← hr]; exact z) s3 ((fr.tr f2).tr f3) (by rw [← hr]; exact h16) (by rw [← hr]; exact h17)
      · rw [if_neg cm] at hr
        rw [← hr] at kS
        exact kS rfl s1 p e1 fr T1 M1 he hp1 hpl ⟨cm, hnm⟩ h251
  obtain ⟨g1, g2, _⟩ := g j j0
  have gT := Gd_T g j0 hT.1 jT
  refine S [] s c j T0 jT M h25 h27 (by simp) hWK trivial hphi (fun z s1 p1 e1 f1 T1 M1 he1 hp1 hl1 hx1 h251 => ?_) (fun z s1 f1 h16 h17 => ?_)
  · obtain ⟨g3, g4, _⟩ := g2 z
    exact loop 300 _ _ e1 p1 s1 (by omega) (by omega) f1 T1 M1 he1 (fun o ho => by have := hp1 o ho; omega) (by omega) g4 hx1 h251 (if_pos z).symm
  · have er : pLoop (kd B n) (fun k => k = 11) sub (fun _ => 407) j = ((sub j).1, (sub j).2.1, []) := if_neg z
    exact kE (by rw [er]; exact z) s1 f1 (by rw [er]; exact h16) (by rw [er]; exact h17)
end SA
