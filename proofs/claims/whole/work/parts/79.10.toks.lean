/-! TOKENS: the mathematics -/
def isLt (c : Int) : Prop := (97 ≤ c ∧ c ≤ 122) ∨ (65 ≤ c ∧ c ≤ 90)
def isDg (c : Int) : Prop := 48 ≤ c ∧ c ≤ 57
def isBk (c : Int) : Prop := c = 32 ∨ c = 10
noncomputable def rtF (P : Int → Prop) : Nat → Int → Int
  | 0, p => p
  | f + 1, p => @ite _ (P p) (Classical.propDecidable _) (rtF P f (p + 1)) p
/-- the end of what P holds of from p on, n at most -/
noncomputable def rn (P : Int → Prop) (n p : Int) : Int := rtF P (n - p).toNat p
def isRn (P : Int → Prop) (n p e : Int) : Prop := (p ≤ e ∧ e ≤ n) ∧ (∀ z, p ≤ z → z < e → P z) ∧ (e < n → ¬ P e)
theorem isRn_u {P : Int → Prop} {n p e e2 : Int} (h : isRn P n p e) (k : isRn P n p e2) : e = e2 := by
  obtain ⟨a1, a2, a3⟩ := h
  obtain ⟨b1, b2, b3⟩ := k
  rcases Int.lt_trichotomy e e2 with c | c | c
  · exact absurd (b2 e a1.1 c) (a3 (by omega))
  · exact c
  · exact absurd (a2 e2 b1.1 c) (b3 (by omega))
theorem rn_is {P : Int → Prop} {n p : Int} (h : p ≤ n) : isRn P n p (rn P n p) := by
  have key : ∀ (f : Nat) (p : Int), (f : Int) = n - p → isRn P n p (rtF P f p) := by
    intro f
    induction f with
    | zero =>
      intro p e
      exact ⟨⟨Int.le_refl _, by show p ≤ n; omega⟩, fun z a b => by have b : z < p := b; omega, fun q => by have q : p < n := q; omega⟩
    | succ f ih =>
      intro p e
      rw [rtF]
      by_cases c : P p
      · rw [if_pos c]
        obtain ⟨a1, a2, a3⟩ := ih (p + 1) (by omega)
        refine ⟨⟨by omega, a1.2⟩, fun z z0 z1 => ?_, a3⟩
        by_cases e2 : z = p
        · rw [e2]; exact c
        · exact a2 z (by omega) z1
      · rw [if_neg c]
        exact ⟨⟨Int.le_refl _, by omega⟩, fun z a b => by omega, fun _ => c⟩
  exact key _ p (by omega)
theorem rn_e {P : Int → Prop} {n p e : Int} (h : isRn P n p e) : e = rn P n p := isRn_u h (rn_is (by have := h.1; omega))
/-- one step on: the same end -/
theorem rn_s {P : Int → Prop} {n p : Int} (h : p < n) (c : P p) : rn P n p = rn P n (p + 1) := by
  obtain ⟨a1, a2, a3⟩ := rn_is (P := P) (n := n) (p := p + 1) (by omega)
  refine (rn_e ⟨⟨by omega, a1.2⟩, fun z z0 z1 => ?_, a3⟩).symm
  by_cases e2 : z = p
  · rw [e2]; exact c
  · exact a2 z (by omega) z1
theorem rn_0 {P : Int → Prop} {n p : Int} (h : p ≤ n) (c : p < n → ¬ P p) : rn P n p = p := (rn_e ⟨⟨Int.le_refl _, h⟩, fun z a b => by omega, c⟩).symm
/-! the words -/
def wW (i : Int) : Int := ((sby.getD 0 []).getD i.toNat 0).toInt
def wEq (B : Int → Int) (b e a z : Int) : Prop := e - b = z - a ∧ ∀ i, 0 ≤ i → i < z - a → wW (a + i) = B (b + i)
noncomputable def wkl (B : Int → Int) (b e : Int) : List (Nat × Nat) → Int → Int
  | [], _ => 14
  | q :: r, k => @ite _ (wEq B b e q.1 q.2) (Classical.propDecidable _) k (wkl B b e r (k + 1))
def WL : List (Nat × Nat) := [(0, 5), (6, 11), (12, 17), (18, 21), (22, 26), (27, 32), (33, 39), (40, 44), (45, 49), (50, 55), (56, 60), (61, 63), (64, 67), (68, 71)]
def wch (i : Nat) : Int32 := (sby.getD 0 []).getD i 0
def wchk : List (Nat × Nat) → Nat → Bool
  | [], s => Nat.beq s 72
  | q :: r, s => Nat.beq q.1 s && (Nat.ble q.1 q.2 && (Nat.ble q.2 71 && ((List.range 71).all (fun j => !(Nat.ble q.1 j && Nat.ble (j + 1) q.2) || !(decide (wch j = 32))) && ((Nat.beq q.2 71 || decide (wch q.2 = 32)) && wchk r (q.2 + 1)))))
theorem WL_ok : wchk WL 0 = true := by decide +kernel
def sgk (c : Int) : Int := if c = 35 then 20 else if c = 61 then 21 else if c = 60 then 22 else if c = 62 then 23 else if c = 43 then 24 else if c = 45 then 25 else if c = 42 then 26 else if c = 47 then 27 else if c = 40 then 28 else if c = 41 then 29 else if c = 59 then 30 else 14
def dgv (B : Int → Int) (b e : Int) : Int := fd (fun z v => min 10000 (v * 10 + B z - 48)) 0 b e
/-- a token from p on: its kind, place, number, end -/
noncomputable def tok (B : Int → Int) (n p : Int) : Int × Int × Int × Int :=
  let b := rn (fun z => isBk (B z)) n p
  @ite _ (n ≤ b) (Classical.propDecidable _) (16, n, 0, n)
    (@ite _ (isLt (B b)) (Classical.propDecidable _) (wkl B b (rn (fun z => isLt (B z)) n b) WL 0, b, 0, rn (fun z => isLt (B z)) n b)
      (@ite _ (isDg (B b)) (Classical.propDecidable _) (15, b, dgv B b (rn (fun z => isDg (B z)) n b), rn (fun z => isDg (B z)) n b)
        (@ite _ ((B b = 60 ∨ B b = 62) ∧ b + 1 < n ∧ B (b + 1) = 61) (Classical.propDecidable _) (if B b = 60 then 31 else 32, b, 0, b + 2) (sgk (B b), b, 0, b + 1))))
noncomputable def tps (B : Int → Int) (n : Int) : Nat → Int
  | 0 => 0
  | j + 1 => (tok B n (tps B n j)).2.2.2
noncomputable def tP (B : Int → Int) (n j : Int) : Int := tps B n j.toNat
noncomputable def kd (B : Int → Int) (n j : Int) : Int := (tok B n (tP B n j)).1
noncomputable def pla (B : Int → Int) (n j : Int) : Int := (tok B n (tP B n j)).2.1
noncomputable def nu (B : Int → Int) (n j : Int) : Int := (tok B n (tP B n j)).2.2.1
section TKS
variable {B : Int → Int} {n p j b e : Int}
theorem tP_0 : tP B n 0 = 0 := rfl
theorem tP_s (h : 0 ≤ j) : tP B n (j + 1) = (tok B n (tP B n j)).2.2.2 := by
  unfold tP
  rw [show (j + 1).toNat = j.toNat + 1 by omega]
  rfl
/-- the cases of a token -/
theorem tok_b (h : p < n) (c : isBk (B p)) : tok B n p = tok B n (p + 1) := by
  have e : rn (fun z => isBk (B z)) n p = rn (fun z => isBk (B z)) n (p + 1) := rn_s h c
  unfold tok
  rw [e]
theorem tok_end (h : p = n) : tok B n p = (16, n, 0, n) := by
  have e : rn (fun z => isBk (B z)) n p = p := rn_0 (by omega) (fun q => by omega)
  unfold tok
  rw [e, if_pos (by omega)]
theorem tok_lt (h : p < n) (c : isLt (B p)) : tok B n p = (wkl B p (rn (fun z => isLt (B z)) n p) WL 0, p, 0, rn (fun z => isLt (B z)) n p) := by
  have e : rn (fun z => isBk (B z)) n p = p := rn_0 (by omega) (fun _ q => by unfold isBk at q; unfold isLt at c; omega)
  unfold tok
  rw [e, if_neg (by omega), if_pos c]
theorem tok_dg (h : p < n) (c : isDg (B p)) : tok B n p = (15, p, dgv B p (rn (fun z => isDg (B z)) n p), rn (fun z => isDg (B z)) n p) := by
  have e : rn (fun z => isBk (B z)) n p = p := rn_0 (by omega) (fun _ q => by unfold isBk at q; unfold isDg at c; omega)
  unfold tok
  rw [e, if_neg (by omega), if_neg (by unfold isLt; unfold isDg at c; omega), if_pos c]
theorem tok_two (h : p < n) (c : (B p = 60 ∨ B p = 62) ∧ p + 1 < n ∧ B (p + 1) = 61) : tok B n p = (if B p = 60 then 31 else 32, p, 0, p + 2) := by
  have e : rn (fun z => isBk (B z)) n p = p := rn_0 (by omega) (fun _ q => by unfold isBk at q; omega)
  unfold tok
  rw [e, if_neg (by omega), if_neg (by unfold isLt; omega), if_neg (by unfold isDg; omega), if_pos c]
theorem tok_one (h : p < n) (c0 : ¬ isBk (B p)) (c1 : ¬ isLt (B p)) (c2 : ¬ isDg (B p)) (c3 : ¬ ((B p = 60 ∨ B p = 62) ∧ p + 1 < n ∧ B (p + 1) = 61)) : tok B n p = (sgk (B p), p, 0, p + 1) := by
  have e : rn (fun z => isBk (B z)) n p = p := rn_0 (by omega) (fun _ q => c0 q)
  unfold tok
  rw [e, if_neg (by omega), if_neg c1, if_neg c2, if_neg c3]
theorem wkl_r : ∀ (l : List (Nat × Nat)) (k : Int), 0 ≤ k → k + l.length ≤ 14 → 0 ≤ wkl B b e l k ∧ wkl B b e l k ≤ 14
  | [], k, h, h2 => by rw [wkl]; omega
  | q :: r, k, h, h2 => by
    have el : ((q :: r).length : Int) = r.length + 1 := by simp
    rw [wkl]
    by_cases c : wEq B b e q.1 q.2
    · rw [if_pos c]; omega
    · rw [if_neg c]
      exact wkl_r r (k + 1) (by omega) (by omega)
theorem sgk_r (c : Int) : sgk c = 14 ∨ (20 ≤ sgk c ∧ sgk c ≤ 30) := by
  unfold sgk
  repeat' split
  all_goals omega
theorem dgv_r (h : ∀ z, b ≤ z → z < e → isDg (B z)) (be : b ≤ e) : 0 ≤ dgv B b e ∧ dgv B b e ≤ 10000 := by
  unfold dgv
  refine fd_ind (P := fun _ v => 0 ≤ v ∧ v ≤ 10000) (by omega) ?_ be
  intro z v z0 z1 hv
  have := h z z0 z1
  unfold isDg at this
  omega
/-- what holds of a token -/
theorem tok_r (h0 : 0 ≤ p) (h : p ≤ n) : (0 ≤ (tok B n p).1 ∧ (tok B n p).1 ≤ 32) ∧ ¬ (16 < (tok B n p).1 ∧ (tok B n p).1 < 20) ∧ (p ≤ (tok B n p).2.1 ∧ (tok B n p).2.1 ≤ n) ∧ (0 ≤ (tok B n p).2.2.1 ∧ (tok B n p).2.2.1 ≤ 10000) ∧ ((tok B n p).1 = 16 → (tok B n p).2.1 = n ∧ (tok B n p).2.2.2 = n) ∧ (¬ (tok B n p).1 = 16 → (tok B n p).2.1 < (tok B n p).2.2.2 ∧ (tok B n p).2.2.2 ≤ n) := by
  have bs := rn_is (P := fun z => isBk (B z)) h
  have key : ∀ q, p ≤ q → q ≤ n → tok B n p = tok B n q → (q < n → ¬ isBk (B q)) → (0 ≤ (tok B n p).1 ∧ (tok B n p).1 ≤ 32) ∧ ¬ (16 < (tok B n p).1 ∧ (tok B n p).1 < 20) ∧ (p ≤ (tok B n p).2.1 ∧ (tok B n p).2.1 ≤ n) ∧ (0 ≤ (tok B n p).2.2.1 ∧ (tok B n p).2.2.1 ≤ 10000) ∧ ((tok B n p).1 = 16 → (tok B n p).2.1 = n ∧ (tok B n p).2.2.2 = n) ∧ (¬ (tok B n p).1 = 16 → (tok B n p).2.1 < (tok B n p).2.2.2 ∧ (tok B n p).2.2.2 ≤ n) := by
    intro q q0 q1 e nb
    rw [e]
    by_cases c : q = n
    · rw [tok_end c]
      refine ⟨by omega, by omega, ⟨by show p ≤ n; omega, Int.le_refl n⟩, ⟨Int.le_refl 0, by show (0 : Int) ≤ 10000; omega⟩, fun _ => ⟨rfl, rfl⟩, fun x => absurd rfl x⟩
    · by_cases c1 : isLt (B q)
      · rw [tok_lt (by omega) c1]
        have w := wkl_r (B := B) (b := q) (e := rn (fun z => isLt (B z)) n q) WL 0 (by omega) (by decide)
        obtain ⟨r1, r2, r3⟩ := rn_is (P := fun z => isLt (B z)) (n := n) (p := q) (by omega)
        have r4 : ¬ rn (fun z => isLt (B z)) n q = q := fun x => by rw [x] at r3; exact r3 (by omega) c1
        refine ⟨by omega, by omega, ⟨q0, q1⟩, ⟨Int.le_refl 0, by show (0 : Int) ≤ 10000; omega⟩, fun x => by have x : wkl B q (rn (fun z => isLt (B z)) n q) WL 0 = 16 := x; omega, fun _ => ⟨by show q < rn _ n q; omega, r1.2⟩⟩
      · by_cases c2 : isDg (B q)
        · rw [tok_dg (by omega) c2]
          obtain ⟨r1, r2, r3⟩ := rn_is (P := fun z => isDg (B z)) (n := n) (p := q) (by omega)
          have r4 : ¬ rn (fun z => isDg (B z)) n q = q := fun x => by rw [x] at r3; exact r3 (by omega) c2
          refine ⟨by omega, by omega, ⟨q0, q1⟩, dgv_r r2 r1.1, fun x => by have x : (15 : Int) = 16 := x; omega, fun _ => ⟨by show q < rn _ n q; omega, r1.2⟩⟩
        · by_cases c3 : (B q = 60 ∨ B q = 62) ∧ q + 1 < n ∧ B (q + 1) = 61
          · rw [tok_two (by omega) c3]
            have w : (if B q = 60 then (31 : Int) else 32) = 31 ∨ (if B q = 60 then (31 : Int) else 32) = 32 := by split <;> simp
            generalize (if B q = 60 then (31 : Int) else 32) = x at *
            refine ⟨by omega, by omega, ⟨q0, q1⟩, ⟨Int.le_refl 0, by show (0 : Int) ≤ 10000; omega⟩, fun y => by have y : x = 16 := y; omega, fun _ => ⟨by show q < q + 2; omega, by show q + 2 ≤ n; omega⟩⟩
          · rw [tok_one (by omega) (nb (by omega)) c1 c2 c3]
            have w := sgk_r (B q)
            refine ⟨by omega, by omega, ⟨q0, q1⟩, ⟨Int.le_refl 0, by show (0 : Int) ≤ 10000; omega⟩, fun y => by have y : sgk (B q) = 16 := y; omega, fun _ => ⟨by show q < q + 1; omega, by show q + 1 ≤ n; omega⟩⟩
  obtain ⟨b1, b2, b3⟩ := bs
  refine key _ b1.1 b1.2 ?_ b3
  have step : ∀ (f : Nat) (x : Int), (f : Int) = x - p → x ≤ rn (fun z => isBk (B z)) n p → tok B n p = tok B n x := by
    intro f
    induction f with
    | zero => intro x e _; rw [show x = p by omega]
    | succ f ih =>
      intro x e hx
      rw [ih (x - 1) (by omega) (by omega), tok_b (p := x - 1) (by omega) (b2 (x - 1) (by omega) (by omega)), show x - 1 + 1 = x by omega]
  exact step (rn (fun z => isBk (B z)) n p - p).toNat _ (by omega) (Int.le_refl _)
theorem tP_r (hn : 0 ≤ n) (h : 0 ≤ j) : 0 ≤ tP B n j ∧ tP B n j ≤ n := by
  refine i_ind (P := fun j => 0 ≤ tP B n j ∧ tP B n j ≤ n) h (by rw [tP_0]; omega) ?_
  intro z z0 z1 ih
  rw [tP_s z0]
  obtain ⟨_, _, r3, _, r5, r6⟩ := tok_r ih.1 ih.2
  by_cases c : (tok B n (tP B n z)).1 = 16
  · have := r5 c
    omega
  · have := r6 c
    omega
theorem kd_r (hn : 0 ≤ n) (h : 0 ≤ j) : (0 ≤ kd B n j ∧ kd B n j ≤ 32) ∧ ¬ (16 < kd B n j ∧ kd B n j < 20) ∧ (0 ≤ pla B n j ∧ pla B n j ≤ n) ∧ (0 ≤ nu B n j ∧ nu B n j ≤ 10000) := by
  have t := tP_r (B := B) hn h
  obtain ⟨r1, r2, r3, r4, _, _⟩ := tok_r (B := B) (n := n) t.1 t.2
  exact ⟨r1, r2, ⟨by unfold pla; omega, r3.2⟩, r4⟩
/-- each token but the end takes a byte at least -/
theorem tP_j (hn : 0 ≤ n) (h : 0 ≤ j) (hk : ∀ i, 0 ≤ i → i < j → ¬ kd B n i = 16) : j ≤ tP B n j := by
  have key : ∀ j2, j2 ≤ j → 0 ≤ j2 → j2 ≤ tP B n j2 := by
    intro j2 h2 h3
    refine i_ind (P := fun j2 => j2 ≤ j → j2 ≤ tP B n j2) h3 (fun _ => by rw [tP_0]; omega) ?_ h2
    intro z z0 z1 ih z2
    have ih := ih (by omega)
    have t := tP_r (B := B) hn z0
    obtain ⟨_, _, r3, _, _, r6⟩ := tok_r (B := B) (n := n) t.1 t.2
    have := r6 (hk z z0 (by omega))
    rw [tP_s z0]
    omega
  exact key j (Int.le_refl _) h
theorem tok_0 (hn : 0 ≤ n) (h : 0 ≤ j) (e : kd B n j = 16) : kd B n (j + 1) = 16 ∧ pla B n j = n := by
  have t := tP_r (B := B) hn h
  obtain ⟨_, _, _, _, r5, _⟩ := tok_r (B := B) (n := n) t.1 t.2
  obtain ⟨a, b⟩ := r5 e
  refine ⟨?_, a⟩
  unfold kd
  rw [tP_s h, tok_end b]
end TKS
