/-! GIFTS: walks along the gifts, nets -/
def edge (A : Int → Int) (p q : Int) : Prop := ∃ k, 0 ≤ k ∧ k < A 6 ∧ A (480 + 3 * k) = p ∧ A (480 + (3 * k + 1)) = q
def walk (A : Int → Int) (w : Int) : Nat → Int → Prop
  | 0, p => p = w
  | n + 1, p => ∃ q, walk A w n q ∧ edge A q p
def gOK (A : Int → Int) : Prop := (0 ≤ A 6 ∧ A 6 ≤ 30) ∧ ∀ g, 0 ≤ g → g < A 6 → (0 ≤ A (480 + 3 * g) ∧ A (480 + 3 * g) < 8) ∧ (0 ≤ A (480 + (3 * g + 1)) ∧ A (480 + (3 * g + 1)) < 8) ∧ ¬ A (480 + 3 * g) = A (480 + (3 * g + 1)) ∧ (1 ≤ A (480 + (3 * g + 2)) ∧ A (480 + (3 * g + 2)) ≤ 999)
theorem gok_of {A : Int → Int} (w : WF0 A) : gOK A := ⟨w.1.2.2.2.2.2.2, w.2.2.2.2.2⟩
theorem edge_in {A : Int → Int} (g : gOK A) {p q : Int} (e : edge A p q) : (0 ≤ p ∧ p < 8) ∧ 0 ≤ q ∧ q < 8 := by
  obtain ⟨k, h0, h1, e1, e2⟩ := e
  have := g.2 k h0 h1
  rw [e1, e2] at this
  exact ⟨this.1, this.2.1⟩
theorem walk_in {A : Int → Int} (g : gOK A) {w : Int} (hw : 0 ≤ w ∧ w < 8) : ∀ (n : Nat) (p : Int), walk A w n p → 0 ≤ p ∧ p < 8
  | 0, p, e => by have e2 : p = w := e; rw [e2]; exact hw
  | n + 1, p, ⟨q, _, e⟩ => (edge_in g e).2
/-- reached within k -/
def wR (A : Int → Int) (w : Int) (k : Nat) (p : Int) : Prop := ∃ n, n ≤ k ∧ walk A w n p
theorem wR_m {A : Int → Int} {w : Int} {k : Nat} {p : Int} (h : wR A w k p) : wR A w (k + 1) p := by
  obtain ⟨n, a, b⟩ := h
  exact ⟨n, by omega, b⟩
theorem wR_0 (A : Int → Int) (w : Int) : ∀ k, wR A w k w := fun k => ⟨0, by omega, rfl⟩
theorem wR_st {A : Int → Int} {w : Int} {k : Nat} (h : ∀ p, wR A w (k + 1) p → wR A w k p) : ∀ (n : Nat) (p : Int), walk A w n p → wR A w k p
  | 0, p, e => by have e2 : p = w := e; rw [e2]; exact wR_0 A w k
  | n + 1, p, ⟨q, a, e⟩ => by
    obtain ⟨n', b, c⟩ := wR_st h n q a
    exact h p ⟨n' + 1, by omega, q, c, e⟩
theorem wR_cnt {A : Int → Int} (g : gOK A) {w : Int} (hw : 0 ≤ w ∧ w < 8) : ∀ k : Nat, ((k : Int) + 1 ≤ sm (fun p => bZ (wR A w k p)) 8) ∨ ∀ p, wR A w (k + 1) p → wR A w k p := by
  have lift : ∀ k : Nat, (∃ p, wR A w (k + 1) p ∧ ¬ wR A w k p) → sm (fun p => bZ (wR A w k p)) 8 + 1 ≤ sm (fun p => bZ (wR A w (k + 1) p)) 8 := by
    rintro k ⟨p, hp, hn⟩
    have pr : 0 ≤ p ∧ p < 8 := by
      obtain ⟨n, _, c⟩ := hp
      exact walk_in g hw n p c
    have q : sm (up (fun p => bZ (wR A w k p)) p 1) 8 ≤ sm (fun p => bZ (wR A w (k + 1) p)) 8 := by
      refine sm_le (by omega) ?_
      intro z h0 h1
      by_cases c : z = p
      · subst c
        rw [up_eq rfl, bZ_T hp]
        exact Int.le_refl 1
      · rw [up_ne c]
        by_cases e : wR A w k z
        · rw [bZ_T e, bZ_T (wR_m e)]
          exact Int.le_refl 1
        · rw [bZ_F e]
          exact (bZ_r _).1
    rw [sm_up pr.1 (by omega), if_pos pr.2, bZ_F hn] at q
    omega
  intro k
  induction k with
  | zero =>
    left
    have q : sm (up (fun _ => 0) w 1) 8 ≤ sm (fun p => bZ (wR A w 0 p)) 8 := by
      refine sm_le (by omega) ?_
      intro z h0 h1
      by_cases c : z = w
      · subst c
        rw [up_eq rfl, bZ_T (wR_0 A z 0)]
        exact Int.le_refl 1
      · rw [up_ne c]
        exact (bZ_r _).1
    rw [sm_up hw.1 (by omega), if_pos hw.2, sm_zero (by omega) (fun _ _ _ => rfl)] at q
    show (((0 : Nat) : Int) + 1 ≤ _)
    omega
  | succ k ih =>
    by_cases st : ∀ p, wR A w (k + 1) p → wR A w k p
    · right
      rintro p ⟨n, _, c⟩
      exact wR_m (wR_st st n p c)
    · rcases ih with ih | ih
      · left
        have q := lift k (by
          by_cases c : ∃ p, wR A w (k + 1) p ∧ ¬ wR A w k p
          · exact c
          · exfalso
            apply st
            intro p hp
            by_cases e : wR A w k p
            · exact e
            · exact absurd ⟨p, hp, e⟩ c)
        show (((k + 1 : Nat) : Int) + 1 ≤ _)
        omega
      · exact absurd ih st
theorem walk_7 {A : Int → Int} (g : gOK A) {w : Int} (hw : 0 ≤ w ∧ w < 8) {n : Nat} {p : Int} (h : walk A w n p) : ∃ n', n' ≤ 7 ∧ walk A w n' p := by
  rcases wR_cnt g hw 7 with c | c
  · have pr := walk_in g hw n p h
    have q := sm_full (f := fun p => bZ (wR A w 7 p)) (hi := 8) (b := p) (by omega) (fun z _ _ => (bZ_r _).2) c pr.1 pr.2
    by_cases e : wR A w 7 p
    · exact e
    · rw [bZ_F e] at q
      omega
  · exact wR_st c n p h
/-- what round answers -/
def grd (A : Int → Int) (w r : Int) : Prop := (1 ≤ r ∧ r ≤ 8 ∧ walk A w r.toNat w ∧ ∀ n : Nat, 1 ≤ n → (n : Int) < r → ¬ walk A w n w) ∨ (r = -1 ∧ ∀ n : Nat, 1 ≤ n → n ≤ 8 → ¬ walk A w n w)
theorem grd_u {A : Int → Int} {w r s : Int} (h : grd A w r) (k : grd A w s) : r = s := by
  rcases h with ⟨a, b, c, e⟩ | ⟨a, b⟩ <;> rcases k with ⟨a2, b2, c2, e2⟩ | ⟨a2, b2⟩
  · by_cases q : r < s
    · exact absurd c (e2 r.toNat (by omega) (by omega))
    · by_cases q2 : s < r
      · exact absurd c2 (e s.toNat (by omega) (by omega))
      · omega
  · exact absurd c (b2 r.toNat (by omega) (by omega))
  · exact absurd c2 (b s.toNat (by omega) (by omega))
  · omega
/-- what is far after r rounds and k gifts more -/
def farI (A : Int → Int) (w : Int) (F : Int → Int) : Prop := ∀ p, 0 ≤ p → p < 8 → F p = 1000000 ∨ (0 ≤ F p ∧ F p < 1000000 ∧ walk A w (F p).toNat p)
def farR (A : Int → Int) (w : Int) (F : Int → Int) (r : Int) : Prop := ∀ (n : Nat) p, (n : Int) ≤ r → walk A w n p → F p ≤ n
def farK (A : Int → Int) (w : Int) (F : Int → Int) (r k : Int) : Prop := ∀ (n : Nat) g, (n : Int) ≤ r → 0 ≤ g → g < k → walk A w n (A (480 + 3 * g)) → F (A (480 + (3 * g + 1))) ≤ n + 1
theorem far_rr {A : Int → Int} {w : Int} {F : Int → Int} {r : Int} (h0 : 0 ≤ r) (hr : farR A w F r) (hk : farK A w F r (A 6)) : farR A w F (r + 1) := by
  intro n p hn hp
  cases n with
  | zero => exact hr 0 p (by omega) hp
  | succ n =>
    obtain ⟨q, a, k, h0, h1, e1, e2⟩ := hp
    have := hk n k (by omega) h0 h1 (by rw [e1]; exact a)
    rw [e2] at this
    omega
theorem far_up {A : Int → Int} {w : Int} {F : Int → Int} {r k : Int} (g : gOK A) (hk0 : 0 ≤ k) (hk1 : k < A 6) (hi : farI A w F) (hr : farR A w F r) (hk : farK A w F r k) : farI A w (up F (A (480 + (3 * k + 1))) (if F (A (480 + 3 * k)) + 1 < F (A (480 + (3 * k + 1))) then F (A (480 + 3 * k)) + 1 else F (A (480 + (3 * k + 1))))) ∧ farR A w (up F (A (480 + (3 * k + 1))) (if F (A (480 + 3 * k)) + 1 < F (A (480 + (3 * k + 1))) then F (A (480 + 3 * k)) + 1 else F (A (480 + (3 * k + 1))))) r ∧ farK A w (up F (A (480 + (3 * k + 1))) (if F (A (480 + 3 * k)) + 1 < F (A (480 + (3 * k + 1))) then F (A (480 + 3 * k)) + 1 else F (A (480 + (3 * k + 1))))) r (k + 1) := by
  have gg := g.2 k hk0 hk1
  have le : ∀ p, up F (A (480 + (3 * k + 1))) (if F (A (480 + 3 * k)) + 1 < F (A (480 + (3 * k + 1))) then F (A (480 + 3 * k)) + 1 else F (A (480 + (3 * k + 1)))) p ≤ F p := by
    intro p
    by_cases c : p = A (480 + (3 * k + 1))
    · subst c
      rw [up_eq rfl]
      split <;> omega
    · rw [up_ne c]
      exact Int.le_refl _
  refine ⟨?_, ?_, ?_⟩
  · intro p p0 p1
    by_cases c : p = A (480 + (3 * k + 1))
    · subst c
      rw [up_eq rfl]
      split
      · rename_i lt
        right
        rcases hi _ p0 p1 with e | ⟨e0, e1, e2⟩
        · rcases hi _ gg.1.1 gg.1.2 with f | ⟨f0, f1, f2⟩
          · omega
          · refine ⟨by omega, by omega, ?_⟩
            rw [show (F (A (480 + 3 * k)) + 1).toNat = (F (A (480 + 3 * k))).toNat + 1 by omega]
            exact ⟨_, f2, k, hk0, hk1, rfl, rfl⟩
        · rcases hi _ gg.1.1 gg.1.2 with f | ⟨f0, f1, f2⟩
          · omega
          · refine ⟨by omega, by omega, ?_⟩
            rw [show (F (A (480 + 3 * k)) + 1).toNat = (F (A (480 + 3 * k))).toNat + 1 by omega]
            exact ⟨_, f2, k, hk0, hk1, rfl, rfl⟩
      · exact hi _ p0 p1
    · rw [up_ne c]
      exact hi p p0 p1
  · intro n p hn hp
    exact Int.le_trans (le p) (hr n p hn hp)
  · intro n j hn j0 j1 hp
    by_cases c : j < k
    · exact Int.le_trans (le _) (hk n j hn j0 c hp)
    · have e : j = k := by omega
      subst e
      have q := hr n _ hn hp
      rw [up_eq rfl]
      split <;> omega
/-- the nearest way back -/
def bstI (A : Int → Int) (w : Int) (F : Int → Int) (k b : Int) : Prop := (b = 1000000 ∨ ∃ g, 0 ≤ g ∧ g < A 6 ∧ A (480 + (3 * g + 1)) = w ∧ b = F (A (480 + 3 * g)) + 1 ∧ b < 1000000) ∧ (b ≤ 1000000) ∧ ∀ g, 0 ≤ g → g < k → A (480 + (3 * g + 1)) = w → b ≤ F (A (480 + 3 * g)) + 1
theorem far_end {A : Int → Int} {w : Int} {F : Int → Int} {b : Int} (g : gOK A) (hw : 0 ≤ w ∧ w < 8) (hi : farI A w F) (hr : farR A w F 8) (hb : bstI A w F (A 6) b) : grd A w (if b < 1000000 then b else -1) := by
  have low : ∀ n : Nat, 1 ≤ n → n ≤ 9 → walk A w n w → b ≤ n := by
    intro n n1 n8 hp
    cases n with
    | zero => omega
    | succ n =>
      obtain ⟨q, a, k, h0, h1, e1, e2⟩ := hp
      have q1 := hb.2.2 k h0 h1 e2
      have q2 := hr n q (by omega) a
      rw [← e1] at q2
      omega
  rcases hb.1 with e | ⟨k, h0, h1, e1, e2, e3⟩
  · rw [if_neg (by omega)]
    right
    refine ⟨rfl, fun n n1 n8 hp => ?_⟩
    have := low n n1 (by omega) hp
    omega
  · rw [if_pos e3]
    left
    have gg := g.2 k h0 h1
    rcases hi _ gg.1.1 gg.1.2 with f | ⟨f0, f1, f2⟩
    · omega
    · obtain ⟨n', a, c⟩ := walk_7 g hw f2
      have cl : walk A w (n' + 1) w := ⟨_, c, k, h0, h1, rfl, e1⟩
      have := low (n' + 1) (by omega) (by omega) cl
      refine ⟨by omega, by omega, ?_, ?_⟩
      · rw [show b.toNat = (F (A (480 + 3 * k))).toNat + 1 by omega]
        exact ⟨_, f2, k, h0, h1, rfl, e1⟩
      · intro n n1 n2 hp
        have := low n n1 (by omega) hp
        omega
/-! bits -/
def hB (v : Int32) (P : Int → Prop) : Prop := ∀ p, 0 ≤ p → p < 8 → (((v >>> (iI p &&& iI 31)) &&& iI 1 = iI 1) ↔ P p)
theorem bit_1 (y : BitVec 32) : (y &&& 1#32 = 1#32) ↔ y.getLsbD 0 = true := by
  constructor
  · intro e
    have := congrArg (fun z => BitVec.getLsbD z 0) e
    simpa using this
  · intro e
    apply BitVec.eq_of_getLsbD_eq
    intro i hi
    by_cases c : i = 0
    · subst c
      simp [e]
    · simp [BitVec.getLsbD_and, BitVec.getLsbD_one, c]
theorem bit_s (v : Int32) (p : Nat) (hp : p < 8) : ((v >>> (iI p &&& iI 31)) &&& iI 1 = iI 1) ↔ v.toBitVec.getLsbD p = true := by
  have h : p = 0 ∨ p = 1 ∨ p = 2 ∨ p = 3 ∨ p = 4 ∨ p = 5 ∨ p = 6 ∨ p = 7 := by omega
  have e : ∀ y : Int32, (y &&& iI 1 = iI 1) ↔ (y.toBitVec &&& 1#32 = 1#32) := by
    intro y
    rw [← Int32.toBitVec_inj]
    rfl
  rw [e, bit_1]
  rcases h with h | h | h | h | h | h | h | h <;> subst h
  · show (BitVec.sshiftRight v.toBitVec 0).getLsbD 0 = true ↔ _
    rw [BitVec.getLsbD_sshiftRight]
    simp
  · show (BitVec.sshiftRight v.toBitVec 1).getLsbD 0 = true ↔ _
    rw [BitVec.getLsbD_sshiftRight]
    simp
  · show (BitVec.sshiftRight v.toBitVec 2).getLsbD 0 = true ↔ _
    rw [BitVec.getLsbD_sshiftRight]
    simp
  · show (BitVec.sshiftRight v.toBitVec 3).getLsbD 0 = true ↔ _
    rw [BitVec.getLsbD_sshiftRight]
    simp
  · show (BitVec.sshiftRight v.toBitVec 4).getLsbD 0 = true ↔ _
    rw [BitVec.getLsbD_sshiftRight]
    simp
  · show (BitVec.sshiftRight v.toBitVec 5).getLsbD 0 = true ↔ _
    rw [BitVec.getLsbD_sshiftRight]
    simp
  · show (BitVec.sshiftRight v.toBitVec 6).getLsbD 0 = true ↔ _
    rw [BitVec.getLsbD_sshiftRight]
    simp
  · show (BitVec.sshiftRight v.toBitVec 7).getLsbD 0 = true ↔ _
    rw [BitVec.getLsbD_sshiftRight]
    simp
theorem one_at (q p : Nat) (hq : q < 8) (hp : p < 8) : (iI 1 <<< (iI q &&& iI 31)).toBitVec.getLsbD p = true ↔ p = q := by
  have h : q = 0 ∨ q = 1 ∨ q = 2 ∨ q = 3 ∨ q = 4 ∨ q = 5 ∨ q = 6 ∨ q = 7 := by omega
  have h2 : p = 0 ∨ p = 1 ∨ p = 2 ∨ p = 3 ∨ p = 4 ∨ p = 5 ∨ p = 6 ∨ p = 7 := by omega
  rcases h with h | h | h | h | h | h | h | h <;> subst h <;> rcases h2 with h | h | h | h | h | h | h | h <;> subst h <;> decide
theorem hB_0 : hB (iI 0) (fun _ => False) := by
  intro p h0 h1
  obtain ⟨n, rfl⟩ := Int.eq_ofNat_of_zero_le h0
  rw [bit_s _ n (by omega)]
  simp [iI]
theorem hB_1 {w : Int} (hw : 0 ≤ w ∧ w < 8) : hB (iI 1 <<< (iI w &&& iI 31)) (fun p => p = w) := by
  intro p h0 h1
  obtain ⟨n, rfl⟩ := Int.eq_ofNat_of_zero_le h0
  obtain ⟨k, rfl⟩ := Int.eq_ofNat_of_zero_le hw.1
  rw [bit_s _ n (by omega), one_at k n (by omega) (by omega)]
  omega
theorem hB_or {v : Int32} {P : Int → Prop} {q : Int} (h : hB v P) (hq : 0 ≤ q ∧ q < 8) : hB (v ||| (iI 1 <<< (iI q &&& iI 31))) (fun p => P p ∨ p = q) := by
  intro p h0 h1
  have e := h p h0 h1
  obtain ⟨n, rfl⟩ := Int.eq_ofNat_of_zero_le h0
  obtain ⟨k, rfl⟩ := Int.eq_ofNat_of_zero_le hq.1
  rw [bit_s _ n (by omega)] at e ⊢
  rw [Int32.toBitVec_or, BitVec.getLsbD_or, Bool.or_eq_true, e, one_at k n (by omega) (by omega)]
  exact ⟨fun x => x.elim Or.inl (fun y => Or.inr (by omega)), fun x => x.elim Or.inl (fun y => Or.inr (by omega))⟩
theorem hB_cg {v : Int32} {P P' : Int → Prop} (h : hB v P) (k : ∀ p, 0 ≤ p → p < 8 → (P p ↔ P' p)) : hB v P' := fun p h0 h1 => (h p h0 h1).trans (k p h0 h1)
