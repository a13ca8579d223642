/-! THE TWO CONSTRUCTORS: the heap while they run, as lists of what was written -/
def lkM : List (Nat × Nat × Int32) → Nat → Nat → Int32 → Int32
  | [], _, _, x => x
  | (k, j, v) :: r, a, b, x => if a = k ∧ b = j then v else lkM r a b x
def lkR : List (Nat × Nat × Option Nat) → Nat → Nat → Option Nat
  | [], _, _ => none
  | (k, j, v) :: r, a, b => if a = k ∧ b = j then v else lkR r a b
def lkQ : List (Nat × Option Nat) → Nat → Option Nat
  | [], _ => none
  | (k, v) :: r, a => if a = k then v else lkQ r a
def b0 (xs : Nat → Int32) : Nat → Nat → Int32 := fun k j => if k = 0 then xs j else if k = 2 then (sby.getD 0 []).getD j 0 else if k = 4 then (sby.getD 1 []).getD j 0 else 0
def hz (L : Nat) (xs : Nat → Int32) (n Z : Nat) (w : List (Nat × Nat × Int32)) (r : List (Nat × Nat × Option Nat)) (q : List (Nat × Option Nat)) : aH := ((fun k => if k < n then sS L k else (99, 0)), (fun a b => lkM w a b (b0 xs a b)), (fun _ _ => 0), (fun a b => lkR r a b), (fun a => lkQ q a), n, Z)
def frs (n : Nat) (w : List (Nat × Nat × Int32)) (r : List (Nat × Nat × Option Nat)) (q : List (Nat × Option Nat)) : Bool := Nat.ble 5 n && (w.all (fun x => !Nat.beq x.1 n) && (r.all (fun x => !Nat.beq x.1 n) && q.all (fun x => !Nat.beq x.1 n)))
section HZ
variable {d : Nat} {L n Z k j z a b : Nat} {xs : Nat → Int32} {w : List (Nat × Nat × Int32)} {r : List (Nat × Nat × Option Nat)} {q : List (Nat × Option Nat)} {Q : Option Value → aH → Prop} {sh : Nat × Nat} {v : Int32} {o : Option Nat}
theorem lkM_no {x : Int32} : ∀ {w : List (Nat × Nat × Int32)}, w.all (fun x => !Nat.beq x.1 n) = true → lkM w n b x = x
  | [], _ => rfl
  | (k, j, v) :: r, h => by
    simp only [List.all_cons, Bool.and_eq_true, Bool.not_eq_true'] at h
    have e : ¬ (n = k ∧ b = j) := fun y => by
      rw [y.1] at h
      exact absurd (Nat.beq_refl k) (by rw [h.1]; decide)
    show (if n = k ∧ b = j then v else lkM r n b x) = x
    rw [if_neg e]
    exact lkM_no h.2
theorem lkR_no : ∀ {w : List (Nat × Nat × Option Nat)}, w.all (fun x => !Nat.beq x.1 n) = true → lkR w n b = none
  | [], _ => rfl
  | (k, j, v) :: r, h => by
    simp only [List.all_cons, Bool.and_eq_true, Bool.not_eq_true'] at h
    have e : ¬ (n = k ∧ b = j) := fun y => by
      rw [y.1] at h
      exact absurd (Nat.beq_refl k) (by rw [h.1]; decide)
    show (if n = k ∧ b = j then v else lkR r n b) = none
    rw [if_neg e]
    exact lkR_no h.2
theorem lkQ_no : ∀ {w : List (Nat × Option Nat)}, w.all (fun x => !Nat.beq x.1 n) = true → lkQ w n = none
  | [], _ => rfl
  | (k, v) :: r, h => by
    simp only [List.all_cons, Bool.and_eq_true, Bool.not_eq_true'] at h
    have e : ¬ n = k := fun y => by
      rw [y] at h
      exact absurd (Nat.beq_refl k) (by rw [h.1]; decide)
    show (if n = k then v else lkQ r n) = none
    rw [if_neg e]
    exact lkQ_no h.2
theorem b0_no (h : 5 ≤ n) : b0 xs n b = 0 := by
  unfold b0
  rw [if_neg (by omega), if_neg (by omega), if_neg (by omega)]
theorem pN_hz (e : sS L n = sh) (f : frs n w r q = true) : pN (hz L xs n Z w r q) sh z = hz L xs (n + 1) (Z + z) w r q := by
  unfold frs at f
  simp only [Bool.and_eq_true] at f
  obtain ⟨f1, f2, f3, f4⟩ := f
  have f1 := Nat.le_of_ble_eq_true f1
  unfold pN
  show ((fun a => if a = n then sh else if a < n then sS L a else (99, 0)), (fun a b => if a = n then 0 else lkM w a b (b0 xs a b)), (fun (a _ : Nat) => if a = n then 0 else 0), (fun a b => if a = n then none else lkR r a b), (fun a => if a = n then none else lkQ q a), n + 1, Z + z) = hz L xs (n + 1) (Z + z) w r q
  have e1 : (fun a => if a = n then sh else if a < n then sS L a else (99, 0)) = (fun a => if a < n + 1 then sS L a else (99, 0)) := by
    funext a
    by_cases c : a = n
    · rw [if_pos c, if_pos (by omega), c, e]
    · rw [if_neg c]
      by_cases c2 : a < n
      · rw [if_pos c2, if_pos (by omega)]
      · rw [if_neg c2, if_neg (by omega)]
  have e2 : (fun a b => if a = n then 0 else lkM w a b (b0 xs a b)) = (fun a b => lkM w a b (b0 xs a b)) := by
    funext a b
    by_cases c : a = n
    · rw [if_pos c, c, lkM_no f2, b0_no f1]
    · rw [if_neg c]
  have e3 : (fun (a _ : Nat) => if a = n then (0 : Int64) else 0) = (fun _ _ => 0) := by
    funext a b
    split <;> rfl
  have e4 : (fun a b => if a = n then none else lkR r a b) = (fun a b => lkR r a b) := by
    funext a b
    by_cases c : a = n
    · rw [if_pos c, c, lkR_no f3]
    · rw [if_neg c]
  have e5 : (fun a => if a = n then none else lkQ q a) = (fun a => lkQ q a) := by
    funext a
    by_cases c : a = n
    · rw [if_pos c, c, lkQ_no f4]
    · rw [if_neg c]
  rw [e1, e2, e3, e4, e5]
  rfl
theorem gN_hz : gN (hz L xs n Z w r q) = n := rfl
theorem pM_hz : pM (hz L xs n Z w r q) k j v = hz L xs n Z ((k, j, v) :: w) r q := rfl
theorem pR_hz : pR (hz L xs n Z w r q) k j o = hz L xs n Z w ((k, j, o) :: r) q := rfl
theorem pQ_hz : pQ (hz L xs n Z w r q) k o = hz L xs n Z w r ((k, o) :: q) := rfl
theorem gS_hz (h : Nat.blt k n = true) : gS (hz L xs n Z w r q) k = sS L k := if_pos (Nat.le_of_ble_eq_true h)
theorem gR_hz : gR (hz L xs n Z w r q) k j = lkR r k j := rfl
theorem gM_hz : gM (hz L xs n Z w r q) k j = lkM w k j (b0 xs k j) := rfl
theorem sS_eq (e : sS L k = sh) : (sS L k = sh) = True := eq_true e
theorem sS_17 : sS L 17 = (5, 6) := rfl
theorem sS_59 : sS L 59 = (1, 4) := rfl
theorem sS_77 : sS L 77 = (1, 4) := rfl
theorem ok_59 (h : Nat.blt 59 n = true) (z0 : 0 ≤ v.toInt ∧ v.toInt < 4) : isOK (hz L xs n Z w r q) 59 v = True := eq_true (by unfold isOK; rw [gS_hz h, sS_59]; exact ⟨rfl, z0⟩)
theorem ok_77 (h : Nat.blt 77 n = true) (z0 : 0 ≤ v.toInt ∧ v.toInt < 4) : isOK (hz L xs n Z w r q) 77 v = True := eq_true (by unfold isOK; rw [gS_hz h, sS_77]; exact ⟨rfl, z0⟩)
theorem ln_17 (h : Nat.blt 17 n = true) : lnOK (hz L xs n Z w r q) 17 = True := eq_true (by unfold lnOK; rw [gS_hz h, sS_17]; exact ⟨by decide, by decide, by decide⟩)
theorem ln_59 (h : Nat.blt 59 n = true) : lnOK (hz L xs n Z w r q) 59 = True := eq_true (by unfold lnOK; rw [gS_hz h, sS_59]; exact ⟨by decide, by decide, by decide⟩)
theorem ln_77 (h : Nat.blt 77 n = true) : lnOK (hz L xs n Z w r q) 77 = True := eq_true (by unfold lnOK; rw [gS_hz h, sS_77]; exact ⟨by decide, by decide, by decide⟩)
theorem rs_17 {x : Nat} (h : Nat.blt 17 n = true) (h2 : Nat.blt x n = true) (e : sS L x = (0, 1)) (z0 : 0 ≤ v.toInt ∧ v.toInt < 6) : rsOK (hz L xs n Z w r q) 17 v x 1 = True := eq_true (by unfold rsOK; rw [gS_hz h, gS_hz h2, sS_17, e]; exact ⟨rfl, rfl, z0⟩)
theorem ixn {y : Int} (h : 0 ≤ y ∧ y < 2147483648) : ix (iI y) = y.toNat := ix_iI h
def fr94 (w : List (Nat × Nat × Int32)) (r : List (Nat × Nat × Option Nat)) : Bool := w.all (fun x => Nat.blt x.1 94) && r.all (fun x => Nat.blt x.1 94)
theorem pA_hz (f : fr94 w r = true) : pA (hz L xs 94 Z w r q) 10 22 = hz L xs 105 (Z + 10 + 220) w ((94, 0, some 95) :: (94, 1, some 96) :: (94, 2, some 97) :: (94, 3, some 98) :: (94, 4, some 99) :: (94, 5, some 100) :: (94, 6, some 101) :: (94, 7, some 102) :: (94, 8, some 103) :: (94, 9, some 104) :: r) q := by
  unfold fr94 at f
  simp only [Bool.and_eq_true] at f
  obtain ⟨f2, f3⟩ := f
  have all2 : ∀ a, 94 ≤ a → w.all (fun x => !Nat.beq x.1 a) = true := fun a ha => by
    rw [List.all_eq_true] at f2 ⊢
    intro x hx
    have y : x.1 < 94 := Nat.le_of_ble_eq_true (f2 x hx)
    have z : ¬ x.1 = a := by omega
    cases hb : Nat.beq x.1 a with
    | false => rfl
    | true => exact absurd (Nat.eq_of_beq_eq_true hb) z
  unfold pA
  show ((fun a => if a = 94 then (6, 10) else if 94 < a ∧ a ≤ 94 + 10 then (1, 22) else if a < 94 then sS L a else (99, 0)), (fun a b => if 94 ≤ a ∧ a ≤ 94 + 10 then 0 else lkM w a b (b0 xs a b)), (fun (_ _ : Nat) => (0 : Int64)), (fun a b => if a = 94 ∧ b < 10 then some (94 + 1 + b) else lkR r a b), (fun a => lkQ q a), 94 + 1 + 10, Z + 10 + 10 * 22) = hz L xs 105 (Z + 10 + 220) w _ q
  have e1 : (fun a => if a = 94 then (6, 10) else if 94 < a ∧ a ≤ 94 + 10 then (1, 22) else if a < 94 then sS L a else (99, 0)) = (fun a => if a < 105 then sS L a else (99, 0)) := by
    funext a
    by_cases c : a = 94
    · rw [if_pos c, c]
      rfl
    · rw [if_neg c]
      by_cases c2 : a < 94
      · rw [if_neg (by omega), if_pos c2, if_pos (by omega)]
      · by_cases c3 : a ≤ 104
        · rw [if_pos (by omega), if_pos (by omega)]
          have e : a = 95 ∨ a = 96 ∨ a = 97 ∨ a = 98 ∨ a = 99 ∨ a = 100 ∨ a = 101 ∨ a = 102 ∨ a = 103 ∨ a = 104 := by omega
          rcases e with y | y | y | y | y | y | y | y | y | y <;> subst y <;> rfl
        · rw [if_neg (by omega), if_neg (by omega), if_neg (by omega)]
  have e2 : (fun a b => if 94 ≤ a ∧ a ≤ 94 + 10 then 0 else lkM w a b (b0 xs a b)) = (fun a b => lkM w a b (b0 xs a b)) := by
    funext a b
    by_cases c : 94 ≤ a ∧ a ≤ 94 + 10
    · rw [if_pos c, lkM_no (all2 a c.1), b0_no (by omega)]
    · rw [if_neg c]
  have e4 : (fun a b => if a = 94 ∧ b < 10 then some (94 + 1 + b) else lkR r a b) = (fun a b => lkR ((94, 0, some 95) :: (94, 1, some 96) :: (94, 2, some 97) :: (94, 3, some 98) :: (94, 4, some 99) :: (94, 5, some 100) :: (94, 6, some 101) :: (94, 7, some 102) :: (94, 8, some 103) :: (94, 9, some 104) :: r) a b) := by
    funext a b
    by_cases c : a = 94
    · subst c
      by_cases c2 : b < 10
      · rw [if_pos ⟨rfl, c2⟩]
        have e : b = 0 ∨ b = 1 ∨ b = 2 ∨ b = 3 ∨ b = 4 ∨ b = 5 ∨ b = 6 ∨ b = 7 ∨ b = 8 ∨ b = 9 := by omega
        rcases e with y | y | y | y | y | y | y | y | y | y <;> subst y <;> rfl
      · rw [if_neg (by omega)]
        simp only [lkR]
        repeat rw [if_neg (by omega)]
    · rw [if_neg (fun y => c y.1)]
      simp only [lkR]
      repeat rw [if_neg (fun y => c y.1)]
  rw [e1, e2, e4]
  rfl
theorem cst6 : ((6 : Nat) : Int) = 6 := rfl
theorem cst4 : ((4 : Nat) : Int) = 4 := rfl
theorem imx {x : Int} (h : 0 ≤ x) : max (0 : Int) x = x := by omega
/-! when both are made it is the run's heap -/
def s00 : sg := fun K z => if K = 48008 ∨ K = 66008 ∨ K = 122004 ∨ K = 122005 then -1 else if (K = 59 ∨ K = 77) ∧ 0 ≤ z ∧ z < 4 then 100 else if K = 16900 ∨ K = 84900 then 11 else 0
theorem sS_out (h : 156 ≤ k) : sS L k = (99, 0) := by
  unfold sS
  split <;> first | rfl | omega
theorem dne {c : Prop} [Decidable c] {α : Type} {x : α} {f : c → α} {g : ¬ c → α} (h1 : ∀ hc, f hc = x) (h2 : ∀ hc, g hc = x) : dite c f g = x := by
  by_cases hc : c
  · rw [dif_pos hc]; exact h1 hc
  · rw [dif_neg hc]; exact h2 hc
def rwB : List (Nat × Nat) := [(5, 10), (6, 4), (11, 4), (16, 4), (17, 6), (18, 4), (23, 4), (28, 4), (33, 4), (38, 4), (43, 4), (48, 7), (49, 4), (51, 4), (53, 4), (55, 4), (57, 4), (60, 5), (66, 7), (67, 4), (69, 4), (71, 4), (73, 4), (75, 4), (78, 5), (84, 3), (87, 9), (94, 10), (105, 7), (106, 5), (112, 5), (119, 3), (122, 51)]
def inB (a b : Nat) : Bool := rwB.any (fun x => Nat.beq a x.1 && Nat.blt b x.2)
set_option maxHeartbeats 8000000 in
theorem sR_out (h : inB a b = false) : sR a b = none := by
  delta sR sR.match_1
  change dite _ _ _ = none
  repeat' (first | (refine dne (fun hc => ?_) (fun hc => ?_)) | (exact rfl) | (subst hc; change dite _ _ _ = none) | (subst hc; exact absurd h (by decide)))
theorem tbv_out (h : ¬ (a < 156 ∧ b < 12)) : tbv a b = none := by
  unfold tbv
  split <;> first | rfl | omega
theorem nin_out : ∀ {H : List Nat}, H.all (fun x => Nat.blt x 156) = true → 156 ≤ k → nin k H = true
  | [], _, _ => rfl
  | x :: r, h, hk => by
    simp only [List.all_cons, Bool.and_eq_true] at h
    have y : x < 156 := Nat.le_of_ble_eq_true h.1
    have z := nin_out h.2 hk
    simp only [nin, Bool.and_eq_true, Bool.not_eq_true']
    refine ⟨?_, z⟩
    cases hb : Nat.beq x k with
    | false => rfl
    | true => exact absurd (Nat.eq_of_beq_eq_true hb) (by omega)
theorem isO_out (h : 156 ≤ k) : isO k = false := by
  unfold isO
  rw [nin_out (by decide) h]
  rfl
def rOK (r : List (Nat × Nat × Option Nat)) : Bool := r.all (fun x => inB x.1 x.2.1) && rwB.all (fun x => (List.range x.2).all (fun b => decide (lkR r x.1 b = sR x.1 b)))
theorem lkR_out (h : inB a b = false) : ∀ {r : List (Nat × Nat × Option Nat)}, r.all (fun x => inB x.1 x.2.1) = true → lkR r a b = none
  | [], _ => rfl
  | (k, j, v) :: r, e => by
    simp only [List.all_cons, Bool.and_eq_true] at e
    have ne : ¬ (a = k ∧ b = j) := fun y => by
      rw [y.1, y.2] at h
      rw [e.1] at h
      cases h
    show (if a = k ∧ b = j then v else lkR r a b) = none
    rw [if_neg ne]
    exact lkR_out h e.2
theorem rOK_eq (h : rOK r = true) : lkR r a b = sR a b := by
  unfold rOK at h
  simp only [Bool.and_eq_true] at h
  cases c : inB a b with
  | true =>
    obtain ⟨x, hx, hb⟩ := List.any_eq_true.mp c
    simp only [Bool.and_eq_true] at hb
    have e1 := Nat.eq_of_beq_eq_true hb.1
    have e2 : b < x.2 := Nat.le_of_ble_eq_true hb.2
    have q := List.all_eq_true.mp h.2 x hx
    have q2 := of_decide_eq_true (List.all_eq_true.mp q b (List.mem_range.mpr e2))
    rw [← e1] at q2
    exact q2
  | false => rw [lkR_out c h.1, sR_out c]
def vM (a b : Nat) : Int32 := if isO a = true then (match tbv a b with | some v => iI v | none => iI (s00 (1000 * a + b) 0)) else if a = 140 then 0 else iI (s00 a b)
def wOK (w : List (Nat × Nat × Int32)) : Bool := w.all (fun x => (Nat.ble 5 x.1 && Nat.blt x.1 156) && Nat.blt x.2.1 12) && (List.range 151).all (fun a => (List.range 12).all (fun b => decide (lkM w (a + 5) b 0 = vM (a + 5) b)))
theorem lkM_out {x : Int32} (h : ¬ ((5 ≤ a ∧ a < 156) ∧ b < 12)) : ∀ {w : List (Nat × Nat × Int32)}, w.all (fun x => (Nat.ble 5 x.1 && Nat.blt x.1 156) && Nat.blt x.2.1 12) = true → lkM w a b x = x
  | [], _ => rfl
  | (k, j, v) :: r, e => by
    simp only [List.all_cons, Bool.and_eq_true] at e
    have y0 : 5 ≤ k := Nat.le_of_ble_eq_true e.1.1.1
    have y1 : k < 156 := Nat.le_of_ble_eq_true e.1.1.2
    have y2 : j < 12 := Nat.le_of_ble_eq_true e.1.2
    show (if a = k ∧ b = j then v else lkM r a b x) = x
    rw [if_neg (by omega)]
    exact lkM_out h e.2
theorem s00_z {K : Nat} {z : Int} (h : ¬ (K = 48008 ∨ K = 66008 ∨ K = 122004 ∨ K = 122005)) (h2 : ¬ ((K = 59 ∨ K = 77) ∧ 0 ≤ z ∧ z < 4)) (h3 : ¬ (K = 16900 ∨ K = 84900)) : s00 K z = 0 := by
  unfold s00
  rw [if_neg h, if_neg h2, if_neg h3]
theorem wOK_eq (h : wOK w = true) : lkM w a b (b0 xs a b) = hM (L, xs) s00 a b := by
  unfold wOK at h
  simp only [Bool.and_eq_true] at h
  unfold hM
  by_cases c0 : a = 0
  · rw [if_pos c0, lkM_out (by omega) h.1]
    unfold b0
    rw [if_pos c0]
  rw [if_neg c0]
  by_cases c2 : a = 2
  · rw [if_pos c2, lkM_out (by omega) h.1]
    unfold b0
    rw [if_neg c0, if_pos c2]
  rw [if_neg c2]
  by_cases c4 : a = 4
  · rw [if_pos c4, lkM_out (by omega) h.1]
    unfold b0
    rw [if_neg c0, if_neg c2, if_pos c4]
  rw [if_neg c4]
  have eb : b0 xs a b = 0 := by
    unfold b0
    rw [if_neg c0, if_neg c2, if_neg c4]
  rw [eb]
  by_cases c5 : 5 ≤ a ∧ a < 156
  · by_cases cb : b < 12
    · have q := List.all_eq_true.mp h.2 (a - 5) (List.mem_range.mpr (by omega))
      have q2 := of_decide_eq_true (List.all_eq_true.mp q b (List.mem_range.mpr cb))
      rw [show a - 5 + 5 = a by omega] at q2
      rw [q2]
      unfold vM
      by_cases o : isO a = true
      · rw [if_pos o, if_pos o, if_pos (by omega)]
        cases tbv a b <;> rfl
      · rw [if_neg o, if_neg o]
        by_cases c : a = 140
        · rw [if_pos c, if_neg (by omega)]
        · rw [if_neg c, if_pos (by omega)]
    · rw [lkM_out (by omega) h.1]
      by_cases o : isO a = true
      · rw [if_pos o]
        by_cases c6 : b < 60
        · rw [if_pos c6, tbv_out (by omega)]
          show 0 = iI (s00 (1000 * a + b) 0)
          rw [s00_z (by omega) (by omega) (by omega)]
          rfl
        · rw [if_neg c6]
      · rw [if_neg o]
        by_cases c : a = 140
        · rw [if_neg (by omega)]
        · rw [if_pos (by omega), s00_z (by omega) (by omega) (by omega)]
          rfl
  · rw [lkM_out (by omega) h.1]
    by_cases c7 : a < 156
    · have e : a = 1 ∨ a = 3 := by omega
      have o : isO a = false := by rcases e with y | y <;> subst y <;> rfl
      rw [o, if_neg (show ¬ (false = true) by decide), if_pos (by omega), s00_z (by omega) (by omega) (by omega)]
      rfl
    · rw [isO_out (by omega), if_neg (show ¬ (false = true) by decide), if_neg (by omega)]
theorem hz_hp (e1 : rOK r = true) (e2 : wOK w = true) : hz L xs 156 13756 w r [(84, some 11), (16, some 11)] = hp (L, xs) s00 := by
  unfold hz hp
  have f1 : (fun k => if k < 156 then sS L k else (99, 0)) = sS L := by
    funext k
    by_cases c : k < 156
    · rw [if_pos c]
    · rw [if_neg c, sS_out (by omega)]
  have f2 : (fun a b => lkM w a b (b0 xs a b)) = hM (L, xs) s00 := by
    funext a b
    exact wOK_eq e2
  have f3 : (fun (_ _ : Nat) => (0 : Int64)) = (fun (k j : Nat) => if k = 140 then lI (s00 140 j) else 0) := by
    funext k j
    by_cases c : k = 140
    · rw [if_pos c, s00_z (by omega) (by omega) (by omega)]
      rfl
    · rw [if_neg c]
  have f4 : (fun a b => lkR r a b) = sR := by
    funext a b
    exact rOK_eq e1
  have f5 : (fun a => lkQ [(84, some 11), (16, some 11)] a) = (fun (k : Nat) => if k = 16 ∨ k = 84 then rq (s00 (1000 * k + 900) 0) else none) := by
    funext a
    by_cases c : a = 84
    · subst c; rfl
    · by_cases c2 : a = 16
      · subst c2; rfl
      · simp only [lkQ]
        rw [if_neg c, if_neg c2, if_neg (by omega)]
  rw [f1, f2, f3, f4, f5]
end HZ
