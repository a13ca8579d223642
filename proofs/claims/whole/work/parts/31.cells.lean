/-! THE RUN'S HEAP: 151 cells that the two constructors make; printed by program (wip/whole/gencells.py, names: cells.py) -/
def sS (x : Nat) : Nat → Nat × Nat := fun k => match k with
  | 0 => (7, x)
  | 1 => (8, 0)
  | 2 => (9, 71)
  | 3 => (8, 1)
  | 4 => (9, 11)
  | 5 => (0, 10)
  | 6 => (0, 7)
  | 7 => (1, 300)
  | 8 => (1, 301)
  | 9 => (1, 301)
  | 10 => (1, 301)
  | 11 => (0, 1)
  | 12 => (1, 300)
  | 13 => (1, 10)
  | 14 => (1, 10)
  | 15 => (1, 10)
  | 16 => (0, 3)
  | 17 => (5, 6)
  | 18 => (0, 1)
  | 19 => (1, 300)
  | 20 => (1, 10)
  | 21 => (1, 10)
  | 22 => (1, 10)
  | 23 => (0, 1)
  | 24 => (1, 300)
  | 25 => (1, 10)
  | 26 => (1, 10)
  | 27 => (1, 10)
  | 28 => (0, 1)
  | 29 => (1, 300)
  | 30 => (1, 10)
  | 31 => (1, 10)
  | 32 => (1, 10)
  | 33 => (0, 1)
  | 34 => (1, 300)
  | 35 => (1, 10)
  | 36 => (1, 10)
  | 37 => (1, 10)
  | 38 => (0, 1)
  | 39 => (1, 300)
  | 40 => (1, 10)
  | 41 => (1, 10)
  | 42 => (1, 10)
  | 43 => (0, 1)
  | 44 => (1, 300)
  | 45 => (1, 10)
  | 46 => (1, 10)
  | 47 => (1, 10)
  | 48 => (0, 5)
  | 49 => (0, 6)
  | 50 => (1, 40)
  | 51 => (0, 6)
  | 52 => (1, 24)
  | 53 => (0, 6)
  | 54 => (1, 40)
  | 55 => (0, 6)
  | 56 => (1, 264)
  | 57 => (0, 6)
  | 58 => (1, 120)
  | 59 => (1, 4)
  | 60 => (0, 9)
  | 61 => (1, 22)
  | 62 => (1, 6)
  | 63 => (1, 6)
  | 64 => (1, 10)
  | 65 => (1, 10)
  | 66 => (0, 5)
  | 67 => (0, 6)
  | 68 => (1, 40)
  | 69 => (0, 6)
  | 70 => (1, 24)
  | 71 => (0, 6)
  | 72 => (1, 40)
  | 73 => (0, 6)
  | 74 => (1, 264)
  | 75 => (0, 6)
  | 76 => (1, 120)
  | 77 => (1, 4)
  | 78 => (0, 9)
  | 79 => (1, 22)
  | 80 => (1, 6)
  | 81 => (1, 6)
  | 82 => (1, 10)
  | 83 => (1, 10)
  | 84 => (0, 4)
  | 85 => (1, 6)
  | 86 => (1, 300)
  | 87 => (0, 2)
  | 88 => (1, 22)
  | 89 => (1, 22)
  | 90 => (1, 22)
  | 91 => (1, 22)
  | 92 => (2, 22)
  | 93 => (1, 22)
  | 94 => (6, 10)
  | 95 => (1, 22)
  | 96 => (1, 22)
  | 97 => (1, 22)
  | 98 => (1, 22)
  | 99 => (1, 22)
  | 100 => (1, 22)
  | 101 => (1, 22)
  | 102 => (1, 22)
  | 103 => (1, 22)
  | 104 => (1, 22)
  | 105 => (0, 8)
  | 106 => (0, 9)
  | 107 => (1, 22)
  | 108 => (1, 6)
  | 109 => (1, 6)
  | 110 => (1, 10)
  | 111 => (1, 10)
  | 112 => (0, 9)
  | 113 => (1, 22)
  | 114 => (1, 6)
  | 115 => (1, 6)
  | 116 => (1, 10)
  | 117 => (1, 10)
  | 118 => (1, 10)
  | 119 => (0, 0)
  | 120 => (1, 8)
  | 121 => (2, 30)
  | 122 => (0, 11)
  | 123 => (1, 570)
  | 124 => (1, 570)
  | 125 => (3, 300)
  | 126 => (1, 6)
  | 127 => (1, 60)
  | 128 => (1, 60)
  | 129 => (1, 2400)
  | 130 => (1, 2400)
  | 131 => (1, 40)
  | 132 => (1, 41)
  | 133 => (1, 80)
  | 134 => (1, 80)
  | 135 => (1, 10)
  | 136 => (1, 10)
  | 137 => (1, 400)
  | 138 => (1, 400)
  | 139 => (1, 6)
  | 140 => (4, 200)
  | 141 => (1, 22)
  | 142 => (1, 22)
  | 143 => (1, 22)
  | 144 => (1, 22)
  | 145 => (2, 22)
  | 146 => (1, 220)
  | 147 => (1, 6)
  | 148 => (1, 6)
  | 149 => (1, 10)
  | 150 => (1, 10)
  | 151 => (1, 22)
  | 152 => (1, 22)
  | 153 => (1, 16)
  | 154 => (1, 8)
  | 155 => (2, 30)
  | _ => (99, 0)
def sR : Nat → Nat → Option Nat := fun k j => match k, j with
  | 5, 0 => some 6
  | 5, 1 => some 16
  | 5, 2 => some 17
  | 5, 3 => some 11
  | 5, 4 => some 48
  | 5, 5 => some 66
  | 5, 6 => some 84
  | 5, 7 => some 87
  | 5, 8 => some 105
  | 5, 9 => some 119
  | 6, 0 => some 7
  | 6, 1 => some 8
  | 6, 2 => some 9
  | 6, 3 => some 10
  | 11, 0 => some 12
  | 11, 1 => some 13
  | 11, 2 => some 14
  | 11, 3 => some 15
  | 16, 3 => some 6
  | 17, 0 => some 18
  | 17, 1 => some 23
  | 17, 2 => some 28
  | 17, 3 => some 33
  | 17, 4 => some 38
  | 17, 5 => some 43
  | 18, 0 => some 19
  | 18, 1 => some 20
  | 18, 2 => some 21
  | 18, 3 => some 22
  | 23, 0 => some 24
  | 23, 1 => some 25
  | 23, 2 => some 26
  | 23, 3 => some 27
  | 28, 0 => some 29
  | 28, 1 => some 30
  | 28, 2 => some 31
  | 28, 3 => some 32
  | 33, 0 => some 34
  | 33, 1 => some 35
  | 33, 2 => some 36
  | 33, 3 => some 37
  | 38, 0 => some 39
  | 38, 1 => some 40
  | 38, 2 => some 41
  | 38, 3 => some 42
  | 43, 0 => some 44
  | 43, 1 => some 45
  | 43, 2 => some 46
  | 43, 3 => some 47
  | 48, 0 => some 49
  | 48, 1 => some 51
  | 48, 2 => some 53
  | 48, 3 => some 55
  | 48, 4 => some 57
  | 48, 5 => some 59
  | 48, 6 => some 60
  | 49, 3 => some 50
  | 51, 3 => some 52
  | 53, 3 => some 54
  | 55, 3 => some 56
  | 57, 3 => some 58
  | 60, 0 => some 61
  | 60, 1 => some 62
  | 60, 2 => some 63
  | 60, 3 => some 64
  | 60, 4 => some 65
  | 66, 0 => some 67
  | 66, 1 => some 69
  | 66, 2 => some 71
  | 66, 3 => some 73
  | 66, 4 => some 75
  | 66, 5 => some 77
  | 66, 6 => some 78
  | 67, 3 => some 68
  | 69, 3 => some 70
  | 71, 3 => some 72
  | 73, 3 => some 74
  | 75, 3 => some 76
  | 78, 0 => some 79
  | 78, 1 => some 80
  | 78, 2 => some 81
  | 78, 3 => some 82
  | 78, 4 => some 83
  | 84, 0 => some 48
  | 84, 1 => some 85
  | 84, 2 => some 86
  | 87, 0 => some 88
  | 87, 1 => some 89
  | 87, 2 => some 90
  | 87, 3 => some 91
  | 87, 4 => some 92
  | 87, 5 => some 93
  | 87, 6 => some 94
  | 87, 7 => some 48
  | 87, 8 => some 84
  | 94, 0 => some 95
  | 94, 1 => some 96
  | 94, 2 => some 97
  | 94, 3 => some 98
  | 94, 4 => some 99
  | 94, 5 => some 100
  | 94, 6 => some 101
  | 94, 7 => some 102
  | 94, 8 => some 103
  | 94, 9 => some 104
  | 105, 0 => some 106
  | 105, 1 => some 112
  | 105, 3 => some 48
  | 105, 4 => some 84
  | 105, 5 => some 87
  | 105, 6 => some 118
  | 106, 0 => some 107
  | 106, 1 => some 108
  | 106, 2 => some 109
  | 106, 3 => some 110
  | 106, 4 => some 111
  | 112, 0 => some 113
  | 112, 1 => some 114
  | 112, 2 => some 115
  | 112, 3 => some 116
  | 112, 4 => some 117
  | 119, 0 => some 120
  | 119, 1 => some 57
  | 119, 2 => some 121
  | 122, 0 => some 123
  | 122, 1 => some 124
  | 122, 2 => some 125
  | 122, 6 => some 126
  | 122, 7 => some 127
  | 122, 8 => some 128
  | 122, 9 => some 129
  | 122, 10 => some 130
  | 122, 20 => some 131
  | 122, 21 => some 132
  | 122, 23 => some 133
  | 122, 24 => some 134
  | 122, 28 => some 135
  | 122, 29 => some 136
  | 122, 31 => some 137
  | 122, 32 => some 138
  | 122, 33 => some 139
  | 122, 34 => some 140
  | 122, 35 => some 141
  | 122, 36 => some 142
  | 122, 37 => some 143
  | 122, 38 => some 144
  | 122, 39 => some 145
  | 122, 40 => some 146
  | 122, 41 => some 147
  | 122, 42 => some 148
  | 122, 43 => some 149
  | 122, 44 => some 150
  | 122, 45 => some 151
  | 122, 46 => some 152
  | 122, 48 => some 153
  | 122, 49 => some 154
  | 122, 50 => some 155
  | _, _ => none
def tbv : Nat → Nat → Option Int := fun k j => match k, j with
  | 49, 0 => some 10
  | 49, 1 => some 10
  | 49, 2 => some 4
  | 51, 0 => some 6
  | 51, 1 => some 6
  | 51, 2 => some 4
  | 53, 0 => some 10
  | 53, 1 => some 10
  | 53, 2 => some 4
  | 55, 0 => some 20
  | 55, 1 => some 22
  | 55, 2 => some 12
  | 57, 0 => some 30
  | 57, 1 => some 30
  | 57, 2 => some 4
  | 67, 0 => some 10
  | 67, 1 => some 10
  | 67, 2 => some 4
  | 69, 0 => some 6
  | 69, 1 => some 6
  | 69, 2 => some 4
  | 71, 0 => some 10
  | 71, 1 => some 10
  | 71, 2 => some 4
  | 73, 0 => some 20
  | 73, 1 => some 22
  | 73, 2 => some 12
  | 75, 0 => some 30
  | 75, 1 => some 30
  | 75, 2 => some 4
  | _, _ => none
def rq (z : Int) : Option Nat := if z < 0 then none else some z.toNat
def isO (k : Nat) : Bool := !(nin k [5, 6, 11, 16, 18, 23, 28, 33, 38, 43, 48, 49, 51, 53, 55, 57, 60, 66, 67, 69, 71, 73, 75, 78, 84, 87, 105, 106, 112, 119, 122])
abbrev hX : Type := Nat × (Nat → Int32)
def hM (X : hX) (s : sg) : Nat → Nat → Int32 := fun k j => if k = 0 then X.2 j else if k = 2 then (sby.getD 0 []).getD j 0 else if k = 4 then (sby.getD 1 []).getD j 0 else if isO k = true then (if j < 60 then (match tbv k j with | some v => iI v | none => iI (s (1000 * k + j) 0)) else 0) else if k < 156 ∧ ¬ k = 140 then iI (s k j) else 0
def hp (X : hX) (s : sg) : aH := (sS X.1, hM X s, (fun k j => if k = 140 then lI (s 140 j) else 0), sR, (fun k => if k = 16 ∨ k = 84 then rq (s (1000 * k + 900) 0) else none), 156, 13756)
theorem isO_5 {k : Nat} (h : isO k = true) : 5 ≤ k := by
  by_cases c : 5 ≤ k
  · exact c
  · have : k = 0 ∨ k = 1 ∨ k = 2 ∨ k = 3 ∨ k = 4 := by omega
    rcases this with e | e | e | e | e <;> subst e <;> exact absurd h (by decide)
theorem hM_u {X : hX} {s : sg} {K : Nat} {f : Int → Int} {a b : Nat} (h : (isO a = true ∧ b < 60 ∧ tbv a b = none → ¬ K = 1000 * a + b) ∧ (isO a = false ∧ ¬ a = 0 ∧ ¬ a = 2 ∧ ¬ a = 4 ∧ a < 156 ∧ ¬ a = 140 → ¬ K = a)) : hM X (u s K f) a b = hM X s a b := by
  unfold hM
  by_cases c0 : a = 0
  · rw [if_pos c0, if_pos c0]
  rw [if_neg c0, if_neg c0]
  by_cases c2 : a = 2
  · rw [if_pos c2, if_pos c2]
  rw [if_neg c2, if_neg c2]
  by_cases c4 : a = 4
  · rw [if_pos c4, if_pos c4]
  rw [if_neg c4, if_neg c4]
  by_cases o : isO a = true
  · rw [if_pos o, if_pos o]
    by_cases q : b < 60
    · rw [if_pos q, if_pos q]
      cases t : tbv a b with
      | some v => rfl
      | none =>
        show iI (u s K f (1000 * a + b) 0) = iI (s (1000 * a + b) 0)
        rw [u_ne (fun e => h.1 ⟨o, q, t⟩ e.symm)]
    · rw [if_neg q, if_neg q]
  · rw [if_neg o, if_neg o]
    by_cases q : a < 156 ∧ ¬ a = 140
    · rw [if_pos q, if_pos q]
      rw [u_ne (fun e => h.2 ⟨by simpa using o, c0, c2, c4, q⟩ e.symm)]
    · rw [if_neg q, if_neg q]
theorem hp_u {X : hX} {s : sg} {K : Nat} {f : Int → Int} {M : Nat → Nat → Int32} (h1 : hM X (u s K f) = M) (h2 : ¬ K = 140 ∧ ¬ K = 16900 ∧ ¬ K = 84900) : (sS X.1, M, (hp X s).2.2) = hp X (u s K f) := by
  obtain ⟨a1, a2, a3⟩ := h2
  have e2 : (fun (a j : Nat) => if a = 140 then lI (u s K f 140 j) else 0) = (fun (a j : Nat) => if a = 140 then lI (s 140 j) else 0) := by
    funext a j
    rw [u_ne (fun e => a1 e.symm)]
  have e3 : (fun (a : Nat) => if a = 16 ∨ a = 84 then rq (u s K f (1000 * a + 900) 0) else none) = (fun (a : Nat) => if a = 16 ∨ a = 84 then rq (s (1000 * a + 900) 0) else none) := by
    funext a
    by_cases c : a = 16 ∨ a = 84
    · rw [if_pos c, if_pos c, u_ne (by omega)]
    · rw [if_neg c, if_neg c]
  unfold hp
  rw [h1, e2, e3]
section CELLS
variable {X : hX} {s : sg} {z v : Int} {p : Prop} {k j : Nat}
theorem gA_hp (h : isO k = false ∧ ¬ k = 0 ∧ ¬ k = 2 ∧ ¬ k = 4 ∧ k < 156 ∧ ¬ k = 140) (hz : 0 ≤ z ∧ z < 2147483648) : gM (hp X s) k (ix (iI z)) = iI (s k z) := by
  obtain ⟨o, c0, c2, c4, q⟩ := h
  show hM X s k _ = _
  unfold hM
  rw [if_neg c0, if_neg c2, if_neg c4, o, if_neg (show ¬ (false = true) by decide), if_pos q, ix_iI hz, Int.toNat_of_nonneg hz.1]
theorem pA_hp (h : isO k = false ∧ ¬ k = 0 ∧ ¬ k = 2 ∧ ¬ k = 4 ∧ k < 156 ∧ ¬ k = 140) (hz : 0 ≤ z ∧ z < 2147483648) : pM (hp X s) k (ix (iI z)) (iI v) = hp X (u s k (up (s k) z v)) := by
  obtain ⟨o, c0, c2, c4, q⟩ := h
  refine hp_u (M := fun a b => if a = k ∧ b = ix (iI z) then iI v else hM X s a b) ?_ (by omega)
  funext a b
  have arr : ∀ s : sg, hM X s k b = iI (s k b) := by
    intro s
    unfold hM
    rw [if_neg c0, if_neg c2, if_neg c4, o, if_neg (show ¬ (false = true) by decide), if_pos q]
  by_cases c : a = k
  · subst c
    rw [arr, arr, u_eq, up_at, ix_iI hz]
    by_cases e : b = z.toNat
    · have e2 : (b : Int) = z := by omega
      simp only [e2, if_true]
      simp only [e, and_self, if_true]
    · have e2 : ¬ (b : Int) = z := by omega
      simp only [e2, if_false]
      simp only [e, and_false, if_false]
  · rw [if_neg (fun x => c x.1), hM_u]
    refine ⟨?_, ?_⟩
    · intro ⟨x, y, _⟩
      have := isO_5 x
      omega
    · intro _ e
      exact c e.symm
theorem gF_hp (h : isO k = true ∧ j < 60 ∧ tbv k j = none) : gM (hp X s) k j = iI (s (1000 * k + j) 0) := by
  obtain ⟨o, c, t⟩ := h
  have k5 := isO_5 o
  show hM X s k j = _
  unfold hM
  rw [if_neg (by omega), if_neg (by omega), if_neg (by omega), if_pos o, if_pos c, t]
theorem pF_hp (h : isO k = true ∧ j < 60 ∧ tbv k j = none) : pM (hp X s) k j (iI v) = hp X (u s (1000 * k + j) (fun _ => v)) := by
  obtain ⟨o, c, t⟩ := h
  have k5 := isO_5 o
  refine hp_u (M := fun a b => if a = k ∧ b = j then iI v else hM X s a b) ?_ (by omega)
  funext a b
  by_cases e : a = k ∧ b = j
  · obtain ⟨e1, e2⟩ := e
    subst e1
    subst e2
    rw [if_pos ⟨rfl, rfl⟩]
    unfold hM
    rw [if_neg (by omega), if_neg (by omega), if_neg (by omega), if_pos o, if_pos c, t]
    show iI (u s (1000 * a + b) (fun _ => v) (1000 * a + b) 0) = _
    rw [u_eq]
  · rw [if_neg e, hM_u]
    refine ⟨?_, ?_⟩
    · intro ⟨_, y, _⟩ q
      exact e ⟨by omega, by omega⟩
    · intro ⟨_, _, _, _, y, _⟩ q
      omega
theorem gL_hp (z : Int) (hz : 0 ≤ z ∧ z < 2147483648) : gL (hp X s) 140 (ix (iI z)) = lI (s 140 z) := by
  show (if 140 = 140 then lI (s 140 (ix (iI z))) else 0) = _
  rw [if_pos rfl, ix_iI hz, Int.toNat_of_nonneg hz.1]
theorem pL_hp (hz : 0 ≤ z ∧ z < 2147483648) : pL (hp X s) 140 (ix (iI z)) (lI v) = hp X (u s 140 (up (s 140) z v)) := by
  have e1 : hM X (u s 140 (up (s 140) z v)) = hM X s := by
    funext a b
    refine hM_u ⟨?_, ?_⟩
    · intro ⟨x, y, _⟩
      have := isO_5 x
      omega
    · intro ⟨_, _, _, _, _, y⟩ q
      exact y q.symm
  have e2 : (fun (a b : Nat) => if a = 140 ∧ b = ix (iI z) then lI v else if a = 140 then lI (s 140 b) else 0) = (fun (a j : Nat) => if a = 140 then lI (u s 140 (up (s 140) z v) 140 j) else 0) := by
    funext a b
    by_cases c : a = 140
    · rw [u_eq, up_at, ix_iI hz]
      by_cases e : b = z.toNat
      · have e2 : (b : Int) = z := by omega
        simp only [e2, if_true, c]
        simp only [e, and_self, if_true]
      · have e2 : ¬ (b : Int) = z := by omega
        simp only [e2, if_false, c, if_true]
        simp only [e, and_false, if_false]
    · rw [if_neg (fun x => c x.1), if_neg c, if_neg c]
  have e3 : (fun (a : Nat) => if a = 16 ∨ a = 84 then rq (u s 140 (up (s 140) z v) (1000 * a + 900) 0) else none) = (fun (a : Nat) => if a = 16 ∨ a = 84 then rq (s (1000 * a + 900) 0) else none) := by
    funext a
    rw [u_ne (by omega)]
  show (sS X.1, hM X s, (fun (a b : Nat) => if a = 140 ∧ b = ix (iI z) then lI v else if a = 140 then lI (s 140 b) else 0), sR, (fun (a : Nat) => if a = 16 ∨ a = 84 then rq (s (1000 * a + 900) 0) else none), _) = hp X (u s 140 (up (s 140) z v))
  unfold hp
  rw [e1, e2, e3]
theorem gQ_hp (h : k = 16 ∨ k = 84) : gQ (hp X s) k = rq (s (1000 * k + 900) 0) := if_pos h
theorem rq_n (n : Nat) : rq n = some n := by
  unfold rq
  rw [if_neg (by omega)]
  rfl
theorem pQ_hp (h : k = 16 ∨ k = 84) (n : Nat) : pQ (hp X s) k (some n) = hp X (u s (1000 * k + 900) (fun _ => (n : Int))) := by
  have e1 : hM X (u s (1000 * k + 900) (fun _ => (n : Int))) = hM X s := by
    funext a b
    refine hM_u ⟨?_, ?_⟩
    · intro ⟨x, y, _⟩
      omega
    · intro ⟨_, _, _, _, y, _⟩ q
      omega
  have e2 : (fun (a j : Nat) => if a = 140 then lI (u s (1000 * k + 900) (fun _ => (n : Int)) 140 j) else 0) = (fun (a j : Nat) => if a = 140 then lI (s 140 j) else 0) := by
    funext a j
    rw [u_ne (by omega)]
  have e3 : (fun (a : Nat) => if a = k then some n else if a = 16 ∨ a = 84 then rq (s (1000 * a + 900) 0) else none) = (fun (a : Nat) => if a = 16 ∨ a = 84 then rq (u s (1000 * k + 900) (fun _ => (n : Int)) (1000 * a + 900) 0) else none) := by
    funext a
    by_cases c : a = k
    · subst c
      rw [if_pos rfl, if_pos h, u_eq, rq_n]
    · rw [if_neg c, u_ne (by omega)]
  show (sS X.1, hM X s, (fun (k j : Nat) => if k = 140 then lI (s 140 j) else 0), sR, (fun (a : Nat) => if a = k then some n else if a = 16 ∨ a = 84 then rq (s (1000 * a + 900) 0) else none), _) = _
  unfold hp
  rw [e1, e2, e3]
theorem lnk {a n : Nat} (h1 : 1 ≤ a) (h2 : a ≤ 9) (h3 : a ≠ 8) : 1 ≤ (a, n).1 ∧ (a, n).1 ≤ 9 ∧ (a, n).1 ≠ 8 := ⟨h1, h2, h3⟩
theorem ok_1 {h : aH} {n : Nat} (e : gS h k = (1, n)) (hn : n < 100000) : (∀ {z : Int}, 0 ≤ z ∧ z < n → iaOK h k (iI z) = True) ∧ (∀ {z : Int}, 0 ≤ z ∧ z < n → isOK h k (iI z) = True) ∧ (lnOK h k = True) := by
  refine ⟨?_, ?_, ?_⟩
  · intro z hz
    apply eq_true
    unfold iaOK
    rw [e, iI_toInt (by omega)]
    exact ⟨Or.inl rfl, hz⟩
  · intro z hz
    apply eq_true
    unfold isOK
    rw [e, iI_toInt (by omega)]
    exact ⟨rfl, hz⟩
  · apply eq_true
    unfold lnOK
    rw [e]
    exact lnk (by decide) (by decide) (by decide)
theorem ok_2 {h : aH} {n : Nat} (e : gS h k = (2, n)) (hn : n < 100000) : (∀ {z : Int}, 0 ≤ z ∧ z < n → baOK h k (iI z) = True) ∧ (∀ {z : Int} {p : Prop}, 0 ≤ z ∧ z < n → zsOK h k (iI z) (iI (bZ p)) = True) ∧ (∀ {z : Int}, 0 ≤ z ∧ z < n → zsOK h k (iI z) (iI 0) = True) ∧ (∀ {z : Int}, 0 ≤ z ∧ z < n → zsOK h k (iI z) (iI 1) = True) ∧ (lnOK h k = True) := by
  refine ⟨?_, ?_, ?_, ?_, ?_⟩
  · intro z hz
    apply eq_true
    unfold baOK
    rw [e, iI_toInt (by omega)]
    exact ⟨Or.inl rfl, hz⟩
  · intro z p hz
    apply eq_true
    unfold zsOK
    rw [e, iI_toInt (by omega), bI_b]
    exact ⟨⟨rfl, trivial⟩, hz⟩
  · intro z hz
    apply eq_true
    unfold zsOK
    rw [e, iI_toInt (by omega)]
    exact ⟨⟨rfl, Or.inl rfl⟩, hz⟩
  · intro z hz
    apply eq_true
    unfold zsOK
    rw [e, iI_toInt (by omega)]
    exact ⟨⟨rfl, Or.inr rfl⟩, hz⟩
  · apply eq_true
    unfold lnOK
    rw [e]
    exact lnk (by decide) (by decide) (by decide)
theorem ok_3 {h : aH} {n : Nat} (e : gS h k = (3, n)) (hn : n < 100000) : (∀ {z : Int}, 0 ≤ z ∧ z < n → baOK h k (iI z) = True) ∧ (∀ {z : Int}, 0 ≤ z ∧ z < n → bsOK h k (iI z) = True) := by
  refine ⟨?_, ?_⟩
  · intro z hz
    apply eq_true
    unfold baOK
    rw [e, iI_toInt (by omega)]
    exact ⟨Or.inr (Or.inl rfl), hz⟩
  · intro z hz
    apply eq_true
    unfold bsOK
    rw [e, iI_toInt (by omega)]
    exact ⟨rfl, hz⟩
theorem ok_4 {h : aH} {n : Nat} (e : gS h k = (4, n)) (hn : n < 100000) : ∀ {z : Int}, 0 ≤ z ∧ z < n → laOK h k (iI z) = True := by
  intro z hz
  apply eq_true
  unfold laOK
  rw [e, iI_toInt (by omega)]
  exact ⟨rfl, hz⟩
theorem ok_5 {h : aH} {n : Nat} (e : gS h k = (5, n) ∨ gS h k = (6, n)) (hn : n < 100000) : (∀ {z : Int}, 0 ≤ z ∧ z < n → raOK h k (iI z) = True) ∧ (lnOK h k = True) := by
  refine ⟨?_, ?_⟩
  · intro z hz
    apply eq_true
    unfold raOK
    rcases e with e | e <;> rw [e, iI_toInt (by omega)]
    · exact ⟨Or.inl rfl, hz⟩
    · exact ⟨Or.inr rfl, hz⟩
  · apply eq_true
    unfold lnOK
    rcases e with e | e <;> rw [e]
    · exact lnk (by decide) (by decide) (by decide)
    · exact lnk (by decide) (by decide) (by decide)
end CELLS
theorem H_5 {X : hX} {s : sg} : gS (hp X s) 5 = (0, 10) ∧ gR (hp X s) 5 0 = some 6 ∧ gR (hp X s) 5 1 = some 16 ∧ gR (hp X s) 5 2 = some 17 ∧ gR (hp X s) 5 3 = some 11 ∧ gR (hp X s) 5 4 = some 48 ∧ gR (hp X s) 5 5 = some 66 ∧ gR (hp X s) 5 6 = some 84 ∧ gR (hp X s) 5 7 = some 87 ∧ gR (hp X s) 5 8 = some 105 ∧ gR (hp X s) 5 9 = some 119 := ⟨rfl, rfl, rfl, rfl, rfl, rfl, rfl, rfl, rfl, rfl, rfl⟩
theorem H_6 {X : hX} {s : sg} : gS (hp X s) 6 = (0, 7) ∧ gR (hp X s) 6 0 = some 7 ∧ gR (hp X s) 6 1 = some 8 ∧ gR (hp X s) 6 2 = some 9 ∧ gR (hp X s) 6 3 = some 10 ∧ gM (hp X s) 6 4 = iI (s 6004 0) ∧ (∀ {v : Int}, pM (hp X s) 6 4 (iI v) = hp X (u s 6004 (fun _ => v))) ∧ gM (hp X s) 6 5 = iI (s 6005 0) ∧ (∀ {v : Int}, pM (hp X s) 6 5 (iI v) = hp X (u s 6005 (fun _ => v))) := ⟨rfl, rfl, rfl, rfl, rfl, gF_hp ⟨rfl, (by decide), rfl⟩, pF_hp ⟨rfl, (by decide), rfl⟩, gF_hp ⟨rfl, (by decide), rfl⟩, pF_hp ⟨rfl, (by decide), rfl⟩⟩
theorem H_7 {X : hX} {s : sg} : gS (hp X s) 7 = (1, 300) ∧ (∀ {z : Int}, 0 ≤ z ∧ z < 2147483648 → gM (hp X s) 7 (ix (iI z)) = iI (s 7 z)) ∧ (∀ {z v : Int}, 0 ≤ z ∧ z < 2147483648 → pM (hp X s) 7 (ix (iI z)) (iI v) = hp X (u s 7 (up (s 7) z v))) ∧ (∀ {z : Int}, 0 ≤ z ∧ z < 300 → iaOK (hp X s) 7 (iI z) = True) ∧ (∀ {z : Int}, 0 ≤ z ∧ z < 300 → isOK (hp X s) 7 (iI z) = True) ∧ lnOK (hp X s) 7 = True := ⟨rfl, gA_hp ⟨rfl, (by decide)⟩, pA_hp ⟨rfl, (by decide)⟩, ok_1 (h := hp X s) (k := 7) (n := 300) rfl (by decide)⟩
theorem H_8 {X : hX} {s : sg} : gS (hp X s) 8 = (1, 301) ∧ (∀ {z : Int}, 0 ≤ z ∧ z < 2147483648 → gM (hp X s) 8 (ix (iI z)) = iI (s 8 z)) ∧ (∀ {z v : Int}, 0 ≤ z ∧ z < 2147483648 → pM (hp X s) 8 (ix (iI z)) (iI v) = hp X (u s 8 (up (s 8) z v))) ∧ (∀ {z : Int}, 0 ≤ z ∧ z < 301 → iaOK (hp X s) 8 (iI z) = True) ∧ (∀ {z : Int}, 0 ≤ z ∧ z < 301 → isOK (hp X s) 8 (iI z) = True) ∧ lnOK (hp X s) 8 = True := ⟨rfl, gA_hp ⟨rfl, (by decide)⟩, pA_hp ⟨rfl, (by decide)⟩, ok_1 (h := hp X s) (k := 8) (n := 301) rfl (by decide)⟩
theorem H_9 {X : hX} {s : sg} : gS (hp X s) 9 = (1, 301) ∧ (∀ {z : Int}, 0 ≤ z ∧ z < 2147483648 → gM (hp X s) 9 (ix (iI z)) = iI (s 9 z)) ∧ (∀ {z v : Int}, 0 ≤ z ∧ z < 2147483648 → pM (hp X s) 9 (ix (iI z)) (iI v) = hp X (u s 9 (up (s 9) z v))) ∧ (∀ {z : Int}, 0 ≤ z ∧ z < 301 → iaOK (hp X s) 9 (iI z) = True) ∧ (∀ {z : Int}, 0 ≤ z ∧ z < 301 → isOK (hp X s) 9 (iI z) = True) ∧ lnOK (hp X s) 9 = True := ⟨rfl, gA_hp ⟨rfl, (by decide)⟩, pA_hp ⟨rfl, (by decide)⟩, ok_1 (h := hp X s) (k := 9) (n := 301) rfl (by decide)⟩
theorem H_10 {X : hX} {s : sg} : gS (hp X s) 10 = (1, 301) ∧ (∀ {z : Int}, 0 ≤ z ∧ z < 2147483648 → gM (hp X s) 10 (ix (iI z)) = iI (s 10 z)) ∧ (∀ {z v : Int}, 0 ≤ z ∧ z < 2147483648 → pM (hp X s) 10 (ix (iI z)) (iI v) = hp X (u s 10 (up (s 10) z v))) ∧ (∀ {z : Int}, 0 ≤ z ∧ z < 301 → iaOK (hp X s) 10 (iI z) = True) ∧ (∀ {z : Int}, 0 ≤ z ∧ z < 301 → isOK (hp X s) 10 (iI z) = True) ∧ lnOK (hp X s) 10 = True := ⟨rfl, gA_hp ⟨rfl, (by decide)⟩, pA_hp ⟨rfl, (by decide)⟩, ok_1 (h := hp X s) (k := 10) (n := 301) rfl (by decide)⟩
theorem H_11 {X : hX} {s : sg} : gS (hp X s) 11 = (0, 1) ∧ gR (hp X s) 11 0 = some 12 ∧ gR (hp X s) 11 1 = some 13 ∧ gR (hp X s) 11 2 = some 14 ∧ gR (hp X s) 11 3 = some 15 ∧ gM (hp X s) 11 4 = iI (s 11004 0) ∧ (∀ {v : Int}, pM (hp X s) 11 4 (iI v) = hp X (u s 11004 (fun _ => v))) ∧ gM (hp X s) 11 5 = iI (s 11005 0) ∧ (∀ {v : Int}, pM (hp X s) 11 5 (iI v) = hp X (u s 11005 (fun _ => v))) := ⟨rfl, rfl, rfl, rfl, rfl, gF_hp ⟨rfl, (by decide), rfl⟩, pF_hp ⟨rfl, (by decide), rfl⟩, gF_hp ⟨rfl, (by decide), rfl⟩, pF_hp ⟨rfl, (by decide), rfl⟩⟩
theorem H_12 {X : hX} {s : sg} : gS (hp X s) 12 = (1, 300) ∧ (∀ {z : Int}, 0 ≤ z ∧ z < 2147483648 → gM (hp X s) 12 (ix (iI z)) = iI (s 12 z)) ∧ (∀ {z v : Int}, 0 ≤ z ∧ z < 2147483648 → pM (hp X s) 12 (ix (iI z)) (iI v) = hp X (u s 12 (up (s 12) z v))) ∧ (∀ {z : Int}, 0 ≤ z ∧ z < 300 → iaOK (hp X s) 12 (iI z) = True) ∧ (∀ {z : Int}, 0 ≤ z ∧ z < 300 → isOK (hp X s) 12 (iI z) = True) ∧ lnOK (hp X s) 12 = True := ⟨rfl, gA_hp ⟨rfl, (by decide)⟩, pA_hp ⟨rfl, (by decide)⟩, ok_1 (h := hp X s) (k := 12) (n := 300) rfl (by decide)⟩
theorem H_13 {X : hX} {s : sg} : gS (hp X s) 13 = (1, 10) ∧ (∀ {z : Int}, 0 ≤ z ∧ z < 2147483648 → gM (hp X s) 13 (ix (iI z)) = iI (s 13 z)) ∧ (∀ {z v : Int}, 0 ≤ z ∧ z < 2147483648 → pM (hp X s) 13 (ix (iI z)) (iI v) = hp X (u s 13 (up (s 13) z v))) ∧ (∀ {z : Int}, 0 ≤ z ∧ z < 10 → iaOK (hp X s) 13 (iI z) = True) ∧ (∀ {z : Int}, 0 ≤ z ∧ z < 10 → isOK (hp X s) 13 (iI z) = True) ∧ lnOK (hp X s) 13 = True := ⟨rfl, gA_hp ⟨rfl, (by decide)⟩, pA_hp ⟨rfl, (by decide)⟩, ok_1 (h := hp X s) (k := 13) (n := 10) rfl (by decide)⟩
theorem H_14 {X : hX} {s : sg} : gS (hp X s) 14 = (1, 10) ∧ (∀ {z : Int}, 0 ≤ z ∧ z < 2147483648 → gM (hp X s) 14 (ix (iI z)) = iI (s 14 z)) ∧ (∀ {z v : Int}, 0 ≤ z ∧ z < 2147483648 → pM (hp X s) 14 (ix (iI z)) (iI v) = hp X (u s 14 (up (s 14) z v))) ∧ (∀ {z : Int}, 0 ≤ z ∧ z < 10 → iaOK (hp X s) 14 (iI z) = True) ∧ (∀ {z : Int}, 0 ≤ z ∧ z < 10 → isOK (hp X s) 14 (iI z) = True) ∧ lnOK (hp X s) 14 = True := ⟨rfl, gA_hp ⟨rfl, (by decide)⟩, pA_hp ⟨rfl, (by decide)⟩, ok_1 (h := hp X s) (k := 14) (n := 10) rfl (by decide)⟩
theorem H_15 {X : hX} {s : sg} : gS (hp X s) 15 = (1, 10) ∧ (∀ {z : Int}, 0 ≤ z ∧ z < 2147483648 → gM (hp X s) 15 (ix (iI z)) = iI (s 15 z)) ∧ (∀ {z v : Int}, 0 ≤ z ∧ z < 2147483648 → pM (hp X s) 15 (ix (iI z)) (iI v) = hp X (u s 15 (up (s 15) z v))) ∧ (∀ {z : Int}, 0 ≤ z ∧ z < 10 → iaOK (hp X s) 15 (iI z) = True) ∧ (∀ {z : Int}, 0 ≤ z ∧ z < 10 → isOK (hp X s) 15 (iI z) = True) ∧ lnOK (hp X s) 15 = True := ⟨rfl, gA_hp ⟨rfl, (by decide)⟩, pA_hp ⟨rfl, (by decide)⟩, ok_1 (h := hp X s) (k := 15) (n := 10) rfl (by decide)⟩
theorem H_16 {X : hX} {s : sg} : gS (hp X s) 16 = (0, 3) ∧ gR (hp X s) 16 3 = some 6 ∧ gM (hp X s) 16 0 = iI (s 16000 0) ∧ (∀ {v : Int}, pM (hp X s) 16 0 (iI v) = hp X (u s 16000 (fun _ => v))) ∧ gM (hp X s) 16 1 = iI (s 16001 0) ∧ (∀ {v : Int}, pM (hp X s) 16 1 (iI v) = hp X (u s 16001 (fun _ => v))) ∧ gM (hp X s) 16 2 = iI (s 16002 0) ∧ (∀ {v : Int}, pM (hp X s) 16 2 (iI v) = hp X (u s 16002 (fun _ => v))) ∧ gM (hp X s) 16 5 = iI (s 16005 0) ∧ (∀ {v : Int}, pM (hp X s) 16 5 (iI v) = hp X (u s 16005 (fun _ => v))) ∧ gM (hp X s) 16 6 = iI (s 16006 0) ∧ (∀ {v : Int}, pM (hp X s) 16 6 (iI v) = hp X (u s 16006 (fun _ => v))) ∧ gQ (hp X s) 16 = rq (s 16900 0) ∧ (∀ {n : Nat}, pQ (hp X s) 16 (some n) = hp X (u s 16900 (fun _ => (n : Int)))) := ⟨rfl, rfl, gF_hp ⟨rfl, (by decide), rfl⟩, pF_hp ⟨rfl, (by decide), rfl⟩, gF_hp ⟨rfl, (by decide), rfl⟩, pF_hp ⟨rfl, (by decide), rfl⟩, gF_hp ⟨rfl, (by decide), rfl⟩, pF_hp ⟨rfl, (by decide), rfl⟩, gF_hp ⟨rfl, (by decide), rfl⟩, pF_hp ⟨rfl, (by decide), rfl⟩, gF_hp ⟨rfl, (by decide), rfl⟩, pF_hp ⟨rfl, (by decide), rfl⟩, gQ_hp (by decide), pQ_hp (by decide) _⟩
theorem H_17 {X : hX} {s : sg} : gS (hp X s) 17 = (5, 6) ∧ (∀ {z : Int}, 0 ≤ z ∧ z < 6 → raOK (hp X s) 17 (iI z) = True) ∧ lnOK (hp X s) 17 = True := ⟨rfl, ok_5 (h := hp X s) (k := 17) (n := 6) (Or.inl rfl) (by decide)⟩
theorem H_18 {X : hX} {s : sg} : gS (hp X s) 18 = (0, 1) ∧ gR (hp X s) 18 0 = some 19 ∧ gR (hp X s) 18 1 = some 20 ∧ gR (hp X s) 18 2 = some 21 ∧ gR (hp X s) 18 3 = some 22 ∧ gM (hp X s) 18 4 = iI (s 18004 0) ∧ (∀ {v : Int}, pM (hp X s) 18 4 (iI v) = hp X (u s 18004 (fun _ => v))) ∧ gM (hp X s) 18 5 = iI (s 18005 0) ∧ (∀ {v : Int}, pM (hp X s) 18 5 (iI v) = hp X (u s 18005 (fun _ => v))) := ⟨rfl, rfl, rfl, rfl, rfl, gF_hp ⟨rfl, (by decide), rfl⟩, pF_hp ⟨rfl, (by decide), rfl⟩, gF_hp ⟨rfl, (by decide), rfl⟩, pF_hp ⟨rfl, (by decide), rfl⟩⟩
theorem H_19 {X : hX} {s : sg} : gS (hp X s) 19 = (1, 300) ∧ (∀ {z : Int}, 0 ≤ z ∧ z < 2147483648 → gM (hp X s) 19 (ix (iI z)) = iI (s 19 z)) ∧ (∀ {z v : Int}, 0 ≤ z ∧ z < 2147483648 → pM (hp X s) 19 (ix (iI z)) (iI v) = hp X (u s 19 (up (s 19) z v))) ∧ (∀ {z : Int}, 0 ≤ z ∧ z < 300 → iaOK (hp X s) 19 (iI z) = True) ∧ (∀ {z : Int}, 0 ≤ z ∧ z < 300 → isOK (hp X s) 19 (iI z) = True) ∧ lnOK (hp X s) 19 = True := ⟨rfl, gA_hp ⟨rfl, (by decide)⟩, pA_hp ⟨rfl, (by decide)⟩, ok_1 (h := hp X s) (k := 19) (n := 300) rfl (by decide)⟩
theorem H_20 {X : hX} {s : sg} : gS (hp X s) 20 = (1, 10) ∧ (∀ {z : Int}, 0 ≤ z ∧ z < 2147483648 → gM (hp X s) 20 (ix (iI z)) = iI (s 20 z)) ∧ (∀ {z v : Int}, 0 ≤ z ∧ z < 2147483648 → pM (hp X s) 20 (ix (iI z)) (iI v) = hp X (u s 20 (up (s 20) z v))) ∧ (∀ {z : Int}, 0 ≤ z ∧ z < 10 → iaOK (hp X s) 20 (iI z) = True) ∧ (∀ {z : Int}, 0 ≤ z ∧ z < 10 → isOK (hp X s) 20 (iI z) = True) ∧ lnOK (hp X s) 20 = True := ⟨rfl, gA_hp ⟨rfl, (by decide)⟩, pA_hp ⟨rfl, (by decide)⟩, ok_1 (h := hp X s) (k := 20) (n := 10) rfl (by decide)⟩
theorem H_21 {X : hX} {s : sg} : gS (hp X s) 21 = (1, 10) ∧ (∀ {z : Int}, 0 ≤ z ∧ z < 2147483648 → gM (hp X s) 21 (ix (iI z)) = iI (s 21 z)) ∧ (∀ {z v : Int}, 0 ≤ z ∧ z < 2147483648 → pM (hp X s) 21 (ix (iI z)) (iI v) = hp X (u s 21 (up (s 21) z v))) ∧ (∀ {z : Int}, 0 ≤ z ∧ z < 10 → iaOK (hp X s) 21 (iI z) = True) ∧ (∀ {z : Int}, 0 ≤ z ∧ z < 10 → isOK (hp X s) 21 (iI z) = True) ∧ lnOK (hp X s) 21 = True := ⟨rfl, gA_hp ⟨rfl, (by decide)⟩, pA_hp ⟨rfl, (by decide)⟩, ok_1 (h := hp X s) (k := 21) (n := 10) rfl (by decide)⟩
theorem H_22 {X : hX} {s : sg} : gS (hp X s) 22 = (1, 10) ∧ (∀ {z : Int}, 0 ≤ z ∧ z < 2147483648 → gM (hp X s) 22 (ix (iI z)) = iI (s 22 z)) ∧ (∀ {z v : Int}, 0 ≤ z ∧ z < 2147483648 → pM (hp X s) 22 (ix (iI z)) (iI v) = hp X (u s 22 (up (s 22) z v))) ∧ (∀ {z : Int}, 0 ≤ z ∧ z < 10 → iaOK (hp X s) 22 (iI z) = True) ∧ (∀ {z : Int}, 0 ≤ z ∧ z < 10 → isOK (hp X s) 22 (iI z) = True) ∧ lnOK (hp X s) 22 = True := ⟨rfl, gA_hp ⟨rfl, (by decide)⟩, pA_hp ⟨rfl, (by decide)⟩, ok_1 (h := hp X s) (k := 22) (n := 10) rfl (by decide)⟩
theorem H_23 {X : hX} {s : sg} : gS (hp X s) 23 = (0, 1) ∧ gR (hp X s) 23 0 = some 24 ∧ gR (hp X s) 23 1 = some 25 ∧ gR (hp X s) 23 2 = some 26 ∧ gR (hp X s) 23 3 = some 27 ∧ gM (hp X s) 23 4 = iI (s 23004 0) ∧ (∀ {v : Int}, pM (hp X s) 23 4 (iI v) = hp X (u s 23004 (fun _ => v))) ∧ gM (hp X s) 23 5 = iI (s 23005 0) ∧ (∀ {v : Int}, pM (hp X s) 23 5 (iI v) = hp X (u s 23005 (fun _ => v))) := ⟨rfl, rfl, rfl, rfl, rfl, gF_hp ⟨rfl, (by decide), rfl⟩, pF_hp ⟨rfl, (by decide), rfl⟩, gF_hp ⟨rfl, (by decide), rfl⟩, pF_hp ⟨rfl, (by decide), rfl⟩⟩
theorem H_24 {X : hX} {s : sg} : gS (hp X s) 24 = (1, 300) ∧ (∀ {z : Int}, 0 ≤ z ∧ z < 2147483648 → gM (hp X s) 24 (ix (iI z)) = iI (s 24 z)) ∧ (∀ {z v : Int}, 0 ≤ z ∧ z < 2147483648 → pM (hp X s) 24 (ix (iI z)) (iI v) = hp X (u s 24 (up (s 24) z v))) ∧ (∀ {z : Int}, 0 ≤ z ∧ z < 300 → iaOK (hp X s) 24 (iI z) = True) ∧ (∀ {z : Int}, 0 ≤ z ∧ z < 300 → isOK (hp X s) 24 (iI z) = True) ∧ lnOK (hp X s) 24 = True := ⟨rfl, gA_hp ⟨rfl, (by decide)⟩, pA_hp ⟨rfl, (by decide)⟩, ok_1 (h := hp X s) (k := 24) (n := 300) rfl (by decide)⟩
theorem H_25 {X : hX} {s : sg} : gS (hp X s) 25 = (1, 10) ∧ (∀ {z : Int}, 0 ≤ z ∧ z < 2147483648 → gM (hp X s) 25 (ix (iI z)) = iI (s 25 z)) ∧ (∀ {z v : Int}, 0 ≤ z ∧ z < 2147483648 → pM (hp X s) 25 (ix (iI z)) (iI v) = hp X (u s 25 (up (s 25) z v))) ∧ (∀ {z : Int}, 0 ≤ z ∧ z < 10 → iaOK (hp X s) 25 (iI z) = True) ∧ (∀ {z : Int}, 0 ≤ z ∧ z < 10 → isOK (hp X s) 25 (iI z) = True) ∧ lnOK (hp X s) 25 = True := ⟨rfl, gA_hp ⟨rfl, (by decide)⟩, pA_hp ⟨rfl, (by decide)⟩, ok_1 (h := hp X s) (k := 25) (n := 10) rfl (by decide)⟩
theorem H_26 {X : hX} {s : sg} : gS (hp X s) 26 = (1, 10) ∧ (∀ {z : Int}, 0 ≤ z ∧ z < 2147483648 → gM (hp X s) 26 (ix (iI z)) = iI (s 26 z)) ∧ (∀ {z v : Int}, 0 ≤ z ∧ z < 2147483648 → pM (hp X s) 26 (ix (iI z)) (iI v) = hp X (u s 26 (up (s 26) z v))) ∧ (∀ {z : Int}, 0 ≤ z ∧ z < 10 → iaOK (hp X s) 26 (iI z) = True) ∧ (∀ {z : Int}, 0 ≤ z ∧ z < 10 → isOK (hp X s) 26 (iI z) = True) ∧ lnOK (hp X s) 26 = True := ⟨rfl, gA_hp ⟨rfl, (by decide)⟩, pA_hp ⟨rfl, (by decide)⟩, ok_1 (h := hp X s) (k := 26) (n := 10) rfl (by decide)⟩
theorem H_27 {X : hX} {s : sg} : gS (hp X s) 27 = (1, 10) ∧ (∀ {z : Int}, 0 ≤ z ∧ z < 2147483648 → gM (hp X s) 27 (ix (iI z)) = iI (s 27 z)) ∧ (∀ {z v : Int}, 0 ≤ z ∧ z < 2147483648 → pM (hp X s) 27 (ix (iI z)) (iI v) = hp X (u s 27 (up (s 27) z v))) ∧ (∀ {z : Int}, 0 ≤ z ∧ z < 10 → iaOK (hp X s) 27 (iI z) = True) ∧ (∀ {z : Int}, 0 ≤ z ∧ z < 10 → isOK (hp X s) 27 (iI z) = True) ∧ lnOK (hp X s) 27 = True := ⟨rfl, gA_hp ⟨rfl, (by decide)⟩, pA_hp ⟨rfl, (by decide)⟩, ok_1 (h := hp X s) (k := 27) (n := 10) rfl (by decide)⟩
theorem H_28 {X : hX} {s : sg} : gS (hp X s) 28 = (0, 1) ∧ gR (hp X s) 28 0 = some 29 ∧ gR (hp X s) 28 1 = some 30 ∧ gR (hp X s) 28 2 = some 31 ∧ gR (hp X s) 28 3 = some 32 ∧ gM (hp X s) 28 4 = iI (s 28004 0) ∧ (∀ {v : Int}, pM (hp X s) 28 4 (iI v) = hp X (u s 28004 (fun _ => v))) ∧ gM (hp X s) 28 5 = iI (s 28005 0) ∧ (∀ {v : Int}, pM (hp X s) 28 5 (iI v) = hp X (u s 28005 (fun _ => v))) := ⟨rfl, rfl, rfl, rfl, rfl, gF_hp ⟨rfl, (by decide), rfl⟩, pF_hp ⟨rfl, (by decide), rfl⟩, gF_hp ⟨rfl, (by decide), rfl⟩, pF_hp ⟨rfl, (by decide), rfl⟩⟩
theorem H_29 {X : hX} {s : sg} : gS (hp X s) 29 = (1, 300) ∧ (∀ {z : Int}, 0 ≤ z ∧ z < 2147483648 → gM (hp X s) 29 (ix (iI z)) = iI (s 29 z)) ∧ (∀ {z v : Int}, 0 ≤ z ∧ z < 2147483648 → pM (hp X s) 29 (ix (iI z)) (iI v) = hp X (u s 29 (up (s 29) z v))) ∧ (∀ {z : Int}, 0 ≤ z ∧ z < 300 → iaOK (hp X s) 29 (iI z) = True) ∧ (∀ {z : Int}, 0 ≤ z ∧ z < 300 → isOK (hp X s) 29 (iI z) = True) ∧ lnOK (hp X s) 29 = True := ⟨rfl, gA_hp ⟨rfl, (by decide)⟩, pA_hp ⟨rfl, (by decide)⟩, ok_1 (h := hp X s) (k := 29) (n := 300) rfl (by decide)⟩
theorem H_30 {X : hX} {s : sg} : gS (hp X s) 30 = (1, 10) ∧ (∀ {z : Int}, 0 ≤ z ∧ z < 2147483648 → gM (hp X s) 30 (ix (iI z)) = iI (s 30 z)) ∧ (∀ {z v : Int}, 0 ≤ z ∧ z < 2147483648 → pM (hp X s) 30 (ix (iI z)) (iI v) = hp X (u s 30 (up (s 30) z v))) ∧ (∀ {z : Int}, 0 ≤ z ∧ z < 10 → iaOK (hp X s) 30 (iI z) = True) ∧ (∀ {z : Int}, 0 ≤ z ∧ z < 10 → isOK (hp X s) 30 (iI z) = True) ∧ lnOK (hp X s) 30 = True := ⟨rfl, gA_hp ⟨rfl, (by decide)⟩, pA_hp ⟨rfl, (by decide)⟩, ok_1 (h := hp X s) (k := 30) (n := 10) rfl (by decide)⟩
theorem H_31 {X : hX} {s : sg} : gS (hp X s) 31 = (1, 10) ∧ (∀ {z : Int}, 0 ≤ z ∧ z < 2147483648 → gM (hp X s) 31 (ix (iI z)) = iI (s 31 z)) ∧ (∀ {z v : Int}, 0 ≤ z ∧ z < 2147483648 → pM (hp X s) 31 (ix (iI z)) (iI v) = hp X (u s 31 (up (s 31) z v))) ∧ (∀ {z : Int}, 0 ≤ z ∧ z < 10 → iaOK (hp X s) 31 (iI z) = True) ∧ (∀ {z : Int}, 0 ≤ z ∧ z < 10 → isOK (hp X s) 31 (iI z) = True) ∧ lnOK (hp X s) 31 = True := ⟨rfl, gA_hp ⟨rfl, (by decide)⟩, pA_hp ⟨rfl, (by decide)⟩, ok_1 (h := hp X s) (k := 31) (n := 10) rfl (by decide)⟩
theorem H_32 {X : hX} {s : sg} : gS (hp X s) 32 = (1, 10) ∧ (∀ {z : Int}, 0 ≤ z ∧ z < 2147483648 → gM (hp X s) 32 (ix (iI z)) = iI (s 32 z)) ∧ (∀ {z v : Int}, 0 ≤ z ∧ z < 2147483648 → pM (hp X s) 32 (ix (iI z)) (iI v) = hp X (u s 32 (up (s 32) z v))) ∧ (∀ {z : Int}, 0 ≤ z ∧ z < 10 → iaOK (hp X s) 32 (iI z) = True) ∧ (∀ {z : Int}, 0 ≤ z ∧ z < 10 → isOK (hp X s) 32 (iI z) = True) ∧ lnOK (hp X s) 32 = True := ⟨rfl, gA_hp ⟨rfl, (by decide)⟩, pA_hp ⟨rfl, (by decide)⟩, ok_1 (h := hp X s) (k := 32) (n := 10) rfl (by decide)⟩
theorem H_33 {X : hX} {s : sg} : gS (hp X s) 33 = (0, 1) ∧ gR (hp X s) 33 0 = some 34 ∧ gR (hp X s) 33 1 = some 35 ∧ gR (hp X s) 33 2 = some 36 ∧ gR (hp X s) 33 3 = some 37 ∧ gM (hp X s) 33 4 = iI (s 33004 0) ∧ (∀ {v : Int}, pM (hp X s) 33 4 (iI v) = hp X (u s 33004 (fun _ => v))) ∧ gM (hp X s) 33 5 = iI (s 33005 0) ∧ (∀ {v : Int}, pM (hp X s) 33 5 (iI v) = hp X (u s 33005 (fun _ => v))) := ⟨rfl, rfl, rfl, rfl, rfl, gF_hp ⟨rfl, (by decide), rfl⟩, pF_hp ⟨rfl, (by decide), rfl⟩, gF_hp ⟨rfl, (by decide), rfl⟩, pF_hp ⟨rfl, (by decide), rfl⟩⟩
theorem H_34 {X : hX} {s : sg} : gS (hp X s) 34 = (1, 300) ∧ (∀ {z : Int}, 0 ≤ z ∧ z < 2147483648 → gM (hp X s) 34 (ix (iI z)) = iI (s 34 z)) ∧ (∀ {z v : Int}, 0 ≤ z ∧ z < 2147483648 → pM (hp X s) 34 (ix (iI z)) (iI v) = hp X (u s 34 (up (s 34) z v))) ∧ (∀ {z : Int}, 0 ≤ z ∧ z < 300 → iaOK (hp X s) 34 (iI z) = True) ∧ (∀ {z : Int}, 0 ≤ z ∧ z < 300 → isOK (hp X s) 34 (iI z) = True) ∧ lnOK (hp X s) 34 = True := ⟨rfl, gA_hp ⟨rfl, (by decide)⟩, pA_hp ⟨rfl, (by decide)⟩, ok_1 (h := hp X s) (k := 34) (n := 300) rfl (by decide)⟩
theorem H_35 {X : hX} {s : sg} : gS (hp X s) 35 = (1, 10) ∧ (∀ {z : Int}, 0 ≤ z ∧ z < 2147483648 → gM (hp X s) 35 (ix (iI z)) = iI (s 35 z)) ∧ (∀ {z v : Int}, 0 ≤ z ∧ z < 2147483648 → pM (hp X s) 35 (ix (iI z)) (iI v) = hp X (u s 35 (up (s 35) z v))) ∧ (∀ {z : Int}, 0 ≤ z ∧ z < 10 → iaOK (hp X s) 35 (iI z) = True) ∧ (∀ {z : Int}, 0 ≤ z ∧ z < 10 → isOK (hp X s) 35 (iI z) = True) ∧ lnOK (hp X s) 35 = True := ⟨rfl, gA_hp ⟨rfl, (by decide)⟩, pA_hp ⟨rfl, (by decide)⟩, ok_1 (h := hp X s) (k := 35) (n := 10) rfl (by decide)⟩
theorem H_36 {X : hX} {s : sg} : gS (hp X s) 36 = (1, 10) ∧ (∀ {z : Int}, 0 ≤ z ∧ z < 2147483648 → gM (hp X s) 36 (ix (iI z)) = iI (s 36 z)) ∧ (∀ {z v : Int}, 0 ≤ z ∧ z < 2147483648 → pM (hp X s) 36 (ix (iI z)) (iI v) = hp X (u s 36 (up (s 36) z v))) ∧ (∀ {z : Int}, 0 ≤ z ∧ z < 10 → iaOK (hp X s) 36 (iI z) = True) ∧ (∀ {z : Int}, 0 ≤ z ∧ z < 10 → isOK (hp X s) 36 (iI z) = True) ∧ lnOK (hp X s) 36 = True := ⟨rfl, gA_hp ⟨rfl, (by decide)⟩, pA_hp ⟨rfl, (by decide)⟩, ok_1 (h := hp X s) (k := 36) (n := 10) rfl (by decide)⟩
theorem H_37 {X : hX} {s : sg} : gS (hp X s) 37 = (1, 10) ∧ (∀ {z : Int}, 0 ≤ z ∧ z < 2147483648 → gM (hp X s) 37 (ix (iI z)) = iI (s 37 z)) ∧ (∀ {z v : Int}, 0 ≤ z ∧ z < 2147483648 → pM (hp X s) 37 (ix (iI z)) (iI v) = hp X (u s 37 (up (s 37) z v))) ∧ (∀ {z : Int}, 0 ≤ z ∧ z < 10 → iaOK (hp X s) 37 (iI z) = True) ∧ (∀ {z : Int}, 0 ≤ z ∧ z < 10 → isOK (hp X s) 37 (iI z) = True) ∧ lnOK (hp X s) 37 = True := ⟨rfl, gA_hp ⟨rfl, (by decide)⟩, pA_hp ⟨rfl, (by decide)⟩, ok_1 (h := hp X s) (k := 37) (n := 10) rfl (by decide)⟩
theorem H_38 {X : hX} {s : sg} : gS (hp X s) 38 = (0, 1) ∧ gR (hp X s) 38 0 = some 39 ∧ gR (hp X s) 38 1 = some 40 ∧ gR (hp X s) 38 2 = some 41 ∧ gR (hp X s) 38 3 = some 42 ∧ gM (hp X s) 38 4 = iI (s 38004 0) ∧ (∀ {v : Int}, pM (hp X s) 38 4 (iI v) = hp X (u s 38004 (fun _ => v))) ∧ gM (hp X s) 38 5 = iI (s 38005 0) ∧ (∀ {v : Int}, pM (hp X s) 38 5 (iI v) = hp X (u s 38005 (fun _ => v))) := ⟨rfl, rfl, rfl, rfl, rfl, gF_hp ⟨rfl, (by decide), rfl⟩, pF_hp ⟨rfl, (by decide), rfl⟩, gF_hp ⟨rfl, (by decide), rfl⟩, pF_hp ⟨rfl, (by decide), rfl⟩⟩
theorem H_39 {X : hX} {s : sg} : gS (hp X s) 39 = (1, 300) ∧ (∀ {z : Int}, 0 ≤ z ∧ z < 2147483648 → gM (hp X s) 39 (ix (iI z)) = iI (s 39 z)) ∧ (∀ {z v : Int}, 0 ≤ z ∧ z < 2147483648 → pM (hp X s) 39 (ix (iI z)) (iI v) = hp X (u s 39 (up (s 39) z v))) ∧ (∀ {z : Int}, 0 ≤ z ∧ z < 300 → iaOK (hp X s) 39 (iI z) = True) ∧ (∀ {z : Int}, 0 ≤ z ∧ z < 300 → isOK (hp X s) 39 (iI z) = True) ∧ lnOK (hp X s) 39 = True := ⟨rfl, gA_hp ⟨rfl, (by decide)⟩, pA_hp ⟨rfl, (by decide)⟩, ok_1 (h := hp X s) (k := 39) (n := 300) rfl (by decide)⟩
theorem H_40 {X : hX} {s : sg} : gS (hp X s) 40 = (1, 10) ∧ (∀ {z : Int}, 0 ≤ z ∧ z < 2147483648 → gM (hp X s) 40 (ix (iI z)) = iI (s 40 z)) ∧ (∀ {z v : Int}, 0 ≤ z ∧ z < 2147483648 → pM (hp X s) 40 (ix (iI z)) (iI v) = hp X (u s 40 (up (s 40) z v))) ∧ (∀ {z : Int}, 0 ≤ z ∧ z < 10 → iaOK (hp X s) 40 (iI z) = True) ∧ (∀ {z : Int}, 0 ≤ z ∧ z < 10 → isOK (hp X s) 40 (iI z) = True) ∧ lnOK (hp X s) 40 = True := ⟨rfl, gA_hp ⟨rfl, (by decide)⟩, pA_hp ⟨rfl, (by decide)⟩, ok_1 (h := hp X s) (k := 40) (n := 10) rfl (by decide)⟩
theorem H_41 {X : hX} {s : sg} : gS (hp X s) 41 = (1, 10) ∧ (∀ {z : Int}, 0 ≤ z ∧ z < 2147483648 → gM (hp X s) 41 (ix (iI z)) = iI (s 41 z)) ∧ (∀ {z v : Int}, 0 ≤ z ∧ z < 2147483648 → pM (hp X s) 41 (ix (iI z)) (iI v) = hp X (u s 41 (up (s 41) z v))) ∧ (∀ {z : Int}, 0 ≤ z ∧ z < 10 → iaOK (hp X s) 41 (iI z) = True) ∧ (∀ {z : Int}, 0 ≤ z ∧ z < 10 → isOK (hp X s) 41 (iI z) = True) ∧ lnOK (hp X s) 41 = True := ⟨rfl, gA_hp ⟨rfl, (by decide)⟩, pA_hp ⟨rfl, (by decide)⟩, ok_1 (h := hp X s) (k := 41) (n := 10) rfl (by decide)⟩
theorem H_42 {X : hX} {s : sg} : gS (hp X s) 42 = (1, 10) ∧ (∀ {z : Int}, 0 ≤ z ∧ z < 2147483648 → gM (hp X s) 42 (ix (iI z)) = iI (s 42 z)) ∧ (∀ {z v : Int}, 0 ≤ z ∧ z < 2147483648 → pM (hp X s) 42 (ix (iI z)) (iI v) = hp X (u s 42 (up (s 42) z v))) ∧ (∀ {z : Int}, 0 ≤ z ∧ z < 10 → iaOK (hp X s) 42 (iI z) = True) ∧ (∀ {z : Int}, 0 ≤ z ∧ z < 10 → isOK (hp X s) 42 (iI z) = True) ∧ lnOK (hp X s) 42 = True := ⟨rfl, gA_hp ⟨rfl, (by decide)⟩, pA_hp ⟨rfl, (by decide)⟩, ok_1 (h := hp X s) (k := 42) (n := 10) rfl (by decide)⟩
theorem H_43 {X : hX} {s : sg} : gS (hp X s) 43 = (0, 1) ∧ gR (hp X s) 43 0 = some 44 ∧ gR (hp X s) 43 1 = some 45 ∧ gR (hp X s) 43 2 = some 46 ∧ gR (hp X s) 43 3 = some 47 ∧ gM (hp X s) 43 4 = iI (s 43004 0) ∧ (∀ {v : Int}, pM (hp X s) 43 4 (iI v) = hp X (u s 43004 (fun _ => v))) ∧ gM (hp X s) 43 5 = iI (s 43005 0) ∧ (∀ {v : Int}, pM (hp X s) 43 5 (iI v) = hp X (u s 43005 (fun _ => v))) := ⟨rfl, rfl, rfl, rfl, rfl, gF_hp ⟨rfl, (by decide), rfl⟩, pF_hp ⟨rfl, (by decide), rfl⟩, gF_hp ⟨rfl, (by decide), rfl⟩, pF_hp ⟨rfl, (by decide), rfl⟩⟩
theorem H_44 {X : hX} {s : sg} : gS (hp X s) 44 = (1, 300) ∧ (∀ {z : Int}, 0 ≤ z ∧ z < 2147483648 → gM (hp X s) 44 (ix (iI z)) = iI (s 44 z)) ∧ (∀ {z v : Int}, 0 ≤ z ∧ z < 2147483648 → pM (hp X s) 44 (ix (iI z)) (iI v) = hp X (u s 44 (up (s 44) z v))) ∧ (∀ {z : Int}, 0 ≤ z ∧ z < 300 → iaOK (hp X s) 44 (iI z) = True) ∧ (∀ {z : Int}, 0 ≤ z ∧ z < 300 → isOK (hp X s) 44 (iI z) = True) ∧ lnOK (hp X s) 44 = True := ⟨rfl, gA_hp ⟨rfl, (by decide)⟩, pA_hp ⟨rfl, (by decide)⟩, ok_1 (h := hp X s) (k := 44) (n := 300) rfl (by decide)⟩
theorem H_45 {X : hX} {s : sg} : gS (hp X s) 45 = (1, 10) ∧ (∀ {z : Int}, 0 ≤ z ∧ z < 2147483648 → gM (hp X s) 45 (ix (iI z)) = iI (s 45 z)) ∧ (∀ {z v : Int}, 0 ≤ z ∧ z < 2147483648 → pM (hp X s) 45 (ix (iI z)) (iI v) = hp X (u s 45 (up (s 45) z v))) ∧ (∀ {z : Int}, 0 ≤ z ∧ z < 10 → iaOK (hp X s) 45 (iI z) = True) ∧ (∀ {z : Int}, 0 ≤ z ∧ z < 10 → isOK (hp X s) 45 (iI z) = True) ∧ lnOK (hp X s) 45 = True := ⟨rfl, gA_hp ⟨rfl, (by decide)⟩, pA_hp ⟨rfl, (by decide)⟩, ok_1 (h := hp X s) (k := 45) (n := 10) rfl (by decide)⟩
theorem H_46 {X : hX} {s : sg} : gS (hp X s) 46 = (1, 10) ∧ (∀ {z : Int}, 0 ≤ z ∧ z < 2147483648 → gM (hp X s) 46 (ix (iI z)) = iI (s 46 z)) ∧ (∀ {z v : Int}, 0 ≤ z ∧ z < 2147483648 → pM (hp X s) 46 (ix (iI z)) (iI v) = hp X (u s 46 (up (s 46) z v))) ∧ (∀ {z : Int}, 0 ≤ z ∧ z < 10 → iaOK (hp X s) 46 (iI z) = True) ∧ (∀ {z : Int}, 0 ≤ z ∧ z < 10 → isOK (hp X s) 46 (iI z) = True) ∧ lnOK (hp X s) 46 = True := ⟨rfl, gA_hp ⟨rfl, (by decide)⟩, pA_hp ⟨rfl, (by decide)⟩, ok_1 (h := hp X s) (k := 46) (n := 10) rfl (by decide)⟩
theorem H_47 {X : hX} {s : sg} : gS (hp X s) 47 = (1, 10) ∧ (∀ {z : Int}, 0 ≤ z ∧ z < 2147483648 → gM (hp X s) 47 (ix (iI z)) = iI (s 47 z)) ∧ (∀ {z v : Int}, 0 ≤ z ∧ z < 2147483648 → pM (hp X s) 47 (ix (iI z)) (iI v) = hp X (u s 47 (up (s 47) z v))) ∧ (∀ {z : Int}, 0 ≤ z ∧ z < 10 → iaOK (hp X s) 47 (iI z) = True) ∧ (∀ {z : Int}, 0 ≤ z ∧ z < 10 → isOK (hp X s) 47 (iI z) = True) ∧ lnOK (hp X s) 47 = True := ⟨rfl, gA_hp ⟨rfl, (by decide)⟩, pA_hp ⟨rfl, (by decide)⟩, ok_1 (h := hp X s) (k := 47) (n := 10) rfl (by decide)⟩
theorem H_48 {X : hX} {s : sg} : gS (hp X s) 48 = (0, 5) ∧ gR (hp X s) 48 0 = some 49 ∧ gR (hp X s) 48 1 = some 51 ∧ gR (hp X s) 48 2 = some 53 ∧ gR (hp X s) 48 3 = some 55 ∧ gR (hp X s) 48 4 = some 57 ∧ gR (hp X s) 48 5 = some 59 ∧ gR (hp X s) 48 6 = some 60 ∧ gM (hp X s) 48 7 = iI (s 48007 0) ∧ (∀ {v : Int}, pM (hp X s) 48 7 (iI v) = hp X (u s 48007 (fun _ => v))) ∧ gM (hp X s) 48 8 = iI (s 48008 0) ∧ (∀ {v : Int}, pM (hp X s) 48 8 (iI v) = hp X (u s 48008 (fun _ => v))) := ⟨rfl, rfl, rfl, rfl, rfl, rfl, rfl, rfl, gF_hp ⟨rfl, (by decide), rfl⟩, pF_hp ⟨rfl, (by decide), rfl⟩, gF_hp ⟨rfl, (by decide), rfl⟩, pF_hp ⟨rfl, (by decide), rfl⟩⟩
theorem H_49 {X : hX} {s : sg} : gS (hp X s) 49 = (0, 6) ∧ gR (hp X s) 49 3 = some 50 ∧ gM (hp X s) 49 0 = iI 10 ∧ gM (hp X s) 49 1 = iI 10 ∧ gM (hp X s) 49 2 = iI 4 ∧ gM (hp X s) 49 4 = iI (s 49004 0) ∧ (∀ {v : Int}, pM (hp X s) 49 4 (iI v) = hp X (u s 49004 (fun _ => v))) := ⟨rfl, rfl, rfl, rfl, rfl, gF_hp ⟨rfl, (by decide), rfl⟩, pF_hp ⟨rfl, (by decide), rfl⟩⟩
theorem H_50 {X : hX} {s : sg} : gS (hp X s) 50 = (1, 40) ∧ (∀ {z : Int}, 0 ≤ z ∧ z < 2147483648 → gM (hp X s) 50 (ix (iI z)) = iI (s 50 z)) ∧ (∀ {z v : Int}, 0 ≤ z ∧ z < 2147483648 → pM (hp X s) 50 (ix (iI z)) (iI v) = hp X (u s 50 (up (s 50) z v))) ∧ (∀ {z : Int}, 0 ≤ z ∧ z < 40 → iaOK (hp X s) 50 (iI z) = True) ∧ (∀ {z : Int}, 0 ≤ z ∧ z < 40 → isOK (hp X s) 50 (iI z) = True) ∧ lnOK (hp X s) 50 = True := ⟨rfl, gA_hp ⟨rfl, (by decide)⟩, pA_hp ⟨rfl, (by decide)⟩, ok_1 (h := hp X s) (k := 50) (n := 40) rfl (by decide)⟩
theorem H_51 {X : hX} {s : sg} : gS (hp X s) 51 = (0, 6) ∧ gR (hp X s) 51 3 = some 52 ∧ gM (hp X s) 51 0 = iI 6 ∧ gM (hp X s) 51 1 = iI 6 ∧ gM (hp X s) 51 2 = iI 4 ∧ gM (hp X s) 51 4 = iI (s 51004 0) ∧ (∀ {v : Int}, pM (hp X s) 51 4 (iI v) = hp X (u s 51004 (fun _ => v))) := ⟨rfl, rfl, rfl, rfl, rfl, gF_hp ⟨rfl, (by decide), rfl⟩, pF_hp ⟨rfl, (by decide), rfl⟩⟩
theorem H_52 {X : hX} {s : sg} : gS (hp X s) 52 = (1, 24) ∧ (∀ {z : Int}, 0 ≤ z ∧ z < 2147483648 → gM (hp X s) 52 (ix (iI z)) = iI (s 52 z)) ∧ (∀ {z v : Int}, 0 ≤ z ∧ z < 2147483648 → pM (hp X s) 52 (ix (iI z)) (iI v) = hp X (u s 52 (up (s 52) z v))) ∧ (∀ {z : Int}, 0 ≤ z ∧ z < 24 → iaOK (hp X s) 52 (iI z) = True) ∧ (∀ {z : Int}, 0 ≤ z ∧ z < 24 → isOK (hp X s) 52 (iI z) = True) ∧ lnOK (hp X s) 52 = True := ⟨rfl, gA_hp ⟨rfl, (by decide)⟩, pA_hp ⟨rfl, (by decide)⟩, ok_1 (h := hp X s) (k := 52) (n := 24) rfl (by decide)⟩
theorem H_53 {X : hX} {s : sg} : gS (hp X s) 53 = (0, 6) ∧ gR (hp X s) 53 3 = some 54 ∧ gM (hp X s) 53 0 = iI 10 ∧ gM (hp X s) 53 1 = iI 10 ∧ gM (hp X s) 53 2 = iI 4 ∧ gM (hp X s) 53 4 = iI (s 53004 0) ∧ (∀ {v : Int}, pM (hp X s) 53 4 (iI v) = hp X (u s 53004 (fun _ => v))) := ⟨rfl, rfl, rfl, rfl, rfl, gF_hp ⟨rfl, (by decide), rfl⟩, pF_hp ⟨rfl, (by decide), rfl⟩⟩
theorem H_54 {X : hX} {s : sg} : gS (hp X s) 54 = (1, 40) ∧ (∀ {z : Int}, 0 ≤ z ∧ z < 2147483648 → gM (hp X s) 54 (ix (iI z)) = iI (s 54 z)) ∧ (∀ {z v : Int}, 0 ≤ z ∧ z < 2147483648 → pM (hp X s) 54 (ix (iI z)) (iI v) = hp X (u s 54 (up (s 54) z v))) ∧ (∀ {z : Int}, 0 ≤ z ∧ z < 40 → iaOK (hp X s) 54 (iI z) = True) ∧ (∀ {z : Int}, 0 ≤ z ∧ z < 40 → isOK (hp X s) 54 (iI z) = True) ∧ lnOK (hp X s) 54 = True := ⟨rfl, gA_hp ⟨rfl, (by decide)⟩, pA_hp ⟨rfl, (by decide)⟩, ok_1 (h := hp X s) (k := 54) (n := 40) rfl (by decide)⟩
theorem H_55 {X : hX} {s : sg} : gS (hp X s) 55 = (0, 6) ∧ gR (hp X s) 55 3 = some 56 ∧ gM (hp X s) 55 0 = iI 20 ∧ gM (hp X s) 55 1 = iI 22 ∧ gM (hp X s) 55 2 = iI 12 ∧ gM (hp X s) 55 4 = iI (s 55004 0) ∧ (∀ {v : Int}, pM (hp X s) 55 4 (iI v) = hp X (u s 55004 (fun _ => v))) := ⟨rfl, rfl, rfl, rfl, rfl, gF_hp ⟨rfl, (by decide), rfl⟩, pF_hp ⟨rfl, (by decide), rfl⟩⟩
theorem H_56 {X : hX} {s : sg} : gS (hp X s) 56 = (1, 264) ∧ (∀ {z : Int}, 0 ≤ z ∧ z < 2147483648 → gM (hp X s) 56 (ix (iI z)) = iI (s 56 z)) ∧ (∀ {z v : Int}, 0 ≤ z ∧ z < 2147483648 → pM (hp X s) 56 (ix (iI z)) (iI v) = hp X (u s 56 (up (s 56) z v))) ∧ (∀ {z : Int}, 0 ≤ z ∧ z < 264 → iaOK (hp X s) 56 (iI z) = True) ∧ (∀ {z : Int}, 0 ≤ z ∧ z < 264 → isOK (hp X s) 56 (iI z) = True) ∧ lnOK (hp X s) 56 = True := ⟨rfl, gA_hp ⟨rfl, (by decide)⟩, pA_hp ⟨rfl, (by decide)⟩, ok_1 (h := hp X s) (k := 56) (n := 264) rfl (by decide)⟩
theorem H_57 {X : hX} {s : sg} : gS (hp X s) 57 = (0, 6) ∧ gR (hp X s) 57 3 = some 58 ∧ gM (hp X s) 57 0 = iI 30 ∧ gM (hp X s) 57 1 = iI 30 ∧ gM (hp X s) 57 2 = iI 4 ∧ gM (hp X s) 57 4 = iI (s 57004 0) ∧ (∀ {v : Int}, pM (hp X s) 57 4 (iI v) = hp X (u s 57004 (fun _ => v))) := ⟨rfl, rfl, rfl, rfl, rfl, gF_hp ⟨rfl, (by decide), rfl⟩, pF_hp ⟨rfl, (by decide), rfl⟩⟩
theorem H_58 {X : hX} {s : sg} : gS (hp X s) 58 = (1, 120) ∧ (∀ {z : Int}, 0 ≤ z ∧ z < 2147483648 → gM (hp X s) 58 (ix (iI z)) = iI (s 58 z)) ∧ (∀ {z v : Int}, 0 ≤ z ∧ z < 2147483648 → pM (hp X s) 58 (ix (iI z)) (iI v) = hp X (u s 58 (up (s 58) z v))) ∧ (∀ {z : Int}, 0 ≤ z ∧ z < 120 → iaOK (hp X s) 58 (iI z) = True) ∧ (∀ {z : Int}, 0 ≤ z ∧ z < 120 → isOK (hp X s) 58 (iI z) = True) ∧ lnOK (hp X s) 58 = True := ⟨rfl, gA_hp ⟨rfl, (by decide)⟩, pA_hp ⟨rfl, (by decide)⟩, ok_1 (h := hp X s) (k := 58) (n := 120) rfl (by decide)⟩
theorem H_59 {X : hX} {s : sg} : gS (hp X s) 59 = (1, 4) ∧ (∀ {z : Int}, 0 ≤ z ∧ z < 2147483648 → gM (hp X s) 59 (ix (iI z)) = iI (s 59 z)) ∧ (∀ {z v : Int}, 0 ≤ z ∧ z < 2147483648 → pM (hp X s) 59 (ix (iI z)) (iI v) = hp X (u s 59 (up (s 59) z v))) ∧ (∀ {z : Int}, 0 ≤ z ∧ z < 4 → iaOK (hp X s) 59 (iI z) = True) ∧ (∀ {z : Int}, 0 ≤ z ∧ z < 4 → isOK (hp X s) 59 (iI z) = True) ∧ lnOK (hp X s) 59 = True := ⟨rfl, gA_hp ⟨rfl, (by decide)⟩, pA_hp ⟨rfl, (by decide)⟩, ok_1 (h := hp X s) (k := 59) (n := 4) rfl (by decide)⟩
theorem H_60 {X : hX} {s : sg} : gS (hp X s) 60 = (0, 9) ∧ gR (hp X s) 60 0 = some 61 ∧ gR (hp X s) 60 1 = some 62 ∧ gR (hp X s) 60 2 = some 63 ∧ gR (hp X s) 60 3 = some 64 ∧ gR (hp X s) 60 4 = some 65 := ⟨rfl, rfl, rfl, rfl, rfl, rfl⟩
theorem H_61 {X : hX} {s : sg} : gS (hp X s) 61 = (1, 22) ∧ (∀ {z : Int}, 0 ≤ z ∧ z < 2147483648 → gM (hp X s) 61 (ix (iI z)) = iI (s 61 z)) ∧ (∀ {z v : Int}, 0 ≤ z ∧ z < 2147483648 → pM (hp X s) 61 (ix (iI z)) (iI v) = hp X (u s 61 (up (s 61) z v))) ∧ (∀ {z : Int}, 0 ≤ z ∧ z < 22 → iaOK (hp X s) 61 (iI z) = True) ∧ (∀ {z : Int}, 0 ≤ z ∧ z < 22 → isOK (hp X s) 61 (iI z) = True) ∧ lnOK (hp X s) 61 = True := ⟨rfl, gA_hp ⟨rfl, (by decide)⟩, pA_hp ⟨rfl, (by decide)⟩, ok_1 (h := hp X s) (k := 61) (n := 22) rfl (by decide)⟩
theorem H_62 {X : hX} {s : sg} : gS (hp X s) 62 = (1, 6) ∧ (∀ {z : Int}, 0 ≤ z ∧ z < 2147483648 → gM (hp X s) 62 (ix (iI z)) = iI (s 62 z)) ∧ (∀ {z v : Int}, 0 ≤ z ∧ z < 2147483648 → pM (hp X s) 62 (ix (iI z)) (iI v) = hp X (u s 62 (up (s 62) z v))) ∧ (∀ {z : Int}, 0 ≤ z ∧ z < 6 → iaOK (hp X s) 62 (iI z) = True) ∧ (∀ {z : Int}, 0 ≤ z ∧ z < 6 → isOK (hp X s) 62 (iI z) = True) ∧ lnOK (hp X s) 62 = True := ⟨rfl, gA_hp ⟨rfl, (by decide)⟩, pA_hp ⟨rfl, (by decide)⟩, ok_1 (h := hp X s) (k := 62) (n := 6) rfl (by decide)⟩
theorem H_63 {X : hX} {s : sg} : gS (hp X s) 63 = (1, 6) ∧ (∀ {z : Int}, 0 ≤ z ∧ z < 2147483648 → gM (hp X s) 63 (ix (iI z)) = iI (s 63 z)) ∧ (∀ {z v : Int}, 0 ≤ z ∧ z < 2147483648 → pM (hp X s) 63 (ix (iI z)) (iI v) = hp X (u s 63 (up (s 63) z v))) ∧ (∀ {z : Int}, 0 ≤ z ∧ z < 6 → iaOK (hp X s) 63 (iI z) = True) ∧ (∀ {z : Int}, 0 ≤ z ∧ z < 6 → isOK (hp X s) 63 (iI z) = True) ∧ lnOK (hp X s) 63 = True := ⟨rfl, gA_hp ⟨rfl, (by decide)⟩, pA_hp ⟨rfl, (by decide)⟩, ok_1 (h := hp X s) (k := 63) (n := 6) rfl (by decide)⟩
theorem H_64 {X : hX} {s : sg} : gS (hp X s) 64 = (1, 10) ∧ (∀ {z : Int}, 0 ≤ z ∧ z < 2147483648 → gM (hp X s) 64 (ix (iI z)) = iI (s 64 z)) ∧ (∀ {z v : Int}, 0 ≤ z ∧ z < 2147483648 → pM (hp X s) 64 (ix (iI z)) (iI v) = hp X (u s 64 (up (s 64) z v))) ∧ (∀ {z : Int}, 0 ≤ z ∧ z < 10 → iaOK (hp X s) 64 (iI z) = True) ∧ (∀ {z : Int}, 0 ≤ z ∧ z < 10 → isOK (hp X s) 64 (iI z) = True) ∧ lnOK (hp X s) 64 = True := ⟨rfl, gA_hp ⟨rfl, (by decide)⟩, pA_hp ⟨rfl, (by decide)⟩, ok_1 (h := hp X s) (k := 64) (n := 10) rfl (by decide)⟩
theorem H_65 {X : hX} {s : sg} : gS (hp X s) 65 = (1, 10) ∧ (∀ {z : Int}, 0 ≤ z ∧ z < 2147483648 → gM (hp X s) 65 (ix (iI z)) = iI (s 65 z)) ∧ (∀ {z v : Int}, 0 ≤ z ∧ z < 2147483648 → pM (hp X s) 65 (ix (iI z)) (iI v) = hp X (u s 65 (up (s 65) z v))) ∧ (∀ {z : Int}, 0 ≤ z ∧ z < 10 → iaOK (hp X s) 65 (iI z) = True) ∧ (∀ {z : Int}, 0 ≤ z ∧ z < 10 → isOK (hp X s) 65 (iI z) = True) ∧ lnOK (hp X s) 65 = True := ⟨rfl, gA_hp ⟨rfl, (by decide)⟩, pA_hp ⟨rfl, (by decide)⟩, ok_1 (h := hp X s) (k := 65) (n := 10) rfl (by decide)⟩
theorem H_66 {X : hX} {s : sg} : gS (hp X s) 66 = (0, 5) ∧ gR (hp X s) 66 0 = some 67 ∧ gR (hp X s) 66 1 = some 69 ∧ gR (hp X s) 66 2 = some 71 ∧ gR (hp X s) 66 3 = some 73 ∧ gR (hp X s) 66 4 = some 75 ∧ gR (hp X s) 66 5 = some 77 ∧ gR (hp X s) 66 6 = some 78 ∧ gM (hp X s) 66 7 = iI (s 66007 0) ∧ (∀ {v : Int}, pM (hp X s) 66 7 (iI v) = hp X (u s 66007 (fun _ => v))) ∧ gM (hp X s) 66 8 = iI (s 66008 0) ∧ (∀ {v : Int}, pM (hp X s) 66 8 (iI v) = hp X (u s 66008 (fun _ => v))) := ⟨rfl, rfl, rfl, rfl, rfl, rfl, rfl, rfl, gF_hp ⟨rfl, (by decide), rfl⟩, pF_hp ⟨rfl, (by decide), rfl⟩, gF_hp ⟨rfl, (by decide), rfl⟩, pF_hp ⟨rfl, (by decide), rfl⟩⟩
theorem H_67 {X : hX} {s : sg} : gS (hp X s) 67 = (0, 6) ∧ gR (hp X s) 67 3 = some 68 ∧ gM (hp X s) 67 0 = iI 10 ∧ gM (hp X s) 67 1 = iI 10 ∧ gM (hp X s) 67 2 = iI 4 ∧ gM (hp X s) 67 4 = iI (s 67004 0) ∧ (∀ {v : Int}, pM (hp X s) 67 4 (iI v) = hp X (u s 67004 (fun _ => v))) := ⟨rfl, rfl, rfl, rfl, rfl, gF_hp ⟨rfl, (by decide), rfl⟩, pF_hp ⟨rfl, (by decide), rfl⟩⟩
theorem H_68 {X : hX} {s : sg} : gS (hp X s) 68 = (1, 40) ∧ (∀ {z : Int}, 0 ≤ z ∧ z < 2147483648 → gM (hp X s) 68 (ix (iI z)) = iI (s 68 z)) ∧ (∀ {z v : Int}, 0 ≤ z ∧ z < 2147483648 → pM (hp X s) 68 (ix (iI z)) (iI v) = hp X (u s 68 (up (s 68) z v))) ∧ (∀ {z : Int}, 0 ≤ z ∧ z < 40 → iaOK (hp X s) 68 (iI z) = True) ∧ (∀ {z : Int}, 0 ≤ z ∧ z < 40 → isOK (hp X s) 68 (iI z) = True) ∧ lnOK (hp X s) 68 = True := ⟨rfl, gA_hp ⟨rfl, (by decide)⟩, pA_hp ⟨rfl, (by decide)⟩, ok_1 (h := hp X s) (k := 68) (n := 40) rfl (by decide)⟩
theorem H_69 {X : hX} {s : sg} : gS (hp X s) 69 = (0, 6) ∧ gR (hp X s) 69 3 = some 70 ∧ gM (hp X s) 69 0 = iI 6 ∧ gM (hp X s) 69 1 = iI 6 ∧ gM (hp X s) 69 2 = iI 4 ∧ gM (hp X s) 69 4 = iI (s 69004 0) ∧ (∀ {v : Int}, pM (hp X s) 69 4 (iI v) = hp X (u s 69004 (fun _ => v))) := ⟨rfl, rfl, rfl, rfl, rfl, gF_hp ⟨rfl, (by decide), rfl⟩, pF_hp ⟨rfl, (by decide), rfl⟩⟩
theorem H_70 {X : hX} {s : sg} : gS (hp X s) 70 = (1, 24) ∧ (∀ {z : Int}, 0 ≤ z ∧ z < 2147483648 → gM (hp X s) 70 (ix (iI z)) = iI (s 70 z)) ∧ (∀ {z v : Int}, 0 ≤ z ∧ z < 2147483648 → pM (hp X s) 70 (ix (iI z)) (iI v) = hp X (u s 70 (up (s 70) z v))) ∧ (∀ {z : Int}, 0 ≤ z ∧ z < 24 → iaOK (hp X s) 70 (iI z) = True) ∧ (∀ {z : Int}, 0 ≤ z ∧ z < 24 → isOK (hp X s) 70 (iI z) = True) ∧ lnOK (hp X s) 70 = True := ⟨rfl, gA_hp ⟨rfl, (by decide)⟩, pA_hp ⟨rfl, (by decide)⟩, ok_1 (h := hp X s) (k := 70) (n := 24) rfl (by decide)⟩
theorem H_71 {X : hX} {s : sg} : gS (hp X s) 71 = (0, 6) ∧ gR (hp X s) 71 3 = some 72 ∧ gM (hp X s) 71 0 = iI 10 ∧ gM (hp X s) 71 1 = iI 10 ∧ gM (hp X s) 71 2 = iI 4 ∧ gM (hp X s) 71 4 = iI (s 71004 0) ∧ (∀ {v : Int}, pM (hp X s) 71 4 (iI v) = hp X (u s 71004 (fun _ => v))) := ⟨rfl, rfl, rfl, rfl, rfl, gF_hp ⟨rfl, (by decide), rfl⟩, pF_hp ⟨rfl, (by decide), rfl⟩⟩
theorem H_72 {X : hX} {s : sg} : gS (hp X s) 72 = (1, 40) ∧ (∀ {z : Int}, 0 ≤ z ∧ z < 2147483648 → gM (hp X s) 72 (ix (iI z)) = iI (s 72 z)) ∧ (∀ {z v : Int}, 0 ≤ z ∧ z < 2147483648 → pM (hp X s) 72 (ix (iI z)) (iI v) = hp X (u s 72 (up (s 72) z v))) ∧ (∀ {z : Int}, 0 ≤ z ∧ z < 40 → iaOK (hp X s) 72 (iI z) = True) ∧ (∀ {z : Int}, 0 ≤ z ∧ z < 40 → isOK (hp X s) 72 (iI z) = True) ∧ lnOK (hp X s) 72 = True := ⟨rfl, gA_hp ⟨rfl, (by decide)⟩, pA_hp ⟨rfl, (by decide)⟩, ok_1 (h := hp X s) (k := 72) (n := 40) rfl (by decide)⟩
theorem H_73 {X : hX} {s : sg} : gS (hp X s) 73 = (0, 6) ∧ gR (hp X s) 73 3 = some 74 ∧ gM (hp X s) 73 0 = iI 20 ∧ gM (hp X s) 73 1 = iI 22 ∧ gM (hp X s) 73 2 = iI 12 ∧ gM (hp X s) 73 4 = iI (s 73004 0) ∧ (∀ {v : Int}, pM (hp X s) 73 4 (iI v) = hp X (u s 73004 (fun _ => v))) := ⟨rfl, rfl, rfl, rfl, rfl, gF_hp ⟨rfl, (by decide), rfl⟩, pF_hp ⟨rfl, (by decide), rfl⟩⟩
theorem H_74 {X : hX} {s : sg} : gS (hp X s) 74 = (1, 264) ∧ (∀ {z : Int}, 0 ≤ z ∧ z < 2147483648 → gM (hp X s) 74 (ix (iI z)) = iI (s 74 z)) ∧ (∀ {z v : Int}, 0 ≤ z ∧ z < 2147483648 → pM (hp X s) 74 (ix (iI z)) (iI v) = hp X (u s 74 (up (s 74) z v))) ∧ (∀ {z : Int}, 0 ≤ z ∧ z < 264 → iaOK (hp X s) 74 (iI z) = True) ∧ (∀ {z : Int}, 0 ≤ z ∧ z < 264 → isOK (hp X s) 74 (iI z) = True) ∧ lnOK (hp X s) 74 = True := ⟨rfl, gA_hp ⟨rfl, (by decide)⟩, pA_hp ⟨rfl, (by decide)⟩, ok_1 (h := hp X s) (k := 74) (n := 264) rfl (by decide)⟩
theorem H_75 {X : hX} {s : sg} : gS (hp X s) 75 = (0, 6) ∧ gR (hp X s) 75 3 = some 76 ∧ gM (hp X s) 75 0 = iI 30 ∧ gM (hp X s) 75 1 = iI 30 ∧ gM (hp X s) 75 2 = iI 4 ∧ gM (hp X s) 75 4 = iI (s 75004 0) ∧ (∀ {v : Int}, pM (hp X s) 75 4 (iI v) = hp X (u s 75004 (fun _ => v))) := ⟨rfl, rfl, rfl, rfl, rfl, gF_hp ⟨rfl, (by decide), rfl⟩, pF_hp ⟨rfl, (by decide), rfl⟩⟩
theorem H_76 {X : hX} {s : sg} : gS (hp X s) 76 = (1, 120) ∧ (∀ {z : Int}, 0 ≤ z ∧ z < 2147483648 → gM (hp X s) 76 (ix (iI z)) = iI (s 76 z)) ∧ (∀ {z v : Int}, 0 ≤ z ∧ z < 2147483648 → pM (hp X s) 76 (ix (iI z)) (iI v) = hp X (u s 76 (up (s 76) z v))) ∧ (∀ {z : Int}, 0 ≤ z ∧ z < 120 → iaOK (hp X s) 76 (iI z) = True) ∧ (∀ {z : Int}, 0 ≤ z ∧ z < 120 → isOK (hp X s) 76 (iI z) = True) ∧ lnOK (hp X s) 76 = True := ⟨rfl, gA_hp ⟨rfl, (by decide)⟩, pA_hp ⟨rfl, (by decide)⟩, ok_1 (h := hp X s) (k := 76) (n := 120) rfl (by decide)⟩
theorem H_77 {X : hX} {s : sg} : gS (hp X s) 77 = (1, 4) ∧ (∀ {z : Int}, 0 ≤ z ∧ z < 2147483648 → gM (hp X s) 77 (ix (iI z)) = iI (s 77 z)) ∧ (∀ {z v : Int}, 0 ≤ z ∧ z < 2147483648 → pM (hp X s) 77 (ix (iI z)) (iI v) = hp X (u s 77 (up (s 77) z v))) ∧ (∀ {z : Int}, 0 ≤ z ∧ z < 4 → iaOK (hp X s) 77 (iI z) = True) ∧ (∀ {z : Int}, 0 ≤ z ∧ z < 4 → isOK (hp X s) 77 (iI z) = True) ∧ lnOK (hp X s) 77 = True := ⟨rfl, gA_hp ⟨rfl, (by decide)⟩, pA_hp ⟨rfl, (by decide)⟩, ok_1 (h := hp X s) (k := 77) (n := 4) rfl (by decide)⟩
theorem H_78 {X : hX} {s : sg} : gS (hp X s) 78 = (0, 9) ∧ gR (hp X s) 78 0 = some 79 ∧ gR (hp X s) 78 1 = some 80 ∧ gR (hp X s) 78 2 = some 81 ∧ gR (hp X s) 78 3 = some 82 ∧ gR (hp X s) 78 4 = some 83 := ⟨rfl, rfl, rfl, rfl, rfl, rfl⟩
theorem H_79 {X : hX} {s : sg} : gS (hp X s) 79 = (1, 22) ∧ (∀ {z : Int}, 0 ≤ z ∧ z < 2147483648 → gM (hp X s) 79 (ix (iI z)) = iI (s 79 z)) ∧ (∀ {z v : Int}, 0 ≤ z ∧ z < 2147483648 → pM (hp X s) 79 (ix (iI z)) (iI v) = hp X (u s 79 (up (s 79) z v))) ∧ (∀ {z : Int}, 0 ≤ z ∧ z < 22 → iaOK (hp X s) 79 (iI z) = True) ∧ (∀ {z : Int}, 0 ≤ z ∧ z < 22 → isOK (hp X s) 79 (iI z) = True) ∧ lnOK (hp X s) 79 = True := ⟨rfl, gA_hp ⟨rfl, (by decide)⟩, pA_hp ⟨rfl, (by decide)⟩, ok_1 (h := hp X s) (k := 79) (n := 22) rfl (by decide)⟩
theorem H_80 {X : hX} {s : sg} : gS (hp X s) 80 = (1, 6) ∧ (∀ {z : Int}, 0 ≤ z ∧ z < 2147483648 → gM (hp X s) 80 (ix (iI z)) = iI (s 80 z)) ∧ (∀ {z v : Int}, 0 ≤ z ∧ z < 2147483648 → pM (hp X s) 80 (ix (iI z)) (iI v) = hp X (u s 80 (up (s 80) z v))) ∧ (∀ {z : Int}, 0 ≤ z ∧ z < 6 → iaOK (hp X s) 80 (iI z) = True) ∧ (∀ {z : Int}, 0 ≤ z ∧ z < 6 → isOK (hp X s) 80 (iI z) = True) ∧ lnOK (hp X s) 80 = True := ⟨rfl, gA_hp ⟨rfl, (by decide)⟩, pA_hp ⟨rfl, (by decide)⟩, ok_1 (h := hp X s) (k := 80) (n := 6) rfl (by decide)⟩
theorem H_81 {X : hX} {s : sg} : gS (hp X s) 81 = (1, 6) ∧ (∀ {z : Int}, 0 ≤ z ∧ z < 2147483648 → gM (hp X s) 81 (ix (iI z)) = iI (s 81 z)) ∧ (∀ {z v : Int}, 0 ≤ z ∧ z < 2147483648 → pM (hp X s) 81 (ix (iI z)) (iI v) = hp X (u s 81 (up (s 81) z v))) ∧ (∀ {z : Int}, 0 ≤ z ∧ z < 6 → iaOK (hp X s) 81 (iI z) = True) ∧ (∀ {z : Int}, 0 ≤ z ∧ z < 6 → isOK (hp X s) 81 (iI z) = True) ∧ lnOK (hp X s) 81 = True := ⟨rfl, gA_hp ⟨rfl, (by decide)⟩, pA_hp ⟨rfl, (by decide)⟩, ok_1 (h := hp X s) (k := 81) (n := 6) rfl (by decide)⟩
theorem H_82 {X : hX} {s : sg} : gS (hp X s) 82 = (1, 10) ∧ (∀ {z : Int}, 0 ≤ z ∧ z < 2147483648 → gM (hp X s) 82 (ix (iI z)) = iI (s 82 z)) ∧ (∀ {z v : Int}, 0 ≤ z ∧ z < 2147483648 → pM (hp X s) 82 (ix (iI z)) (iI v) = hp X (u s 82 (up (s 82) z v))) ∧ (∀ {z : Int}, 0 ≤ z ∧ z < 10 → iaOK (hp X s) 82 (iI z) = True) ∧ (∀ {z : Int}, 0 ≤ z ∧ z < 10 → isOK (hp X s) 82 (iI z) = True) ∧ lnOK (hp X s) 82 = True := ⟨rfl, gA_hp ⟨rfl, (by decide)⟩, pA_hp ⟨rfl, (by decide)⟩, ok_1 (h := hp X s) (k := 82) (n := 10) rfl (by decide)⟩
theorem H_83 {X : hX} {s : sg} : gS (hp X s) 83 = (1, 10) ∧ (∀ {z : Int}, 0 ≤ z ∧ z < 2147483648 → gM (hp X s) 83 (ix (iI z)) = iI (s 83 z)) ∧ (∀ {z v : Int}, 0 ≤ z ∧ z < 2147483648 → pM (hp X s) 83 (ix (iI z)) (iI v) = hp X (u s 83 (up (s 83) z v))) ∧ (∀ {z : Int}, 0 ≤ z ∧ z < 10 → iaOK (hp X s) 83 (iI z) = True) ∧ (∀ {z : Int}, 0 ≤ z ∧ z < 10 → isOK (hp X s) 83 (iI z) = True) ∧ lnOK (hp X s) 83 = True := ⟨rfl, gA_hp ⟨rfl, (by decide)⟩, pA_hp ⟨rfl, (by decide)⟩, ok_1 (h := hp X s) (k := 83) (n := 10) rfl (by decide)⟩
theorem H_84 {X : hX} {s : sg} : gS (hp X s) 84 = (0, 4) ∧ gR (hp X s) 84 0 = some 48 ∧ gR (hp X s) 84 1 = some 85 ∧ gR (hp X s) 84 2 = some 86 ∧ gQ (hp X s) 84 = rq (s 84900 0) ∧ (∀ {n : Nat}, pQ (hp X s) 84 (some n) = hp X (u s 84900 (fun _ => (n : Int)))) := ⟨rfl, rfl, rfl, rfl, gQ_hp (by decide), pQ_hp (by decide) _⟩
theorem H_85 {X : hX} {s : sg} : gS (hp X s) 85 = (1, 6) ∧ (∀ {z : Int}, 0 ≤ z ∧ z < 2147483648 → gM (hp X s) 85 (ix (iI z)) = iI (s 85 z)) ∧ (∀ {z v : Int}, 0 ≤ z ∧ z < 2147483648 → pM (hp X s) 85 (ix (iI z)) (iI v) = hp X (u s 85 (up (s 85) z v))) ∧ (∀ {z : Int}, 0 ≤ z ∧ z < 6 → iaOK (hp X s) 85 (iI z) = True) ∧ (∀ {z : Int}, 0 ≤ z ∧ z < 6 → isOK (hp X s) 85 (iI z) = True) ∧ lnOK (hp X s) 85 = True := ⟨rfl, gA_hp ⟨rfl, (by decide)⟩, pA_hp ⟨rfl, (by decide)⟩, ok_1 (h := hp X s) (k := 85) (n := 6) rfl (by decide)⟩
theorem H_86 {X : hX} {s : sg} : gS (hp X s) 86 = (1, 300) ∧ (∀ {z : Int}, 0 ≤ z ∧ z < 2147483648 → gM (hp X s) 86 (ix (iI z)) = iI (s 86 z)) ∧ (∀ {z v : Int}, 0 ≤ z ∧ z < 2147483648 → pM (hp X s) 86 (ix (iI z)) (iI v) = hp X (u s 86 (up (s 86) z v))) ∧ (∀ {z : Int}, 0 ≤ z ∧ z < 300 → iaOK (hp X s) 86 (iI z) = True) ∧ (∀ {z : Int}, 0 ≤ z ∧ z < 300 → isOK (hp X s) 86 (iI z) = True) ∧ lnOK (hp X s) 86 = True := ⟨rfl, gA_hp ⟨rfl, (by decide)⟩, pA_hp ⟨rfl, (by decide)⟩, ok_1 (h := hp X s) (k := 86) (n := 300) rfl (by decide)⟩
theorem H_87 {X : hX} {s : sg} : gS (hp X s) 87 = (0, 2) ∧ gR (hp X s) 87 0 = some 88 ∧ gR (hp X s) 87 1 = some 89 ∧ gR (hp X s) 87 2 = some 90 ∧ gR (hp X s) 87 3 = some 91 ∧ gR (hp X s) 87 4 = some 92 ∧ gR (hp X s) 87 5 = some 93 ∧ gR (hp X s) 87 6 = some 94 ∧ gR (hp X s) 87 7 = some 48 ∧ gR (hp X s) 87 8 = some 84 := ⟨rfl, rfl, rfl, rfl, rfl, rfl, rfl, rfl, rfl, rfl⟩
theorem H_88 {X : hX} {s : sg} : gS (hp X s) 88 = (1, 22) ∧ (∀ {z : Int}, 0 ≤ z ∧ z < 2147483648 → gM (hp X s) 88 (ix (iI z)) = iI (s 88 z)) ∧ (∀ {z v : Int}, 0 ≤ z ∧ z < 2147483648 → pM (hp X s) 88 (ix (iI z)) (iI v) = hp X (u s 88 (up (s 88) z v))) ∧ (∀ {z : Int}, 0 ≤ z ∧ z < 22 → iaOK (hp X s) 88 (iI z) = True) ∧ (∀ {z : Int}, 0 ≤ z ∧ z < 22 → isOK (hp X s) 88 (iI z) = True) ∧ lnOK (hp X s) 88 = True := ⟨rfl, gA_hp ⟨rfl, (by decide)⟩, pA_hp ⟨rfl, (by decide)⟩, ok_1 (h := hp X s) (k := 88) (n := 22) rfl (by decide)⟩
theorem H_89 {X : hX} {s : sg} : gS (hp X s) 89 = (1, 22) ∧ (∀ {z : Int}, 0 ≤ z ∧ z < 2147483648 → gM (hp X s) 89 (ix (iI z)) = iI (s 89 z)) ∧ (∀ {z v : Int}, 0 ≤ z ∧ z < 2147483648 → pM (hp X s) 89 (ix (iI z)) (iI v) = hp X (u s 89 (up (s 89) z v))) ∧ (∀ {z : Int}, 0 ≤ z ∧ z < 22 → iaOK (hp X s) 89 (iI z) = True) ∧ (∀ {z : Int}, 0 ≤ z ∧ z < 22 → isOK (hp X s) 89 (iI z) = True) ∧ lnOK (hp X s) 89 = True := ⟨rfl, gA_hp ⟨rfl, (by decide)⟩, pA_hp ⟨rfl, (by decide)⟩, ok_1 (h := hp X s) (k := 89) (n := 22) rfl (by decide)⟩
theorem H_90 {X : hX} {s : sg} : gS (hp X s) 90 = (1, 22) ∧ (∀ {z : Int}, 0 ≤ z ∧ z < 2147483648 → gM (hp X s) 90 (ix (iI z)) = iI (s 90 z)) ∧ (∀ {z v : Int}, 0 ≤ z ∧ z < 2147483648 → pM (hp X s) 90 (ix (iI z)) (iI v) = hp X (u s 90 (up (s 90) z v))) ∧ (∀ {z : Int}, 0 ≤ z ∧ z < 22 → iaOK (hp X s) 90 (iI z) = True) ∧ (∀ {z : Int}, 0 ≤ z ∧ z < 22 → isOK (hp X s) 90 (iI z) = True) ∧ lnOK (hp X s) 90 = True := ⟨rfl, gA_hp ⟨rfl, (by decide)⟩, pA_hp ⟨rfl, (by decide)⟩, ok_1 (h := hp X s) (k := 90) (n := 22) rfl (by decide)⟩
theorem H_91 {X : hX} {s : sg} : gS (hp X s) 91 = (1, 22) ∧ (∀ {z : Int}, 0 ≤ z ∧ z < 2147483648 → gM (hp X s) 91 (ix (iI z)) = iI (s 91 z)) ∧ (∀ {z v : Int}, 0 ≤ z ∧ z < 2147483648 → pM (hp X s) 91 (ix (iI z)) (iI v) = hp X (u s 91 (up (s 91) z v))) ∧ (∀ {z : Int}, 0 ≤ z ∧ z < 22 → iaOK (hp X s) 91 (iI z) = True) ∧ (∀ {z : Int}, 0 ≤ z ∧ z < 22 → isOK (hp X s) 91 (iI z) = True) ∧ lnOK (hp X s) 91 = True := ⟨rfl, gA_hp ⟨rfl, (by decide)⟩, pA_hp ⟨rfl, (by decide)⟩, ok_1 (h := hp X s) (k := 91) (n := 22) rfl (by decide)⟩
theorem H_92 {X : hX} {s : sg} : gS (hp X s) 92 = (2, 22) ∧ (∀ {z : Int}, 0 ≤ z ∧ z < 2147483648 → gM (hp X s) 92 (ix (iI z)) = iI (s 92 z)) ∧ (∀ {z v : Int}, 0 ≤ z ∧ z < 2147483648 → pM (hp X s) 92 (ix (iI z)) (iI v) = hp X (u s 92 (up (s 92) z v))) ∧ (∀ {z : Int}, 0 ≤ z ∧ z < 22 → baOK (hp X s) 92 (iI z) = True) ∧ (∀ {z : Int} {p : Prop}, 0 ≤ z ∧ z < 22 → zsOK (hp X s) 92 (iI z) (iI (bZ p)) = True) ∧ (∀ {z : Int}, 0 ≤ z ∧ z < 22 → zsOK (hp X s) 92 (iI z) (iI 0) = True) ∧ (∀ {z : Int}, 0 ≤ z ∧ z < 22 → zsOK (hp X s) 92 (iI z) (iI 1) = True) ∧ lnOK (hp X s) 92 = True := ⟨rfl, gA_hp ⟨rfl, (by decide)⟩, pA_hp ⟨rfl, (by decide)⟩, ok_2 (h := hp X s) (k := 92) (n := 22) rfl (by decide)⟩
theorem H_93 {X : hX} {s : sg} : gS (hp X s) 93 = (1, 22) ∧ (∀ {z : Int}, 0 ≤ z ∧ z < 2147483648 → gM (hp X s) 93 (ix (iI z)) = iI (s 93 z)) ∧ (∀ {z v : Int}, 0 ≤ z ∧ z < 2147483648 → pM (hp X s) 93 (ix (iI z)) (iI v) = hp X (u s 93 (up (s 93) z v))) ∧ (∀ {z : Int}, 0 ≤ z ∧ z < 22 → iaOK (hp X s) 93 (iI z) = True) ∧ (∀ {z : Int}, 0 ≤ z ∧ z < 22 → isOK (hp X s) 93 (iI z) = True) ∧ lnOK (hp X s) 93 = True := ⟨rfl, gA_hp ⟨rfl, (by decide)⟩, pA_hp ⟨rfl, (by decide)⟩, ok_1 (h := hp X s) (k := 93) (n := 22) rfl (by decide)⟩
theorem H_94 {X : hX} {s : sg} : gS (hp X s) 94 = (6, 10) ∧ (∀ {z : Int}, 0 ≤ z ∧ z < 10 → raOK (hp X s) 94 (iI z) = True) ∧ lnOK (hp X s) 94 = True := ⟨rfl, ok_5 (h := hp X s) (k := 94) (n := 10) (Or.inr rfl) (by decide)⟩
theorem H_95 {X : hX} {s : sg} : gS (hp X s) 95 = (1, 22) ∧ (∀ {z : Int}, 0 ≤ z ∧ z < 2147483648 → gM (hp X s) 95 (ix (iI z)) = iI (s 95 z)) ∧ (∀ {z v : Int}, 0 ≤ z ∧ z < 2147483648 → pM (hp X s) 95 (ix (iI z)) (iI v) = hp X (u s 95 (up (s 95) z v))) ∧ (∀ {z : Int}, 0 ≤ z ∧ z < 22 → iaOK (hp X s) 95 (iI z) = True) ∧ (∀ {z : Int}, 0 ≤ z ∧ z < 22 → isOK (hp X s) 95 (iI z) = True) ∧ lnOK (hp X s) 95 = True := ⟨rfl, gA_hp ⟨rfl, (by decide)⟩, pA_hp ⟨rfl, (by decide)⟩, ok_1 (h := hp X s) (k := 95) (n := 22) rfl (by decide)⟩
theorem H_96 {X : hX} {s : sg} : gS (hp X s) 96 = (1, 22) ∧ (∀ {z : Int}, 0 ≤ z ∧ z < 2147483648 → gM (hp X s) 96 (ix (iI z)) = iI (s 96 z)) ∧ (∀ {z v : Int}, 0 ≤ z ∧ z < 2147483648 → pM (hp X s) 96 (ix (iI z)) (iI v) = hp X (u s 96 (up (s 96) z v))) ∧ (∀ {z : Int}, 0 ≤ z ∧ z < 22 → iaOK (hp X s) 96 (iI z) = True) ∧ (∀ {z : Int}, 0 ≤ z ∧ z < 22 → isOK (hp X s) 96 (iI z) = True) ∧ lnOK (hp X s) 96 = True := ⟨rfl, gA_hp ⟨rfl, (by decide)⟩, pA_hp ⟨rfl, (by decide)⟩, ok_1 (h := hp X s) (k := 96) (n := 22) rfl (by decide)⟩
theorem H_97 {X : hX} {s : sg} : gS (hp X s) 97 = (1, 22) ∧ (∀ {z : Int}, 0 ≤ z ∧ z < 2147483648 → gM (hp X s) 97 (ix (iI z)) = iI (s 97 z)) ∧ (∀ {z v : Int}, 0 ≤ z ∧ z < 2147483648 → pM (hp X s) 97 (ix (iI z)) (iI v) = hp X (u s 97 (up (s 97) z v))) ∧ (∀ {z : Int}, 0 ≤ z ∧ z < 22 → iaOK (hp X s) 97 (iI z) = True) ∧ (∀ {z : Int}, 0 ≤ z ∧ z < 22 → isOK (hp X s) 97 (iI z) = True) ∧ lnOK (hp X s) 97 = True := ⟨rfl, gA_hp ⟨rfl, (by decide)⟩, pA_hp ⟨rfl, (by decide)⟩, ok_1 (h := hp X s) (k := 97) (n := 22) rfl (by decide)⟩
theorem H_98 {X : hX} {s : sg} : gS (hp X s) 98 = (1, 22) ∧ (∀ {z : Int}, 0 ≤ z ∧ z < 2147483648 → gM (hp X s) 98 (ix (iI z)) = iI (s 98 z)) ∧ (∀ {z v : Int}, 0 ≤ z ∧ z < 2147483648 → pM (hp X s) 98 (ix (iI z)) (iI v) = hp X (u s 98 (up (s 98) z v))) ∧ (∀ {z : Int}, 0 ≤ z ∧ z < 22 → iaOK (hp X s) 98 (iI z) = True) ∧ (∀ {z : Int}, 0 ≤ z ∧ z < 22 → isOK (hp X s) 98 (iI z) = True) ∧ lnOK (hp X s) 98 = True := ⟨rfl, gA_hp ⟨rfl, (by decide)⟩, pA_hp ⟨rfl, (by decide)⟩, ok_1 (h := hp X s) (k := 98) (n := 22) rfl (by decide)⟩
theorem H_99 {X : hX} {s : sg} : gS (hp X s) 99 = (1, 22) ∧ (∀ {z : Int}, 0 ≤ z ∧ z < 2147483648 → gM (hp X s) 99 (ix (iI z)) = iI (s 99 z)) ∧ (∀ {z v : Int}, 0 ≤ z ∧ z < 2147483648 → pM (hp X s) 99 (ix (iI z)) (iI v) = hp X (u s 99 (up (s 99) z v))) ∧ (∀ {z : Int}, 0 ≤ z ∧ z < 22 → iaOK (hp X s) 99 (iI z) = True) ∧ (∀ {z : Int}, 0 ≤ z ∧ z < 22 → isOK (hp X s) 99 (iI z) = True) ∧ lnOK (hp X s) 99 = True := ⟨rfl, gA_hp ⟨rfl, (by decide)⟩, pA_hp ⟨rfl, (by decide)⟩, ok_1 (h := hp X s) (k := 99) (n := 22) rfl (by decide)⟩
theorem H_100 {X : hX} {s : sg} : gS (hp X s) 100 = (1, 22) ∧ (∀ {z : Int}, 0 ≤ z ∧ z < 2147483648 → gM (hp X s) 100 (ix (iI z)) = iI (s 100 z)) ∧ (∀ {z v : Int}, 0 ≤ z ∧ z < 2147483648 → pM (hp X s) 100 (ix (iI z)) (iI v) = hp X (u s 100 (up (s 100) z v))) ∧ (∀ {z : Int}, 0 ≤ z ∧ z < 22 → iaOK (hp X s) 100 (iI z) = True) ∧ (∀ {z : Int}, 0 ≤ z ∧ z < 22 → isOK (hp X s) 100 (iI z) = True) ∧ lnOK (hp X s) 100 = True := ⟨rfl, gA_hp ⟨rfl, (by decide)⟩, pA_hp ⟨rfl, (by decide)⟩, ok_1 (h := hp X s) (k := 100) (n := 22) rfl (by decide)⟩
theorem H_101 {X : hX} {s : sg} : gS (hp X s) 101 = (1, 22) ∧ (∀ {z : Int}, 0 ≤ z ∧ z < 2147483648 → gM (hp X s) 101 (ix (iI z)) = iI (s 101 z)) ∧ (∀ {z v : Int}, 0 ≤ z ∧ z < 2147483648 → pM (hp X s) 101 (ix (iI z)) (iI v) = hp X (u s 101 (up (s 101) z v))) ∧ (∀ {z : Int}, 0 ≤ z ∧ z < 22 → iaOK (hp X s) 101 (iI z) = True) ∧ (∀ {z : Int}, 0 ≤ z ∧ z < 22 → isOK (hp X s) 101 (iI z) = True) ∧ lnOK (hp X s) 101 = True := ⟨rfl, gA_hp ⟨rfl, (by decide)⟩, pA_hp ⟨rfl, (by decide)⟩, ok_1 (h := hp X s) (k := 101) (n := 22) rfl (by decide)⟩
theorem H_102 {X : hX} {s : sg} : gS (hp X s) 102 = (1, 22) ∧ (∀ {z : Int}, 0 ≤ z ∧ z < 2147483648 → gM (hp X s) 102 (ix (iI z)) = iI (s 102 z)) ∧ (∀ {z v : Int}, 0 ≤ z ∧ z < 2147483648 → pM (hp X s) 102 (ix (iI z)) (iI v) = hp X (u s 102 (up (s 102) z v))) ∧ (∀ {z : Int}, 0 ≤ z ∧ z < 22 → iaOK (hp X s) 102 (iI z) = True) ∧ (∀ {z : Int}, 0 ≤ z ∧ z < 22 → isOK (hp X s) 102 (iI z) = True) ∧ lnOK (hp X s) 102 = True := ⟨rfl, gA_hp ⟨rfl, (by decide)⟩, pA_hp ⟨rfl, (by decide)⟩, ok_1 (h := hp X s) (k := 102) (n := 22) rfl (by decide)⟩
theorem H_103 {X : hX} {s : sg} : gS (hp X s) 103 = (1, 22) ∧ (∀ {z : Int}, 0 ≤ z ∧ z < 2147483648 → gM (hp X s) 103 (ix (iI z)) = iI (s 103 z)) ∧ (∀ {z v : Int}, 0 ≤ z ∧ z < 2147483648 → pM (hp X s) 103 (ix (iI z)) (iI v) = hp X (u s 103 (up (s 103) z v))) ∧ (∀ {z : Int}, 0 ≤ z ∧ z < 22 → iaOK (hp X s) 103 (iI z) = True) ∧ (∀ {z : Int}, 0 ≤ z ∧ z < 22 → isOK (hp X s) 103 (iI z) = True) ∧ lnOK (hp X s) 103 = True := ⟨rfl, gA_hp ⟨rfl, (by decide)⟩, pA_hp ⟨rfl, (by decide)⟩, ok_1 (h := hp X s) (k := 103) (n := 22) rfl (by decide)⟩
theorem H_104 {X : hX} {s : sg} : gS (hp X s) 104 = (1, 22) ∧ (∀ {z : Int}, 0 ≤ z ∧ z < 2147483648 → gM (hp X s) 104 (ix (iI z)) = iI (s 104 z)) ∧ (∀ {z v : Int}, 0 ≤ z ∧ z < 2147483648 → pM (hp X s) 104 (ix (iI z)) (iI v) = hp X (u s 104 (up (s 104) z v))) ∧ (∀ {z : Int}, 0 ≤ z ∧ z < 22 → iaOK (hp X s) 104 (iI z) = True) ∧ (∀ {z : Int}, 0 ≤ z ∧ z < 22 → isOK (hp X s) 104 (iI z) = True) ∧ lnOK (hp X s) 104 = True := ⟨rfl, gA_hp ⟨rfl, (by decide)⟩, pA_hp ⟨rfl, (by decide)⟩, ok_1 (h := hp X s) (k := 104) (n := 22) rfl (by decide)⟩
theorem H_105 {X : hX} {s : sg} : gS (hp X s) 105 = (0, 8) ∧ gR (hp X s) 105 0 = some 106 ∧ gR (hp X s) 105 1 = some 112 ∧ gR (hp X s) 105 3 = some 48 ∧ gR (hp X s) 105 4 = some 84 ∧ gR (hp X s) 105 5 = some 87 ∧ gR (hp X s) 105 6 = some 118 ∧ gM (hp X s) 105 2 = iI (s 105002 0) ∧ (∀ {v : Int}, pM (hp X s) 105 2 (iI v) = hp X (u s 105002 (fun _ => v))) := ⟨rfl, rfl, rfl, rfl, rfl, rfl, rfl, gF_hp ⟨rfl, (by decide), rfl⟩, pF_hp ⟨rfl, (by decide), rfl⟩⟩
theorem H_106 {X : hX} {s : sg} : gS (hp X s) 106 = (0, 9) ∧ gR (hp X s) 106 0 = some 107 ∧ gR (hp X s) 106 1 = some 108 ∧ gR (hp X s) 106 2 = some 109 ∧ gR (hp X s) 106 3 = some 110 ∧ gR (hp X s) 106 4 = some 111 := ⟨rfl, rfl, rfl, rfl, rfl, rfl⟩
theorem H_107 {X : hX} {s : sg} : gS (hp X s) 107 = (1, 22) ∧ (∀ {z : Int}, 0 ≤ z ∧ z < 2147483648 → gM (hp X s) 107 (ix (iI z)) = iI (s 107 z)) ∧ (∀ {z v : Int}, 0 ≤ z ∧ z < 2147483648 → pM (hp X s) 107 (ix (iI z)) (iI v) = hp X (u s 107 (up (s 107) z v))) ∧ (∀ {z : Int}, 0 ≤ z ∧ z < 22 → iaOK (hp X s) 107 (iI z) = True) ∧ (∀ {z : Int}, 0 ≤ z ∧ z < 22 → isOK (hp X s) 107 (iI z) = True) ∧ lnOK (hp X s) 107 = True := ⟨rfl, gA_hp ⟨rfl, (by decide)⟩, pA_hp ⟨rfl, (by decide)⟩, ok_1 (h := hp X s) (k := 107) (n := 22) rfl (by decide)⟩
theorem H_108 {X : hX} {s : sg} : gS (hp X s) 108 = (1, 6) ∧ (∀ {z : Int}, 0 ≤ z ∧ z < 2147483648 → gM (hp X s) 108 (ix (iI z)) = iI (s 108 z)) ∧ (∀ {z v : Int}, 0 ≤ z ∧ z < 2147483648 → pM (hp X s) 108 (ix (iI z)) (iI v) = hp X (u s 108 (up (s 108) z v))) ∧ (∀ {z : Int}, 0 ≤ z ∧ z < 6 → iaOK (hp X s) 108 (iI z) = True) ∧ (∀ {z : Int}, 0 ≤ z ∧ z < 6 → isOK (hp X s) 108 (iI z) = True) ∧ lnOK (hp X s) 108 = True := ⟨rfl, gA_hp ⟨rfl, (by decide)⟩, pA_hp ⟨rfl, (by decide)⟩, ok_1 (h := hp X s) (k := 108) (n := 6) rfl (by decide)⟩
theorem H_109 {X : hX} {s : sg} : gS (hp X s) 109 = (1, 6) ∧ (∀ {z : Int}, 0 ≤ z ∧ z < 2147483648 → gM (hp X s) 109 (ix (iI z)) = iI (s 109 z)) ∧ (∀ {z v : Int}, 0 ≤ z ∧ z < 2147483648 → pM (hp X s) 109 (ix (iI z)) (iI v) = hp X (u s 109 (up (s 109) z v))) ∧ (∀ {z : Int}, 0 ≤ z ∧ z < 6 → iaOK (hp X s) 109 (iI z) = True) ∧ (∀ {z : Int}, 0 ≤ z ∧ z < 6 → isOK (hp X s) 109 (iI z) = True) ∧ lnOK (hp X s) 109 = True := ⟨rfl, gA_hp ⟨rfl, (by decide)⟩, pA_hp ⟨rfl, (by decide)⟩, ok_1 (h := hp X s) (k := 109) (n := 6) rfl (by decide)⟩
theorem H_110 {X : hX} {s : sg} : gS (hp X s) 110 = (1, 10) ∧ (∀ {z : Int}, 0 ≤ z ∧ z < 2147483648 → gM (hp X s) 110 (ix (iI z)) = iI (s 110 z)) ∧ (∀ {z v : Int}, 0 ≤ z ∧ z < 2147483648 → pM (hp X s) 110 (ix (iI z)) (iI v) = hp X (u s 110 (up (s 110) z v))) ∧ (∀ {z : Int}, 0 ≤ z ∧ z < 10 → iaOK (hp X s) 110 (iI z) = True) ∧ (∀ {z : Int}, 0 ≤ z ∧ z < 10 → isOK (hp X s) 110 (iI z) = True) ∧ lnOK (hp X s) 110 = True := ⟨rfl, gA_hp ⟨rfl, (by decide)⟩, pA_hp ⟨rfl, (by decide)⟩, ok_1 (h := hp X s) (k := 110) (n := 10) rfl (by decide)⟩
theorem H_111 {X : hX} {s : sg} : gS (hp X s) 111 = (1, 10) ∧ (∀ {z : Int}, 0 ≤ z ∧ z < 2147483648 → gM (hp X s) 111 (ix (iI z)) = iI (s 111 z)) ∧ (∀ {z v : Int}, 0 ≤ z ∧ z < 2147483648 → pM (hp X s) 111 (ix (iI z)) (iI v) = hp X (u s 111 (up (s 111) z v))) ∧ (∀ {z : Int}, 0 ≤ z ∧ z < 10 → iaOK (hp X s) 111 (iI z) = True) ∧ (∀ {z : Int}, 0 ≤ z ∧ z < 10 → isOK (hp X s) 111 (iI z) = True) ∧ lnOK (hp X s) 111 = True := ⟨rfl, gA_hp ⟨rfl, (by decide)⟩, pA_hp ⟨rfl, (by decide)⟩, ok_1 (h := hp X s) (k := 111) (n := 10) rfl (by decide)⟩
theorem H_112 {X : hX} {s : sg} : gS (hp X s) 112 = (0, 9) ∧ gR (hp X s) 112 0 = some 113 ∧ gR (hp X s) 112 1 = some 114 ∧ gR (hp X s) 112 2 = some 115 ∧ gR (hp X s) 112 3 = some 116 ∧ gR (hp X s) 112 4 = some 117 := ⟨rfl, rfl, rfl, rfl, rfl, rfl⟩
theorem H_113 {X : hX} {s : sg} : gS (hp X s) 113 = (1, 22) ∧ (∀ {z : Int}, 0 ≤ z ∧ z < 2147483648 → gM (hp X s) 113 (ix (iI z)) = iI (s 113 z)) ∧ (∀ {z v : Int}, 0 ≤ z ∧ z < 2147483648 → pM (hp X s) 113 (ix (iI z)) (iI v) = hp X (u s 113 (up (s 113) z v))) ∧ (∀ {z : Int}, 0 ≤ z ∧ z < 22 → iaOK (hp X s) 113 (iI z) = True) ∧ (∀ {z : Int}, 0 ≤ z ∧ z < 22 → isOK (hp X s) 113 (iI z) = True) ∧ lnOK (hp X s) 113 = True := ⟨rfl, gA_hp ⟨rfl, (by decide)⟩, pA_hp ⟨rfl, (by decide)⟩, ok_1 (h := hp X s) (k := 113) (n := 22) rfl (by decide)⟩
theorem H_114 {X : hX} {s : sg} : gS (hp X s) 114 = (1, 6) ∧ (∀ {z : Int}, 0 ≤ z ∧ z < 2147483648 → gM (hp X s) 114 (ix (iI z)) = iI (s 114 z)) ∧ (∀ {z v : Int}, 0 ≤ z ∧ z < 2147483648 → pM (hp X s) 114 (ix (iI z)) (iI v) = hp X (u s 114 (up (s 114) z v))) ∧ (∀ {z : Int}, 0 ≤ z ∧ z < 6 → iaOK (hp X s) 114 (iI z) = True) ∧ (∀ {z : Int}, 0 ≤ z ∧ z < 6 → isOK (hp X s) 114 (iI z) = True) ∧ lnOK (hp X s) 114 = True := ⟨rfl, gA_hp ⟨rfl, (by decide)⟩, pA_hp ⟨rfl, (by decide)⟩, ok_1 (h := hp X s) (k := 114) (n := 6) rfl (by decide)⟩
theorem H_115 {X : hX} {s : sg} : gS (hp X s) 115 = (1, 6) ∧ (∀ {z : Int}, 0 ≤ z ∧ z < 2147483648 → gM (hp X s) 115 (ix (iI z)) = iI (s 115 z)) ∧ (∀ {z v : Int}, 0 ≤ z ∧ z < 2147483648 → pM (hp X s) 115 (ix (iI z)) (iI v) = hp X (u s 115 (up (s 115) z v))) ∧ (∀ {z : Int}, 0 ≤ z ∧ z < 6 → iaOK (hp X s) 115 (iI z) = True) ∧ (∀ {z : Int}, 0 ≤ z ∧ z < 6 → isOK (hp X s) 115 (iI z) = True) ∧ lnOK (hp X s) 115 = True := ⟨rfl, gA_hp ⟨rfl, (by decide)⟩, pA_hp ⟨rfl, (by decide)⟩, ok_1 (h := hp X s) (k := 115) (n := 6) rfl (by decide)⟩
theorem H_116 {X : hX} {s : sg} : gS (hp X s) 116 = (1, 10) ∧ (∀ {z : Int}, 0 ≤ z ∧ z < 2147483648 → gM (hp X s) 116 (ix (iI z)) = iI (s 116 z)) ∧ (∀ {z v : Int}, 0 ≤ z ∧ z < 2147483648 → pM (hp X s) 116 (ix (iI z)) (iI v) = hp X (u s 116 (up (s 116) z v))) ∧ (∀ {z : Int}, 0 ≤ z ∧ z < 10 → iaOK (hp X s) 116 (iI z) = True) ∧ (∀ {z : Int}, 0 ≤ z ∧ z < 10 → isOK (hp X s) 116 (iI z) = True) ∧ lnOK (hp X s) 116 = True := ⟨rfl, gA_hp ⟨rfl, (by decide)⟩, pA_hp ⟨rfl, (by decide)⟩, ok_1 (h := hp X s) (k := 116) (n := 10) rfl (by decide)⟩
theorem H_117 {X : hX} {s : sg} : gS (hp X s) 117 = (1, 10) ∧ (∀ {z : Int}, 0 ≤ z ∧ z < 2147483648 → gM (hp X s) 117 (ix (iI z)) = iI (s 117 z)) ∧ (∀ {z v : Int}, 0 ≤ z ∧ z < 2147483648 → pM (hp X s) 117 (ix (iI z)) (iI v) = hp X (u s 117 (up (s 117) z v))) ∧ (∀ {z : Int}, 0 ≤ z ∧ z < 10 → iaOK (hp X s) 117 (iI z) = True) ∧ (∀ {z : Int}, 0 ≤ z ∧ z < 10 → isOK (hp X s) 117 (iI z) = True) ∧ lnOK (hp X s) 117 = True := ⟨rfl, gA_hp ⟨rfl, (by decide)⟩, pA_hp ⟨rfl, (by decide)⟩, ok_1 (h := hp X s) (k := 117) (n := 10) rfl (by decide)⟩
theorem H_118 {X : hX} {s : sg} : gS (hp X s) 118 = (1, 10) ∧ (∀ {z : Int}, 0 ≤ z ∧ z < 2147483648 → gM (hp X s) 118 (ix (iI z)) = iI (s 118 z)) ∧ (∀ {z v : Int}, 0 ≤ z ∧ z < 2147483648 → pM (hp X s) 118 (ix (iI z)) (iI v) = hp X (u s 118 (up (s 118) z v))) ∧ (∀ {z : Int}, 0 ≤ z ∧ z < 10 → iaOK (hp X s) 118 (iI z) = True) ∧ (∀ {z : Int}, 0 ≤ z ∧ z < 10 → isOK (hp X s) 118 (iI z) = True) ∧ lnOK (hp X s) 118 = True := ⟨rfl, gA_hp ⟨rfl, (by decide)⟩, pA_hp ⟨rfl, (by decide)⟩, ok_1 (h := hp X s) (k := 118) (n := 10) rfl (by decide)⟩
theorem H_119 {X : hX} {s : sg} : gS (hp X s) 119 = (0, 0) ∧ gR (hp X s) 119 0 = some 120 ∧ gR (hp X s) 119 1 = some 57 ∧ gR (hp X s) 119 2 = some 121 := ⟨rfl, rfl, rfl, rfl⟩
theorem H_120 {X : hX} {s : sg} : gS (hp X s) 120 = (1, 8) ∧ (∀ {z : Int}, 0 ≤ z ∧ z < 2147483648 → gM (hp X s) 120 (ix (iI z)) = iI (s 120 z)) ∧ (∀ {z v : Int}, 0 ≤ z ∧ z < 2147483648 → pM (hp X s) 120 (ix (iI z)) (iI v) = hp X (u s 120 (up (s 120) z v))) ∧ (∀ {z : Int}, 0 ≤ z ∧ z < 8 → iaOK (hp X s) 120 (iI z) = True) ∧ (∀ {z : Int}, 0 ≤ z ∧ z < 8 → isOK (hp X s) 120 (iI z) = True) ∧ lnOK (hp X s) 120 = True := ⟨rfl, gA_hp ⟨rfl, (by decide)⟩, pA_hp ⟨rfl, (by decide)⟩, ok_1 (h := hp X s) (k := 120) (n := 8) rfl (by decide)⟩
theorem H_121 {X : hX} {s : sg} : gS (hp X s) 121 = (2, 30) ∧ (∀ {z : Int}, 0 ≤ z ∧ z < 2147483648 → gM (hp X s) 121 (ix (iI z)) = iI (s 121 z)) ∧ (∀ {z v : Int}, 0 ≤ z ∧ z < 2147483648 → pM (hp X s) 121 (ix (iI z)) (iI v) = hp X (u s 121 (up (s 121) z v))) ∧ (∀ {z : Int}, 0 ≤ z ∧ z < 30 → baOK (hp X s) 121 (iI z) = True) ∧ (∀ {z : Int} {p : Prop}, 0 ≤ z ∧ z < 30 → zsOK (hp X s) 121 (iI z) (iI (bZ p)) = True) ∧ (∀ {z : Int}, 0 ≤ z ∧ z < 30 → zsOK (hp X s) 121 (iI z) (iI 0) = True) ∧ (∀ {z : Int}, 0 ≤ z ∧ z < 30 → zsOK (hp X s) 121 (iI z) (iI 1) = True) ∧ lnOK (hp X s) 121 = True := ⟨rfl, gA_hp ⟨rfl, (by decide)⟩, pA_hp ⟨rfl, (by decide)⟩, ok_2 (h := hp X s) (k := 121) (n := 30) rfl (by decide)⟩
theorem H_122 {X : hX} {s : sg} : gS (hp X s) 122 = (0, 11) ∧ gR (hp X s) 122 0 = some 123 ∧ gR (hp X s) 122 1 = some 124 ∧ gR (hp X s) 122 2 = some 125 ∧ gR (hp X s) 122 6 = some 126 ∧ gR (hp X s) 122 7 = some 127 ∧ gR (hp X s) 122 8 = some 128 ∧ gR (hp X s) 122 9 = some 129 ∧ gR (hp X s) 122 10 = some 130 ∧ gR (hp X s) 122 20 = some 131 ∧ gR (hp X s) 122 21 = some 132 ∧ gR (hp X s) 122 23 = some 133 ∧ gR (hp X s) 122 24 = some 134 ∧ gR (hp X s) 122 28 = some 135 ∧ gR (hp X s) 122 29 = some 136 ∧ gR (hp X s) 122 31 = some 137 ∧ gR (hp X s) 122 32 = some 138 ∧ gR (hp X s) 122 33 = some 139 ∧ gR (hp X s) 122 34 = some 140 ∧ gR (hp X s) 122 35 = some 141 ∧ gR (hp X s) 122 36 = some 142 ∧ gR (hp X s) 122 37 = some 143 ∧ gR (hp X s) 122 38 = some 144 ∧ gR (hp X s) 122 39 = some 145 ∧ gR (hp X s) 122 40 = some 146 ∧ gR (hp X s) 122 41 = some 147 ∧ gR (hp X s) 122 42 = some 148 ∧ gR (hp X s) 122 43 = some 149 ∧ gR (hp X s) 122 44 = some 150 ∧ gR (hp X s) 122 45 = some 151 ∧ gR (hp X s) 122 46 = some 152 ∧ gR (hp X s) 122 48 = some 153 ∧ gR (hp X s) 122 49 = some 154 ∧ gR (hp X s) 122 50 = some 155 ∧ gM (hp X s) 122 3 = iI (s 122003 0) ∧ (∀ {v : Int}, pM (hp X s) 122 3 (iI v) = hp X (u s 122003 (fun _ => v))) ∧ gM (hp X s) 122 4 = iI (s 122004 0) ∧ (∀ {v : Int}, pM (hp X s) 122 4 (iI v) = hp X (u s 122004 (fun _ => v))) ∧ gM (hp X s) 122 5 = iI (s 122005 0) ∧ (∀ {v : Int}, pM (hp X s) 122 5 (iI v) = hp X (u s 122005 (fun _ => v))) ∧ gM (hp X s) 122 11 = iI (s 122011 0) ∧ (∀ {v : Int}, pM (hp X s) 122 11 (iI v) = hp X (u s 122011 (fun _ => v))) ∧ gM (hp X s) 122 12 = iI (s 122012 0) ∧ (∀ {v : Int}, pM (hp X s) 122 12 (iI v) = hp X (u s 122012 (fun _ => v))) ∧ gM (hp X s) 122 13 = iI (s 122013 0) ∧ (∀ {v : Int}, pM (hp X s) 122 13 (iI v) = hp X (u s 122013 (fun _ => v))) ∧ gM (hp X s) 122 14 = iI (s 122014 0) ∧ (∀ {v : Int}, pM (hp X s) 122 14 (iI v) = hp X (u s 122014 (fun _ => v))) ∧ gM (hp X s) 122 15 = iI (s 122015 0) ∧ (∀ {v : Int}, pM (hp X s) 122 15 (iI v) = hp X (u s 122015 (fun _ => v))) ∧ gM (hp X s) 122 16 = iI (s 122016 0) ∧ (∀ {v : Int}, pM (hp X s) 122 16 (iI v) = hp X (u s 122016 (fun _ => v))) ∧ gM (hp X s) 122 17 = iI (s 122017 0) ∧ (∀ {v : Int}, pM (hp X s) 122 17 (iI v) = hp X (u s 122017 (fun _ => v))) ∧ gM (hp X s) 122 18 = iI (s 122018 0) ∧ (∀ {v : Int}, pM (hp X s) 122 18 (iI v) = hp X (u s 122018 (fun _ => v))) ∧ gM (hp X s) 122 19 = iI (s 122019 0) ∧ (∀ {v : Int}, pM (hp X s) 122 19 (iI v) = hp X (u s 122019 (fun _ => v))) ∧ gM (hp X s) 122 22 = iI (s 122022 0) ∧ (∀ {v : Int}, pM (hp X s) 122 22 (iI v) = hp X (u s 122022 (fun _ => v))) ∧ gM (hp X s) 122 25 = iI (s 122025 0) ∧ (∀ {v : Int}, pM (hp X s) 122 25 (iI v) = hp X (u s 122025 (fun _ => v))) ∧ gM (hp X s) 122 26 = iI (s 122026 0) ∧ (∀ {v : Int}, pM (hp X s) 122 26 (iI v) = hp X (u s 122026 (fun _ => v))) ∧ gM (hp X s) 122 27 = iI (s 122027 0) ∧ (∀ {v : Int}, pM (hp X s) 122 27 (iI v) = hp X (u s 122027 (fun _ => v))) ∧ gM (hp X s) 122 30 = iI (s 122030 0) ∧ (∀ {v : Int}, pM (hp X s) 122 30 (iI v) = hp X (u s 122030 (fun _ => v))) ∧ gM (hp X s) 122 47 = iI (s 122047 0) ∧ (∀ {v : Int}, pM (hp X s) 122 47 (iI v) = hp X (u s 122047 (fun _ => v))) ∧ gM (hp X s) 122 51 = iI (s 122051 0) ∧ (∀ {v : Int}, pM (hp X s) 122 51 (iI v) = hp X (u s 122051 (fun _ => v))) := ⟨rfl, rfl, rfl, rfl, rfl, rfl, rfl, rfl, rfl, rfl, rfl, rfl, rfl, rfl, rfl, rfl, rfl, rfl, rfl, rfl, rfl, rfl, rfl, rfl, rfl, rfl, rfl, rfl, rfl, rfl, rfl, rfl, rfl, rfl, gF_hp ⟨rfl, (by decide), rfl⟩, pF_hp ⟨rfl, (by decide), rfl⟩, gF_hp ⟨rfl, (by decide), rfl⟩, pF_hp ⟨rfl, (by decide), rfl⟩, gF_hp ⟨rfl, (by decide), rfl⟩, pF_hp ⟨rfl, (by decide), rfl⟩, gF_hp ⟨rfl, (by decide), rfl⟩, pF_hp ⟨rfl, (by decide), rfl⟩, gF_hp ⟨rfl, (by decide), rfl⟩, pF_hp ⟨rfl, (by decide), rfl⟩, gF_hp ⟨rfl, (by decide), rfl⟩, pF_hp ⟨rfl, (by decide), rfl⟩, gF_hp ⟨rfl, (by decide), rfl⟩, pF_hp ⟨rfl, (by decide), rfl⟩, gF_hp ⟨rfl, (by decide), rfl⟩, pF_hp ⟨rfl, (by decide), rfl⟩, gF_hp ⟨rfl, (by decide), rfl⟩, pF_hp ⟨rfl, (by decide), rfl⟩, gF_hp ⟨rfl, (by decide), rfl⟩, pF_hp ⟨rfl, (by decide), rfl⟩, gF_hp ⟨rfl, (by decide), rfl⟩, pF_hp ⟨rfl, (by decide), rfl⟩, gF_hp ⟨rfl, (by decide), rfl⟩, pF_hp ⟨rfl, (by decide), rfl⟩, gF_hp ⟨rfl, (by decide), rfl⟩, pF_hp ⟨rfl, (by decide), rfl⟩, gF_hp ⟨rfl, (by decide), rfl⟩, pF_hp ⟨rfl, (by decide), rfl⟩, gF_hp ⟨rfl, (by decide), rfl⟩, pF_hp ⟨rfl, (by decide), rfl⟩, gF_hp ⟨rfl, (by decide), rfl⟩, pF_hp ⟨rfl, (by decide), rfl⟩, gF_hp ⟨rfl, (by decide), rfl⟩, pF_hp ⟨rfl, (by decide), rfl⟩, gF_hp ⟨rfl, (by decide), rfl⟩, pF_hp ⟨rfl, (by decide), rfl⟩, gF_hp ⟨rfl, (by decide), rfl⟩, pF_hp ⟨rfl, (by decide), rfl⟩⟩
theorem H_123 {X : hX} {s : sg} : gS (hp X s) 123 = (1, 570) ∧ (∀ {z : Int}, 0 ≤ z ∧ z < 2147483648 → gM (hp X s) 123 (ix (iI z)) = iI (s 123 z)) ∧ (∀ {z v : Int}, 0 ≤ z ∧ z < 2147483648 → pM (hp X s) 123 (ix (iI z)) (iI v) = hp X (u s 123 (up (s 123) z v))) ∧ (∀ {z : Int}, 0 ≤ z ∧ z < 570 → iaOK (hp X s) 123 (iI z) = True) ∧ (∀ {z : Int}, 0 ≤ z ∧ z < 570 → isOK (hp X s) 123 (iI z) = True) ∧ lnOK (hp X s) 123 = True := ⟨rfl, gA_hp ⟨rfl, (by decide)⟩, pA_hp ⟨rfl, (by decide)⟩, ok_1 (h := hp X s) (k := 123) (n := 570) rfl (by decide)⟩
theorem H_124 {X : hX} {s : sg} : gS (hp X s) 124 = (1, 570) ∧ (∀ {z : Int}, 0 ≤ z ∧ z < 2147483648 → gM (hp X s) 124 (ix (iI z)) = iI (s 124 z)) ∧ (∀ {z v : Int}, 0 ≤ z ∧ z < 2147483648 → pM (hp X s) 124 (ix (iI z)) (iI v) = hp X (u s 124 (up (s 124) z v))) ∧ (∀ {z : Int}, 0 ≤ z ∧ z < 570 → iaOK (hp X s) 124 (iI z) = True) ∧ (∀ {z : Int}, 0 ≤ z ∧ z < 570 → isOK (hp X s) 124 (iI z) = True) ∧ lnOK (hp X s) 124 = True := ⟨rfl, gA_hp ⟨rfl, (by decide)⟩, pA_hp ⟨rfl, (by decide)⟩, ok_1 (h := hp X s) (k := 124) (n := 570) rfl (by decide)⟩
theorem H_125 {X : hX} {s : sg} : gS (hp X s) 125 = (3, 300) ∧ (∀ {z : Int}, 0 ≤ z ∧ z < 2147483648 → gM (hp X s) 125 (ix (iI z)) = iI (s 125 z)) ∧ (∀ {z v : Int}, 0 ≤ z ∧ z < 2147483648 → pM (hp X s) 125 (ix (iI z)) (iI v) = hp X (u s 125 (up (s 125) z v))) ∧ (∀ {z : Int}, 0 ≤ z ∧ z < 300 → baOK (hp X s) 125 (iI z) = True) ∧ (∀ {z : Int}, 0 ≤ z ∧ z < 300 → bsOK (hp X s) 125 (iI z) = True) := ⟨rfl, gA_hp ⟨rfl, (by decide)⟩, pA_hp ⟨rfl, (by decide)⟩, ok_3 (h := hp X s) (k := 125) (n := 300) rfl (by decide)⟩
theorem H_126 {X : hX} {s : sg} : gS (hp X s) 126 = (1, 6) ∧ (∀ {z : Int}, 0 ≤ z ∧ z < 2147483648 → gM (hp X s) 126 (ix (iI z)) = iI (s 126 z)) ∧ (∀ {z v : Int}, 0 ≤ z ∧ z < 2147483648 → pM (hp X s) 126 (ix (iI z)) (iI v) = hp X (u s 126 (up (s 126) z v))) ∧ (∀ {z : Int}, 0 ≤ z ∧ z < 6 → iaOK (hp X s) 126 (iI z) = True) ∧ (∀ {z : Int}, 0 ≤ z ∧ z < 6 → isOK (hp X s) 126 (iI z) = True) ∧ lnOK (hp X s) 126 = True := ⟨rfl, gA_hp ⟨rfl, (by decide)⟩, pA_hp ⟨rfl, (by decide)⟩, ok_1 (h := hp X s) (k := 126) (n := 6) rfl (by decide)⟩
theorem H_127 {X : hX} {s : sg} : gS (hp X s) 127 = (1, 60) ∧ (∀ {z : Int}, 0 ≤ z ∧ z < 2147483648 → gM (hp X s) 127 (ix (iI z)) = iI (s 127 z)) ∧ (∀ {z v : Int}, 0 ≤ z ∧ z < 2147483648 → pM (hp X s) 127 (ix (iI z)) (iI v) = hp X (u s 127 (up (s 127) z v))) ∧ (∀ {z : Int}, 0 ≤ z ∧ z < 60 → iaOK (hp X s) 127 (iI z) = True) ∧ (∀ {z : Int}, 0 ≤ z ∧ z < 60 → isOK (hp X s) 127 (iI z) = True) ∧ lnOK (hp X s) 127 = True := ⟨rfl, gA_hp ⟨rfl, (by decide)⟩, pA_hp ⟨rfl, (by decide)⟩, ok_1 (h := hp X s) (k := 127) (n := 60) rfl (by decide)⟩
theorem H_128 {X : hX} {s : sg} : gS (hp X s) 128 = (1, 60) ∧ (∀ {z : Int}, 0 ≤ z ∧ z < 2147483648 → gM (hp X s) 128 (ix (iI z)) = iI (s 128 z)) ∧ (∀ {z v : Int}, 0 ≤ z ∧ z < 2147483648 → pM (hp X s) 128 (ix (iI z)) (iI v) = hp X (u s 128 (up (s 128) z v))) ∧ (∀ {z : Int}, 0 ≤ z ∧ z < 60 → iaOK (hp X s) 128 (iI z) = True) ∧ (∀ {z : Int}, 0 ≤ z ∧ z < 60 → isOK (hp X s) 128 (iI z) = True) ∧ lnOK (hp X s) 128 = True := ⟨rfl, gA_hp ⟨rfl, (by decide)⟩, pA_hp ⟨rfl, (by decide)⟩, ok_1 (h := hp X s) (k := 128) (n := 60) rfl (by decide)⟩
theorem H_129 {X : hX} {s : sg} : gS (hp X s) 129 = (1, 2400) ∧ (∀ {z : Int}, 0 ≤ z ∧ z < 2147483648 → gM (hp X s) 129 (ix (iI z)) = iI (s 129 z)) ∧ (∀ {z v : Int}, 0 ≤ z ∧ z < 2147483648 → pM (hp X s) 129 (ix (iI z)) (iI v) = hp X (u s 129 (up (s 129) z v))) ∧ (∀ {z : Int}, 0 ≤ z ∧ z < 2400 → iaOK (hp X s) 129 (iI z) = True) ∧ (∀ {z : Int}, 0 ≤ z ∧ z < 2400 → isOK (hp X s) 129 (iI z) = True) ∧ lnOK (hp X s) 129 = True := ⟨rfl, gA_hp ⟨rfl, (by decide)⟩, pA_hp ⟨rfl, (by decide)⟩, ok_1 (h := hp X s) (k := 129) (n := 2400) rfl (by decide)⟩
theorem H_130 {X : hX} {s : sg} : gS (hp X s) 130 = (1, 2400) ∧ (∀ {z : Int}, 0 ≤ z ∧ z < 2147483648 → gM (hp X s) 130 (ix (iI z)) = iI (s 130 z)) ∧ (∀ {z v : Int}, 0 ≤ z ∧ z < 2147483648 → pM (hp X s) 130 (ix (iI z)) (iI v) = hp X (u s 130 (up (s 130) z v))) ∧ (∀ {z : Int}, 0 ≤ z ∧ z < 2400 → iaOK (hp X s) 130 (iI z) = True) ∧ (∀ {z : Int}, 0 ≤ z ∧ z < 2400 → isOK (hp X s) 130 (iI z) = True) ∧ lnOK (hp X s) 130 = True := ⟨rfl, gA_hp ⟨rfl, (by decide)⟩, pA_hp ⟨rfl, (by decide)⟩, ok_1 (h := hp X s) (k := 130) (n := 2400) rfl (by decide)⟩
theorem H_131 {X : hX} {s : sg} : gS (hp X s) 131 = (1, 40) ∧ (∀ {z : Int}, 0 ≤ z ∧ z < 2147483648 → gM (hp X s) 131 (ix (iI z)) = iI (s 131 z)) ∧ (∀ {z v : Int}, 0 ≤ z ∧ z < 2147483648 → pM (hp X s) 131 (ix (iI z)) (iI v) = hp X (u s 131 (up (s 131) z v))) ∧ (∀ {z : Int}, 0 ≤ z ∧ z < 40 → iaOK (hp X s) 131 (iI z) = True) ∧ (∀ {z : Int}, 0 ≤ z ∧ z < 40 → isOK (hp X s) 131 (iI z) = True) ∧ lnOK (hp X s) 131 = True := ⟨rfl, gA_hp ⟨rfl, (by decide)⟩, pA_hp ⟨rfl, (by decide)⟩, ok_1 (h := hp X s) (k := 131) (n := 40) rfl (by decide)⟩
theorem H_132 {X : hX} {s : sg} : gS (hp X s) 132 = (1, 41) ∧ (∀ {z : Int}, 0 ≤ z ∧ z < 2147483648 → gM (hp X s) 132 (ix (iI z)) = iI (s 132 z)) ∧ (∀ {z v : Int}, 0 ≤ z ∧ z < 2147483648 → pM (hp X s) 132 (ix (iI z)) (iI v) = hp X (u s 132 (up (s 132) z v))) ∧ (∀ {z : Int}, 0 ≤ z ∧ z < 41 → iaOK (hp X s) 132 (iI z) = True) ∧ (∀ {z : Int}, 0 ≤ z ∧ z < 41 → isOK (hp X s) 132 (iI z) = True) ∧ lnOK (hp X s) 132 = True := ⟨rfl, gA_hp ⟨rfl, (by decide)⟩, pA_hp ⟨rfl, (by decide)⟩, ok_1 (h := hp X s) (k := 132) (n := 41) rfl (by decide)⟩
theorem H_133 {X : hX} {s : sg} : gS (hp X s) 133 = (1, 80) ∧ (∀ {z : Int}, 0 ≤ z ∧ z < 2147483648 → gM (hp X s) 133 (ix (iI z)) = iI (s 133 z)) ∧ (∀ {z v : Int}, 0 ≤ z ∧ z < 2147483648 → pM (hp X s) 133 (ix (iI z)) (iI v) = hp X (u s 133 (up (s 133) z v))) ∧ (∀ {z : Int}, 0 ≤ z ∧ z < 80 → iaOK (hp X s) 133 (iI z) = True) ∧ (∀ {z : Int}, 0 ≤ z ∧ z < 80 → isOK (hp X s) 133 (iI z) = True) ∧ lnOK (hp X s) 133 = True := ⟨rfl, gA_hp ⟨rfl, (by decide)⟩, pA_hp ⟨rfl, (by decide)⟩, ok_1 (h := hp X s) (k := 133) (n := 80) rfl (by decide)⟩
theorem H_134 {X : hX} {s : sg} : gS (hp X s) 134 = (1, 80) ∧ (∀ {z : Int}, 0 ≤ z ∧ z < 2147483648 → gM (hp X s) 134 (ix (iI z)) = iI (s 134 z)) ∧ (∀ {z v : Int}, 0 ≤ z ∧ z < 2147483648 → pM (hp X s) 134 (ix (iI z)) (iI v) = hp X (u s 134 (up (s 134) z v))) ∧ (∀ {z : Int}, 0 ≤ z ∧ z < 80 → iaOK (hp X s) 134 (iI z) = True) ∧ (∀ {z : Int}, 0 ≤ z ∧ z < 80 → isOK (hp X s) 134 (iI z) = True) ∧ lnOK (hp X s) 134 = True := ⟨rfl, gA_hp ⟨rfl, (by decide)⟩, pA_hp ⟨rfl, (by decide)⟩, ok_1 (h := hp X s) (k := 134) (n := 80) rfl (by decide)⟩
theorem H_135 {X : hX} {s : sg} : gS (hp X s) 135 = (1, 10) ∧ (∀ {z : Int}, 0 ≤ z ∧ z < 2147483648 → gM (hp X s) 135 (ix (iI z)) = iI (s 135 z)) ∧ (∀ {z v : Int}, 0 ≤ z ∧ z < 2147483648 → pM (hp X s) 135 (ix (iI z)) (iI v) = hp X (u s 135 (up (s 135) z v))) ∧ (∀ {z : Int}, 0 ≤ z ∧ z < 10 → iaOK (hp X s) 135 (iI z) = True) ∧ (∀ {z : Int}, 0 ≤ z ∧ z < 10 → isOK (hp X s) 135 (iI z) = True) ∧ lnOK (hp X s) 135 = True := ⟨rfl, gA_hp ⟨rfl, (by decide)⟩, pA_hp ⟨rfl, (by decide)⟩, ok_1 (h := hp X s) (k := 135) (n := 10) rfl (by decide)⟩
theorem H_136 {X : hX} {s : sg} : gS (hp X s) 136 = (1, 10) ∧ (∀ {z : Int}, 0 ≤ z ∧ z < 2147483648 → gM (hp X s) 136 (ix (iI z)) = iI (s 136 z)) ∧ (∀ {z v : Int}, 0 ≤ z ∧ z < 2147483648 → pM (hp X s) 136 (ix (iI z)) (iI v) = hp X (u s 136 (up (s 136) z v))) ∧ (∀ {z : Int}, 0 ≤ z ∧ z < 10 → iaOK (hp X s) 136 (iI z) = True) ∧ (∀ {z : Int}, 0 ≤ z ∧ z < 10 → isOK (hp X s) 136 (iI z) = True) ∧ lnOK (hp X s) 136 = True := ⟨rfl, gA_hp ⟨rfl, (by decide)⟩, pA_hp ⟨rfl, (by decide)⟩, ok_1 (h := hp X s) (k := 136) (n := 10) rfl (by decide)⟩
theorem H_137 {X : hX} {s : sg} : gS (hp X s) 137 = (1, 400) ∧ (∀ {z : Int}, 0 ≤ z ∧ z < 2147483648 → gM (hp X s) 137 (ix (iI z)) = iI (s 137 z)) ∧ (∀ {z v : Int}, 0 ≤ z ∧ z < 2147483648 → pM (hp X s) 137 (ix (iI z)) (iI v) = hp X (u s 137 (up (s 137) z v))) ∧ (∀ {z : Int}, 0 ≤ z ∧ z < 400 → iaOK (hp X s) 137 (iI z) = True) ∧ (∀ {z : Int}, 0 ≤ z ∧ z < 400 → isOK (hp X s) 137 (iI z) = True) ∧ lnOK (hp X s) 137 = True := ⟨rfl, gA_hp ⟨rfl, (by decide)⟩, pA_hp ⟨rfl, (by decide)⟩, ok_1 (h := hp X s) (k := 137) (n := 400) rfl (by decide)⟩
theorem H_138 {X : hX} {s : sg} : gS (hp X s) 138 = (1, 400) ∧ (∀ {z : Int}, 0 ≤ z ∧ z < 2147483648 → gM (hp X s) 138 (ix (iI z)) = iI (s 138 z)) ∧ (∀ {z v : Int}, 0 ≤ z ∧ z < 2147483648 → pM (hp X s) 138 (ix (iI z)) (iI v) = hp X (u s 138 (up (s 138) z v))) ∧ (∀ {z : Int}, 0 ≤ z ∧ z < 400 → iaOK (hp X s) 138 (iI z) = True) ∧ (∀ {z : Int}, 0 ≤ z ∧ z < 400 → isOK (hp X s) 138 (iI z) = True) ∧ lnOK (hp X s) 138 = True := ⟨rfl, gA_hp ⟨rfl, (by decide)⟩, pA_hp ⟨rfl, (by decide)⟩, ok_1 (h := hp X s) (k := 138) (n := 400) rfl (by decide)⟩
theorem H_139 {X : hX} {s : sg} : gS (hp X s) 139 = (1, 6) ∧ (∀ {z : Int}, 0 ≤ z ∧ z < 2147483648 → gM (hp X s) 139 (ix (iI z)) = iI (s 139 z)) ∧ (∀ {z v : Int}, 0 ≤ z ∧ z < 2147483648 → pM (hp X s) 139 (ix (iI z)) (iI v) = hp X (u s 139 (up (s 139) z v))) ∧ (∀ {z : Int}, 0 ≤ z ∧ z < 6 → iaOK (hp X s) 139 (iI z) = True) ∧ (∀ {z : Int}, 0 ≤ z ∧ z < 6 → isOK (hp X s) 139 (iI z) = True) ∧ lnOK (hp X s) 139 = True := ⟨rfl, gA_hp ⟨rfl, (by decide)⟩, pA_hp ⟨rfl, (by decide)⟩, ok_1 (h := hp X s) (k := 139) (n := 6) rfl (by decide)⟩
theorem H_140 {X : hX} {s : sg} : gS (hp X s) 140 = (4, 200) ∧ (∀ {z : Int}, 0 ≤ z ∧ z < 2147483648 → gL (hp X s) 140 (ix (iI z)) = lI (s 140 z)) ∧ (∀ {z v : Int}, 0 ≤ z ∧ z < 2147483648 → pL (hp X s) 140 (ix (iI z)) (lI v) = hp X (u s 140 (up (s 140) z v))) ∧ (∀ {z : Int}, 0 ≤ z ∧ z < 200 → laOK (hp X s) 140 (iI z) = True) := ⟨rfl, @gL_hp X s, pL_hp, ok_4 (h := hp X s) (k := 140) (n := 200) rfl (by decide)⟩
theorem H_141 {X : hX} {s : sg} : gS (hp X s) 141 = (1, 22) ∧ (∀ {z : Int}, 0 ≤ z ∧ z < 2147483648 → gM (hp X s) 141 (ix (iI z)) = iI (s 141 z)) ∧ (∀ {z v : Int}, 0 ≤ z ∧ z < 2147483648 → pM (hp X s) 141 (ix (iI z)) (iI v) = hp X (u s 141 (up (s 141) z v))) ∧ (∀ {z : Int}, 0 ≤ z ∧ z < 22 → iaOK (hp X s) 141 (iI z) = True) ∧ (∀ {z : Int}, 0 ≤ z ∧ z < 22 → isOK (hp X s) 141 (iI z) = True) ∧ lnOK (hp X s) 141 = True := ⟨rfl, gA_hp ⟨rfl, (by decide)⟩, pA_hp ⟨rfl, (by decide)⟩, ok_1 (h := hp X s) (k := 141) (n := 22) rfl (by decide)⟩
theorem H_142 {X : hX} {s : sg} : gS (hp X s) 142 = (1, 22) ∧ (∀ {z : Int}, 0 ≤ z ∧ z < 2147483648 → gM (hp X s) 142 (ix (iI z)) = iI (s 142 z)) ∧ (∀ {z v : Int}, 0 ≤ z ∧ z < 2147483648 → pM (hp X s) 142 (ix (iI z)) (iI v) = hp X (u s 142 (up (s 142) z v))) ∧ (∀ {z : Int}, 0 ≤ z ∧ z < 22 → iaOK (hp X s) 142 (iI z) = True) ∧ (∀ {z : Int}, 0 ≤ z ∧ z < 22 → isOK (hp X s) 142 (iI z) = True) ∧ lnOK (hp X s) 142 = True := ⟨rfl, gA_hp ⟨rfl, (by decide)⟩, pA_hp ⟨rfl, (by decide)⟩, ok_1 (h := hp X s) (k := 142) (n := 22) rfl (by decide)⟩
theorem H_143 {X : hX} {s : sg} : gS (hp X s) 143 = (1, 22) ∧ (∀ {z : Int}, 0 ≤ z ∧ z < 2147483648 → gM (hp X s) 143 (ix (iI z)) = iI (s 143 z)) ∧ (∀ {z v : Int}, 0 ≤ z ∧ z < 2147483648 → pM (hp X s) 143 (ix (iI z)) (iI v) = hp X (u s 143 (up (s 143) z v))) ∧ (∀ {z : Int}, 0 ≤ z ∧ z < 22 → iaOK (hp X s) 143 (iI z) = True) ∧ (∀ {z : Int}, 0 ≤ z ∧ z < 22 → isOK (hp X s) 143 (iI z) = True) ∧ lnOK (hp X s) 143 = True := ⟨rfl, gA_hp ⟨rfl, (by decide)⟩, pA_hp ⟨rfl, (by decide)⟩, ok_1 (h := hp X s) (k := 143) (n := 22) rfl (by decide)⟩
theorem H_144 {X : hX} {s : sg} : gS (hp X s) 144 = (1, 22) ∧ (∀ {z : Int}, 0 ≤ z ∧ z < 2147483648 → gM (hp X s) 144 (ix (iI z)) = iI (s 144 z)) ∧ (∀ {z v : Int}, 0 ≤ z ∧ z < 2147483648 → pM (hp X s) 144 (ix (iI z)) (iI v) = hp X (u s 144 (up (s 144) z v))) ∧ (∀ {z : Int}, 0 ≤ z ∧ z < 22 → iaOK (hp X s) 144 (iI z) = True) ∧ (∀ {z : Int}, 0 ≤ z ∧ z < 22 → isOK (hp X s) 144 (iI z) = True) ∧ lnOK (hp X s) 144 = True := ⟨rfl, gA_hp ⟨rfl, (by decide)⟩, pA_hp ⟨rfl, (by decide)⟩, ok_1 (h := hp X s) (k := 144) (n := 22) rfl (by decide)⟩
theorem H_145 {X : hX} {s : sg} : gS (hp X s) 145 = (2, 22) ∧ (∀ {z : Int}, 0 ≤ z ∧ z < 2147483648 → gM (hp X s) 145 (ix (iI z)) = iI (s 145 z)) ∧ (∀ {z v : Int}, 0 ≤ z ∧ z < 2147483648 → pM (hp X s) 145 (ix (iI z)) (iI v) = hp X (u s 145 (up (s 145) z v))) ∧ (∀ {z : Int}, 0 ≤ z ∧ z < 22 → baOK (hp X s) 145 (iI z) = True) ∧ (∀ {z : Int} {p : Prop}, 0 ≤ z ∧ z < 22 → zsOK (hp X s) 145 (iI z) (iI (bZ p)) = True) ∧ (∀ {z : Int}, 0 ≤ z ∧ z < 22 → zsOK (hp X s) 145 (iI z) (iI 0) = True) ∧ (∀ {z : Int}, 0 ≤ z ∧ z < 22 → zsOK (hp X s) 145 (iI z) (iI 1) = True) ∧ lnOK (hp X s) 145 = True := ⟨rfl, gA_hp ⟨rfl, (by decide)⟩, pA_hp ⟨rfl, (by decide)⟩, ok_2 (h := hp X s) (k := 145) (n := 22) rfl (by decide)⟩
theorem H_146 {X : hX} {s : sg} : gS (hp X s) 146 = (1, 220) ∧ (∀ {z : Int}, 0 ≤ z ∧ z < 2147483648 → gM (hp X s) 146 (ix (iI z)) = iI (s 146 z)) ∧ (∀ {z v : Int}, 0 ≤ z ∧ z < 2147483648 → pM (hp X s) 146 (ix (iI z)) (iI v) = hp X (u s 146 (up (s 146) z v))) ∧ (∀ {z : Int}, 0 ≤ z ∧ z < 220 → iaOK (hp X s) 146 (iI z) = True) ∧ (∀ {z : Int}, 0 ≤ z ∧ z < 220 → isOK (hp X s) 146 (iI z) = True) ∧ lnOK (hp X s) 146 = True := ⟨rfl, gA_hp ⟨rfl, (by decide)⟩, pA_hp ⟨rfl, (by decide)⟩, ok_1 (h := hp X s) (k := 146) (n := 220) rfl (by decide)⟩
theorem H_147 {X : hX} {s : sg} : gS (hp X s) 147 = (1, 6) ∧ (∀ {z : Int}, 0 ≤ z ∧ z < 2147483648 → gM (hp X s) 147 (ix (iI z)) = iI (s 147 z)) ∧ (∀ {z v : Int}, 0 ≤ z ∧ z < 2147483648 → pM (hp X s) 147 (ix (iI z)) (iI v) = hp X (u s 147 (up (s 147) z v))) ∧ (∀ {z : Int}, 0 ≤ z ∧ z < 6 → iaOK (hp X s) 147 (iI z) = True) ∧ (∀ {z : Int}, 0 ≤ z ∧ z < 6 → isOK (hp X s) 147 (iI z) = True) ∧ lnOK (hp X s) 147 = True := ⟨rfl, gA_hp ⟨rfl, (by decide)⟩, pA_hp ⟨rfl, (by decide)⟩, ok_1 (h := hp X s) (k := 147) (n := 6) rfl (by decide)⟩
theorem H_148 {X : hX} {s : sg} : gS (hp X s) 148 = (1, 6) ∧ (∀ {z : Int}, 0 ≤ z ∧ z < 2147483648 → gM (hp X s) 148 (ix (iI z)) = iI (s 148 z)) ∧ (∀ {z v : Int}, 0 ≤ z ∧ z < 2147483648 → pM (hp X s) 148 (ix (iI z)) (iI v) = hp X (u s 148 (up (s 148) z v))) ∧ (∀ {z : Int}, 0 ≤ z ∧ z < 6 → iaOK (hp X s) 148 (iI z) = True) ∧ (∀ {z : Int}, 0 ≤ z ∧ z < 6 → isOK (hp X s) 148 (iI z) = True) ∧ lnOK (hp X s) 148 = True := ⟨rfl, gA_hp ⟨rfl, (by decide)⟩, pA_hp ⟨rfl, (by decide)⟩, ok_1 (h := hp X s) (k := 148) (n := 6) rfl (by decide)⟩
theorem H_149 {X : hX} {s : sg} : gS (hp X s) 149 = (1, 10) ∧ (∀ {z : Int}, 0 ≤ z ∧ z < 2147483648 → gM (hp X s) 149 (ix (iI z)) = iI (s 149 z)) ∧ (∀ {z v : Int}, 0 ≤ z ∧ z < 2147483648 → pM (hp X s) 149 (ix (iI z)) (iI v) = hp X (u s 149 (up (s 149) z v))) ∧ (∀ {z : Int}, 0 ≤ z ∧ z < 10 → iaOK (hp X s) 149 (iI z) = True) ∧ (∀ {z : Int}, 0 ≤ z ∧ z < 10 → isOK (hp X s) 149 (iI z) = True) ∧ lnOK (hp X s) 149 = True := ⟨rfl, gA_hp ⟨rfl, (by decide)⟩, pA_hp ⟨rfl, (by decide)⟩, ok_1 (h := hp X s) (k := 149) (n := 10) rfl (by decide)⟩
theorem H_150 {X : hX} {s : sg} : gS (hp X s) 150 = (1, 10) ∧ (∀ {z : Int}, 0 ≤ z ∧ z < 2147483648 → gM (hp X s) 150 (ix (iI z)) = iI (s 150 z)) ∧ (∀ {z v : Int}, 0 ≤ z ∧ z < 2147483648 → pM (hp X s) 150 (ix (iI z)) (iI v) = hp X (u s 150 (up (s 150) z v))) ∧ (∀ {z : Int}, 0 ≤ z ∧ z < 10 → iaOK (hp X s) 150 (iI z) = True) ∧ (∀ {z : Int}, 0 ≤ z ∧ z < 10 → isOK (hp X s) 150 (iI z) = True) ∧ lnOK (hp X s) 150 = True := ⟨rfl, gA_hp ⟨rfl, (by decide)⟩, pA_hp ⟨rfl, (by decide)⟩, ok_1 (h := hp X s) (k := 150) (n := 10) rfl (by decide)⟩
theorem H_151 {X : hX} {s : sg} : gS (hp X s) 151 = (1, 22) ∧ (∀ {z : Int}, 0 ≤ z ∧ z < 2147483648 → gM (hp X s) 151 (ix (iI z)) = iI (s 151 z)) ∧ (∀ {z v : Int}, 0 ≤ z ∧ z < 2147483648 → pM (hp X s) 151 (ix (iI z)) (iI v) = hp X (u s 151 (up (s 151) z v))) ∧ (∀ {z : Int}, 0 ≤ z ∧ z < 22 → iaOK (hp X s) 151 (iI z) = True) ∧ (∀ {z : Int}, 0 ≤ z ∧ z < 22 → isOK (hp X s) 151 (iI z) = True) ∧ lnOK (hp X s) 151 = True := ⟨rfl, gA_hp ⟨rfl, (by decide)⟩, pA_hp ⟨rfl, (by decide)⟩, ok_1 (h := hp X s) (k := 151) (n := 22) rfl (by decide)⟩
theorem H_152 {X : hX} {s : sg} : gS (hp X s) 152 = (1, 22) ∧ (∀ {z : Int}, 0 ≤ z ∧ z < 2147483648 → gM (hp X s) 152 (ix (iI z)) = iI (s 152 z)) ∧ (∀ {z v : Int}, 0 ≤ z ∧ z < 2147483648 → pM (hp X s) 152 (ix (iI z)) (iI v) = hp X (u s 152 (up (s 152) z v))) ∧ (∀ {z : Int}, 0 ≤ z ∧ z < 22 → iaOK (hp X s) 152 (iI z) = True) ∧ (∀ {z : Int}, 0 ≤ z ∧ z < 22 → isOK (hp X s) 152 (iI z) = True) ∧ lnOK (hp X s) 152 = True := ⟨rfl, gA_hp ⟨rfl, (by decide)⟩, pA_hp ⟨rfl, (by decide)⟩, ok_1 (h := hp X s) (k := 152) (n := 22) rfl (by decide)⟩
theorem H_153 {X : hX} {s : sg} : gS (hp X s) 153 = (1, 16) ∧ (∀ {z : Int}, 0 ≤ z ∧ z < 2147483648 → gM (hp X s) 153 (ix (iI z)) = iI (s 153 z)) ∧ (∀ {z v : Int}, 0 ≤ z ∧ z < 2147483648 → pM (hp X s) 153 (ix (iI z)) (iI v) = hp X (u s 153 (up (s 153) z v))) ∧ (∀ {z : Int}, 0 ≤ z ∧ z < 16 → iaOK (hp X s) 153 (iI z) = True) ∧ (∀ {z : Int}, 0 ≤ z ∧ z < 16 → isOK (hp X s) 153 (iI z) = True) ∧ lnOK (hp X s) 153 = True := ⟨rfl, gA_hp ⟨rfl, (by decide)⟩, pA_hp ⟨rfl, (by decide)⟩, ok_1 (h := hp X s) (k := 153) (n := 16) rfl (by decide)⟩
theorem H_154 {X : hX} {s : sg} : gS (hp X s) 154 = (1, 8) ∧ (∀ {z : Int}, 0 ≤ z ∧ z < 2147483648 → gM (hp X s) 154 (ix (iI z)) = iI (s 154 z)) ∧ (∀ {z v : Int}, 0 ≤ z ∧ z < 2147483648 → pM (hp X s) 154 (ix (iI z)) (iI v) = hp X (u s 154 (up (s 154) z v))) ∧ (∀ {z : Int}, 0 ≤ z ∧ z < 8 → iaOK (hp X s) 154 (iI z) = True) ∧ (∀ {z : Int}, 0 ≤ z ∧ z < 8 → isOK (hp X s) 154 (iI z) = True) ∧ lnOK (hp X s) 154 = True := ⟨rfl, gA_hp ⟨rfl, (by decide)⟩, pA_hp ⟨rfl, (by decide)⟩, ok_1 (h := hp X s) (k := 154) (n := 8) rfl (by decide)⟩
theorem H_155 {X : hX} {s : sg} : gS (hp X s) 155 = (2, 30) ∧ (∀ {z : Int}, 0 ≤ z ∧ z < 2147483648 → gM (hp X s) 155 (ix (iI z)) = iI (s 155 z)) ∧ (∀ {z v : Int}, 0 ≤ z ∧ z < 2147483648 → pM (hp X s) 155 (ix (iI z)) (iI v) = hp X (u s 155 (up (s 155) z v))) ∧ (∀ {z : Int}, 0 ≤ z ∧ z < 30 → baOK (hp X s) 155 (iI z) = True) ∧ (∀ {z : Int} {p : Prop}, 0 ≤ z ∧ z < 30 → zsOK (hp X s) 155 (iI z) (iI (bZ p)) = True) ∧ (∀ {z : Int}, 0 ≤ z ∧ z < 30 → zsOK (hp X s) 155 (iI z) (iI 0) = True) ∧ (∀ {z : Int}, 0 ≤ z ∧ z < 30 → zsOK (hp X s) 155 (iI z) (iI 1) = True) ∧ lnOK (hp X s) 155 = True := ⟨rfl, gA_hp ⟨rfl, (by decide)⟩, pA_hp ⟨rfl, (by decide)⟩, ok_2 (h := hp X s) (k := 155) (n := 30) rfl (by decide)⟩
