/-! THE RUN'S HEAP: 151 cells that the two constructors make; printed by program (wip/whole/gencells.py, names: cells.py) -/
def sS (x : Nat) : Nat → Nat × Nat := fun k => match k with
  | 0 => (7, x)
  | 1 => (8, 0)
  | 2 => (9, 71)
  | 3 => (8, 1)
  | 4 => (9, 11)
  | 5 => (0, 10)
  | 6 => (0, 7)
  | 7 => (1, 300)
  | 8 => (1, 301)
  | 9 => (1, 301)
  | 10 => (1, 301)
  | 11 => (0, 1)
  | 12 => (1, 300)
  | 13 => (1, 10)
  | 14 => (1, 10)
  | 15 => (1, 10)
  | 16 => (0, 3)
  | 17 => (5, 6)
  | 18 => (0, 1)
  | 19 => (1, 300)
  | 20 => (1, 10)
  | 21 => (1, 10)
  | 22 => (1, 10)
  | 23 => (0, 1)
  | 24 => (1, 300)
  | 25 => (1, 10)
  | 26 => (1, 10)
  | 27 => (1, 10)
  | 28 => (0, 1)
  | 29 => (1, 300)
  | 30 => (1, 10)
  | 31 => (1, 10)
  | 32 => (1, 10)
  | 33 => (0, 1)
  | 34 => (1, 300)
  | 35 => (1, 10)
  | 36 => (1, 10)
  | 37 => (1, 10)
  | 38 => (0, 1)
  | 39 => (1, 300)
  | 40 => (1, 10)
  | 41 => (1, 10)
  | 42 => (1, 10)
  | 43 => (0, 1)
  | 44 => (1, 300)
  | 45 => (1, 10)
  | 46 => (1, 10)
  | 47 => (1, 10)
  | 48 => (0, 5)
  | 49 => (0, 6)
  | 50 => (1, 40)
  | 51 => (0, 6)
  | 52 => (1, 24)
  | 53 => (0, 6)
  | 54 => (1, 40)
  | 55 => (0, 6)
  | 56 => (1, 264)
  | 57 => (0, 6)
  | 58 => (1, 120)
  | 59 => (1, 4)
  | 60 => (0, 9)
  | 61 => (1, 22)
  | 62 => (1, 6)
  | 63 => (1, 6)
  | 64 => (1, 10)
  | 65 => (1, 10)
  | 66 => (0, 5)
  | 67 => (0, 6)
  | 68 => (1, 40)
  | 69 => (0, 6)
  | 70 => (1, 24)
  | 71 => (0, 6)
  | 72 => (1, 40)
  | 73 => (0, 6)
  | 74 => (1, 264)
  | 75 => (0, 6)
  | 76 => (1, 120)
  | 77 => (1, 4)
  | 78 => (0, 9)
  | 79 => (1, 22)
  | 80 => (1, 6)
  | 81 => (1, 6)
  | 82 => (1, 10)
  | 83 => (1, 10)
  | 84 => (0, 4)
  | 85 => (1, 6)
  | 86 => (1, 300)
  | 87 => (0, 2)
  | 88 => (1, 22)
  | 89 => (1, 22)
  | 90 => (1, 22)
  | 91 => (1, 22)
  | 92 => (2, 22)
  | 93 => (1, 22)
  | 94 => (6, 10)
  | 95 => (1, 22)
  | 96 => (1, 22)
  | 97 => (1, 22)
  | 98 => (1, 22)
  | 99 => (1, 22)
  | 100 => (1, 22)
  | 101 => (1, 22)
  | 102 => (1, 22)
  | 103 => (1, 22)
  | 104 => (1, 22)
  | 105 => (0, 8)
  | 106 => (0, 9)
  | 107 => (1, 22)
  | 108 => (1, 6)
  | 109 => (1, 6)
  | 110 => (1, 10)
  | 111 => (1, 10)
  | 112 => (0, 9)
  | 113 => (1, 22)
  | 114 => (1, 6)
  | 115 => (1, 6)
  | 116 => (1, 10)
  | 117 => (1, 10)
  | 118 => (1, 10)
  | 119 => (0, 0)
  | 120 => (1, 8)
  | 121 => (2, 30)
  | 122 => (0, 11)
  | 123 => (1, 570)
  | 124 => (1, 570)
  | 125 => (3, 300)
  | 126 => (1, 6)
  | 127 => (1, 60)
  | 128 => (1, 60)
  | 129 => (1, 2400)
  | 130 => (1, 2400)
  | 131 => (1, 40)
  | 132 => (1, 41)
  | 133 => (1, 80)
  | 134 => (1, 80)
  | 135 => (1, 10)
  | 136 => (1, 10)
  | 137 => (1, 400)
  | 138 => (1, 400)
  | 139 => (1, 6)
  | 140 => (4, 200)
  | 141 => (1, 22)
  | 142 => (1, 22)
  | 143 => (1, 22)
  | 144 => (1, 22)
  | 145 => (2, 22)
  | 146 => (1, 220)
  | 147 => (1, 6)
  | 148 => (1, 6)
  | 149 => (1, 10)
  | 150 => (1, 10)
  | 151 => (1, 22)
  | 152 => (1, 22)
  | 153 => (1, 16)
  | 154 => (1, 8)
  | 155 => (2, 30)
  | _ => (99, 0)
def sR : Nat → Nat → Option Nat := fun k j => match k, j with
  | 5, 0 => some 6
  | 5, 1 => some 16
  | 5, 2 => some 17
  | 5, 3 => some 11
  | 5, 4 => some 48
  | 5, 5 => some 66
  | 5, 6 => some 84
  | 5, 7 => some 87
  | 5, 8 => some 105
  | 5, 9 => some 119
  | 6, 0 => some 7
  | 6, 1 => some 8
  | 6, 2 => some 9
  | 6, 3 => some 10
  | 11, 0 => some 12
  | 11, 1 => some 13
  | 11, 2 => some 14
  | 11, 3 => some 15
  | 16, 3 => some 6
  | 17, 0 => some 18
  | 17, 1 => some 23
  | 17, 2 => some 28
  | 17, 3 => some 33
  | 17, 4 => some 38
  | 17, 5 => some 43
  | 18, 0 => some 19
  | 18, 1 => some 20
  | 18, 2 => some 21
  | 18, 3 => some 22
  | 23, 0 => some 24
  | 23, 1 => some 25
  | 23, 2 => some 26
  | 23, 3 => some 27
  | 28, 0 => some 29
  | 28, 1 => some 30
  | 28, 2 => some 31
  | 28, 3 => some 32
  | 33, 0 => some 34
  | 33, 1 => some 35
  | 33, 2 => some 36
  | 33, 3 => some 37
  | 38, 0 => some 39
  | 38, 1 => some 40
  | 38, 2 => some 41
  | 38, 3 => some 42
  | 43, 0 => some 44
  | 43, 1 => some 45
  | 43, 2 => some 46
  | 43, 3 => some 47
  | 48, 0 => some 49
  | 48, 1 => some 51
  | 48, 2 => some 53
  | 48, 3 => some 55
  | 48, 4 => some 57
  | 48, 5 => some 59
  | 48, 6 => some 60
  | 49, 3 => some 50
  | 51, 3 => some 52
  | 53, 3 => some 54
  | 55, 3 => some 56
  | 57, 3 => some 58
  | 60, 0 => some 61
  | 60, 1 => some 62
  | 60, 2 => some 63
  | 60, 3 => some 64
  | 60, 4 => some 65
  | 66, 0 => some 67
  | 66, 1 => some 69
  | 66, 2 => some 71
  | 66, 3 => some 73
  | 66, 4 => some 75
  | 66, 5 => some 77
  | 66, 6 => some 78
  | 67, 3 => some 68
  | 69, 3 => some 70
  | 71, 3 => some 72
  | 73, 3 => some 74
  | 75, 3 => some 76
  | 78, 0 => some 79
  | 78, 1 => some 80
  | 78, 2 => some 81
  | 78, 3 => some 82
  | 78, 4 => some 83
  | 84, 0 => some 48
  | 84, 1 => some 85
  | 84, 2 => some 86
  | 87, 0 => some 88
  | 87, 1 => some 89
  | 87, 2 => some 90
  | 87, 3 => some 91
  | 87, 4 => some 92
  | 87, 5 => some 93
  | 87, 6 => some 94
  | 87, 7 => some 48
  | 87, 8 => some 84
  | 94, 0 => some 95
  | 94, 1 => some 96
  | 94, 2 => some 97
  | 94, 3 => some 98
  | 94, 4 => some 99
  | 94, 5 => some 100
  | 94, 6 => some 101
  | 94, 7 => some 102
  | 94, 8 => some 103
  | 94, 9 => some 104
  | 105, 0 => some 106
  | 105, 1 => some 112
  | 105, 3 => some 48
  | 105, 4 => some 84
  | 105, 5 => some 87
  | 105, 6 => some 118
  | 106, 0 => some 107
  | 106, 1 => some 108
  | 106, 2 => some 109
  | 106, 3 => some 110
  | 106, 4 => some 111
  | 112, 0 => some 113
  | 112, 1 => some 114
  | 112, 2 => some 115
  | 112, 3 => some 116
  | 112, 4 => some 117
  | 119, 0 => some 120
  | 119, 1 => some 57
  | 119, 2 => some 121
  | 122, 0 => some 123
  | 122, 1 => some 124
  | 122, 2 => some 125
  | 122, 6 => some 126
  | 122, 7 => some 127
  | 122, 8 => some 128
  | 122, 9 => some 129
  | 122, 10 => some 130
  | 122, 20 => some 131
  | 122, 21 => some 132
  | 122, 23 => some 133
  | 122, 24 => some 134
  | 122, 28 => some 135
  | 122, 29 => some 136
  | 122, 31 => some 137
  | 122, 32 => some 138
  | 122, 33 => some 139
  | 122, 34 => some 140
  | 122, 35 => some 141
  | 122, 36 => some 142
  | 122, 37 => some 143
  | 122, 38 => some 144
  | 122, 39 => some 145
  | 122, 40 => some 146
  | 122, 41 => some 147
  | 122, 42 => some 148
  | 122, 43 => some 149
  | 122, 44 => some 150
  | 122, 45 => some 151
  | 122, 46 => some 152
  | 122, 48 => some 153
  | 122, 49 => some 154
  | 122, 50 => some 155
  | _, _ => none
def tbk (k : Nat) : Bool := [49, 51, 53, 55, 57, 67, 69, 71, 73, 75].contains k
def tbv : Nat → Nat → Int := fun k j => match k, j with
  | 49, 0 => 10
  | 49, 1 => 10
  | 49, 2 => 4
  | 51, 0 => 6
  | 51, 1 => 6
  | 51, 2 => 4
  | 53, 0 => 10
  | 53, 1 => 10
  | 53, 2 => 4
  | 55, 0 => 20
  | 55, 1 => 22
  | 55, 2 => 12
  | 57, 0 => 30
  | 57, 1 => 30
  | 57, 2 => 4
  | 67, 0 => 10
  | 67, 1 => 10
  | 67, 2 => 4
  | 69, 0 => 6
  | 69, 1 => 6
  | 69, 2 => 4
  | 71, 0 => 10
  | 71, 1 => 10
  | 71, 2 => 4
  | 73, 0 => 20
  | 73, 1 => 22
  | 73, 2 => 12
  | 75, 0 => 30
  | 75, 1 => 30
  | 75, 2 => 4
  | _, _ => 0
def isT (k j : Nat) : Bool := tbk k && Nat.blt j 3
def hp (x : Nat) (m : sM) : aH := (sS x, (fun k j => if isT k j = true then iI (tbv k j) else m.1 k j), m.2.1, sR, m.2.2, 156, 13756)
theorem gM_hp {k : Nat} (x : Nat) (m : sM) (h : tbk k = false) : gM (hp x m) k = mM m k := by
  funext j
  show (if isT k j = true then _ else _) = _
  unfold isT
  rw [h]
  rfl
theorem pM_hp {k : Nat} (x : Nat) (m : sM) (h : tbk k = false) (j : Nat) (v : Int32) : pM (hp x m) k j v = hp x (uM m k j v) := by
  have e : (fun a b => if a = k ∧ b = j then v else if isT a b = true then iI (tbv a b) else m.1 a b) = (fun a b => if isT a b = true then iI (tbv a b) else if a = k ∧ b = j then v else m.1 a b) := by
    funext a b
    by_cases c : a = k ∧ b = j
    · obtain ⟨c1, c2⟩ := c
      subst c1
      subst c2
      have z : isT a b = false := by unfold isT; rw [h]; rfl
      simp [z]
    · simp [c]
  show (sS x, (fun a b => if a = k ∧ b = j then v else if isT a b = true then iI (tbv a b) else m.1 a b), _) = (sS x, (fun a b => if isT a b = true then iI (tbv a b) else if a = k ∧ b = j then v else m.1 a b), _)
  rw [e]
  rfl
theorem pF_hp {k : Nat} {j : Nat} (x : Nat) (m : sM) (h : isT k j = false) (v : Int32) : pM (hp x m) k j v = hp x (uF m k j v) := by
  have e : (fun a b => if a = k ∧ b = j then v else if isT a b = true then iI (tbv a b) else m.1 a b) = (fun a b => if isT a b = true then iI (tbv a b) else if a = k ∧ b = j then v else m.1 a b) := by
    funext a b
    by_cases c : a = k ∧ b = j
    · obtain ⟨c1, c2⟩ := c
      subst c1
      subst c2
      simp [h]
    · simp [c]
  show (sS x, (fun a b => if a = k ∧ b = j then v else if isT a b = true then iI (tbv a b) else m.1 a b), _) = (sS x, (fun a b => if isT a b = true then iI (tbv a b) else if a = k ∧ b = j then v else m.1 a b), _)
  rw [e]
  rfl
theorem gL_hp (x : Nat) (m : sM) : gL (hp x m) = mL m := rfl
theorem gQ_hp (x : Nat) (m : sM) : gQ (hp x m) = mQ m := rfl
theorem gN_hp (x : Nat) (m : sM) : gN (hp x m) = 156 := rfl
theorem gZ_hp (x : Nat) (m : sM) : gZ (hp x m) = 13756 := rfl
theorem pL_hp (x : Nat) (m : sM) (k j : Nat) (v : Int64) : pL (hp x m) k j v = hp x (uL m k j v) := rfl
theorem pQ_hp (x : Nat) (m : sM) (k : Nat) (r : Option Nat) : pQ (hp x m) k r = hp x (uQ m k r) := rfl
theorem H_tape (x : Nat) (m : sM) : gS (hp x m) 6 = (0, 7) ∧ gR (hp x m) 6 0 = some 7 ∧ gR (hp x m) 6 1 = some 8 ∧ gR (hp x m) 6 2 = some 9 ∧ gR (hp x m) 6 3 = some 10 ∧ gM (hp x m) 6 = mM m 6 ∧ (∀ j v, pM (hp x m) 6 j v = hp x (uF m 6 j v)) ∧ gS (hp x m) 7 = (1, 300) ∧ gM (hp x m) 7 = mM m 7 ∧ (∀ j v, pM (hp x m) 7 j v = hp x (uM m 7 j v)) ∧ gS (hp x m) 8 = (1, 301) ∧ gM (hp x m) 8 = mM m 8 ∧ (∀ j v, pM (hp x m) 8 j v = hp x (uM m 8 j v)) ∧ gS (hp x m) 9 = (1, 301) ∧ gM (hp x m) 9 = mM m 9 ∧ (∀ j v, pM (hp x m) 9 j v = hp x (uM m 9 j v)) ∧ gS (hp x m) 10 = (1, 301) ∧ gM (hp x m) 10 = mM m 10 ∧ (∀ j v, pM (hp x m) 10 j v = hp x (uM m 10 j v)) ∧ gS (hp x m) 16 = (0, 3) ∧ gR (hp x m) 16 3 = some 6 ∧ gM (hp x m) 16 = mM m 16 ∧ (∀ j v, pM (hp x m) 16 j v = hp x (uF m 16 j v)) := ⟨rfl, rfl, rfl, rfl, rfl, gM_hp x m rfl, pM_hp x m rfl, rfl, gM_hp x m rfl, pM_hp x m rfl, rfl, gM_hp x m rfl, pM_hp x m rfl, rfl, gM_hp x m rfl, pM_hp x m rfl, rfl, gM_hp x m rfl, pM_hp x m rfl, rfl, rfl, gM_hp x m rfl, pM_hp x m rfl⟩
theorem H_law (x : Nat) (m : sM) : gS (hp x m) 11 = (0, 1) ∧ gR (hp x m) 11 0 = some 12 ∧ gR (hp x m) 11 1 = some 13 ∧ gR (hp x m) 11 2 = some 14 ∧ gR (hp x m) 11 3 = some 15 ∧ gM (hp x m) 11 = mM m 11 ∧ (∀ j v, pM (hp x m) 11 j v = hp x (uF m 11 j v)) ∧ gS (hp x m) 12 = (1, 300) ∧ gM (hp x m) 12 = mM m 12 ∧ (∀ j v, pM (hp x m) 12 j v = hp x (uM m 12 j v)) ∧ gS (hp x m) 13 = (1, 10) ∧ gM (hp x m) 13 = mM m 13 ∧ (∀ j v, pM (hp x m) 13 j v = hp x (uM m 13 j v)) ∧ gS (hp x m) 14 = (1, 10) ∧ gM (hp x m) 14 = mM m 14 ∧ (∀ j v, pM (hp x m) 14 j v = hp x (uM m 14 j v)) ∧ gS (hp x m) 15 = (1, 10) ∧ gM (hp x m) 15 = mM m 15 ∧ (∀ j v, pM (hp x m) 15 j v = hp x (uM m 15 j v)) ∧ gS (hp x m) 17 = (5, 6) ∧ gR (hp x m) 17 0 = some 18 ∧ gR (hp x m) 17 1 = some 23 ∧ gR (hp x m) 17 2 = some 28 ∧ gR (hp x m) 17 3 = some 33 ∧ gR (hp x m) 17 4 = some 38 ∧ gR (hp x m) 17 5 = some 43 ∧ gS (hp x m) 18 = (0, 1) ∧ gR (hp x m) 18 0 = some 19 ∧ gR (hp x m) 18 1 = some 20 ∧ gR (hp x m) 18 2 = some 21 ∧ gR (hp x m) 18 3 = some 22 ∧ gM (hp x m) 18 = mM m 18 ∧ (∀ j v, pM (hp x m) 18 j v = hp x (uF m 18 j v)) ∧ gS (hp x m) 19 = (1, 300) ∧ gM (hp x m) 19 = mM m 19 ∧ (∀ j v, pM (hp x m) 19 j v = hp x (uM m 19 j v)) ∧ gS (hp x m) 20 = (1, 10) ∧ gM (hp x m) 20 = mM m 20 ∧ (∀ j v, pM (hp x m) 20 j v = hp x (uM m 20 j v)) ∧ gS (hp x m) 21 = (1, 10) ∧ gM (hp x m) 21 = mM m 21 ∧ (∀ j v, pM (hp x m) 21 j v = hp x (uM m 21 j v)) ∧ gS (hp x m) 22 = (1, 10) ∧ gM (hp x m) 22 = mM m 22 ∧ (∀ j v, pM (hp x m) 22 j v = hp x (uM m 22 j v)) ∧ gS (hp x m) 23 = (0, 1) ∧ gR (hp x m) 23 0 = some 24 ∧ gR (hp x m) 23 1 = some 25 ∧ gR (hp x m) 23 2 = some 26 ∧ gR (hp x m) 23 3 = some 27 ∧ gM (hp x m) 23 = mM m 23 ∧ (∀ j v, pM (hp x m) 23 j v = hp x (uF m 23 j v)) ∧ gS (hp x m) 24 = (1, 300) ∧ gM (hp x m) 24 = mM m 24 ∧ (∀ j v, pM (hp x m) 24 j v = hp x (uM m 24 j v)) ∧ gS (hp x m) 25 = (1, 10) ∧ gM (hp x m) 25 = mM m 25 ∧ (∀ j v, pM (hp x m) 25 j v = hp x (uM m 25 j v)) ∧ gS (hp x m) 26 = (1, 10) ∧ gM (hp x m) 26 = mM m 26 ∧ (∀ j v, pM (hp x m) 26 j v = hp x (uM m 26 j v)) ∧ gS (hp x m) 27 = (1, 10) ∧ gM (hp x m) 27 = mM m 27 ∧ (∀ j v, pM (hp x m) 27 j v = hp x (uM m 27 j v)) ∧ gS (hp x m) 28 = (0, 1) ∧ gR (hp x m) 28 0 = some 29 ∧ gR (hp x m) 28 1 = some 30 ∧ gR (hp x m) 28 2 = some 31 ∧ gR (hp x m) 28 3 = some 32 ∧ gM (hp x m) 28 = mM m 28 ∧ (∀ j v, pM (hp x m) 28 j v = hp x (uF m 28 j v)) ∧ gS (hp x m) 29 = (1, 300) ∧ gM (hp x m) 29 = mM m 29 ∧ (∀ j v, pM (hp x m) 29 j v = hp x (uM m 29 j v)) ∧ gS (hp x m) 30 = (1, 10) ∧ gM (hp x m) 30 = mM m 30 ∧ (∀ j v, pM (hp x m) 30 j v = hp x (uM m 30 j v)) ∧ gS (hp x m) 31 = (1, 10) ∧ gM (hp x m) 31 = mM m 31 ∧ (∀ j v, pM (hp x m) 31 j v = hp x (uM m 31 j v)) ∧ gS (hp x m) 32 = (1, 10) ∧ gM (hp x m) 32 = mM m 32 ∧ (∀ j v, pM (hp x m) 32 j v = hp x (uM m 32 j v)) ∧ gS (hp x m) 33 = (0, 1) ∧ gR (hp x m) 33 0 = some 34 ∧ gR (hp x m) 33 1 = some 35 ∧ gR (hp x m) 33 2 = some 36 ∧ gR (hp x m) 33 3 = some 37 ∧ gM (hp x m) 33 = mM m 33 ∧ (∀ j v, pM (hp x m) 33 j v = hp x (uF m 33 j v)) ∧ gS (hp x m) 34 = (1, 300) ∧ gM (hp x m) 34 = mM m 34 ∧ (∀ j v, pM (hp x m) 34 j v = hp x (uM m 34 j v)) ∧ gS (hp x m) 35 = (1, 10) ∧ gM (hp x m) 35 = mM m 35 ∧ (∀ j v, pM (hp x m) 35 j v = hp x (uM m 35 j v)) ∧ gS (hp x m) 36 = (1, 10) ∧ gM (hp x m) 36 = mM m 36 ∧ (∀ j v, pM (hp x m) 36 j v = hp x (uM m 36 j v)) ∧ gS (hp x m) 37 = (1, 10) ∧ gM (hp x m) 37 = mM m 37 ∧ (∀ j v, pM (hp x m) 37 j v = hp x (uM m 37 j v)) ∧ gS (hp x m) 38 = (0, 1) ∧ gR (hp x m) 38 0 = some 39 ∧ gR (hp x m) 38 1 = some 40 ∧ gR (hp x m) 38 2 = some 41 ∧ gR (hp x m) 38 3 = some 42 ∧ gM (hp x m) 38 = mM m 38 ∧ (∀ j v, pM (hp x m) 38 j v = hp x (uF m 38 j v)) ∧ gS (hp x m) 39 = (1, 300) ∧ gM (hp x m) 39 = mM m 39 ∧ (∀ j v, pM (hp x m) 39 j v = hp x (uM m 39 j v)) ∧ gS (hp x m) 40 = (1, 10) ∧ gM (hp x m) 40 = mM m 40 ∧ (∀ j v, pM (hp x m) 40 j v = hp x (uM m 40 j v)) ∧ gS (hp x m) 41 = (1, 10) ∧ gM (hp x m) 41 = mM m 41 ∧ (∀ j v, pM (hp x m) 41 j v = hp x (uM m 41 j v)) ∧ gS (hp x m) 42 = (1, 10) ∧ gM (hp x m) 42 = mM m 42 ∧ (∀ j v, pM (hp x m) 42 j v = hp x (uM m 42 j v)) ∧ gS (hp x m) 43 = (0, 1) ∧ gR (hp x m) 43 0 = some 44 ∧ gR (hp x m) 43 1 = some 45 ∧ gR (hp x m) 43 2 = some 46 ∧ gR (hp x m) 43 3 = some 47 ∧ gM (hp x m) 43 = mM m 43 ∧ (∀ j v, pM (hp x m) 43 j v = hp x (uF m 43 j v)) ∧ gS (hp x m) 44 = (1, 300) ∧ gM (hp x m) 44 = mM m 44 ∧ (∀ j v, pM (hp x m) 44 j v = hp x (uM m 44 j v)) ∧ gS (hp x m) 45 = (1, 10) ∧ gM (hp x m) 45 = mM m 45 ∧ (∀ j v, pM (hp x m) 45 j v = hp x (uM m 45 j v)) ∧ gS (hp x m) 46 = (1, 10) ∧ gM (hp x m) 46 = mM m 46 ∧ (∀ j v, pM (hp x m) 46 j v = hp x (uM m 46 j v)) ∧ gS (hp x m) 47 = (1, 10) ∧ gM (hp x m) 47 = mM m 47 ∧ (∀ j v, pM (hp x m) 47 j v = hp x (uM m 47 j v)) := ⟨rfl, rfl, rfl, rfl, rfl, gM_hp x m rfl, pM_hp x m rfl, rfl, gM_hp x m rfl, pM_hp x m rfl, rfl, gM_hp x m rfl, pM_hp x m rfl, rfl, gM_hp x m rfl, pM_hp x m rfl, rfl, gM_hp x m rfl, pM_hp x m rfl, rfl, rfl, rfl, rfl, rfl, rfl, rfl, rfl, rfl, rfl, rfl, rfl, gM_hp x m rfl, pM_hp x m rfl, rfl, gM_hp x m rfl, pM_hp x m rfl, rfl, gM_hp x m rfl, pM_hp x m rfl, rfl, gM_hp x m rfl, pM_hp x m rfl, rfl, gM_hp x m rfl, pM_hp x m rfl, rfl, rfl, rfl, rfl, rfl, gM_hp x m rfl, pM_hp x m rfl, rfl, gM_hp x m rfl, pM_hp x m rfl, rfl, gM_hp x m rfl, pM_hp x m rfl, rfl, gM_hp x m rfl, pM_hp x m rfl, rfl, gM_hp x m rfl, pM_hp x m rfl, rfl, rfl, rfl, rfl, rfl, gM_hp x m rfl, pM_hp x m rfl, rfl, gM_hp x m rfl, pM_hp x m rfl, rfl, gM_hp x m rfl, pM_hp x m rfl, rfl, gM_hp x m rfl, pM_hp x m rfl, rfl, gM_hp x m rfl, pM_hp x m rfl, rfl, rfl, rfl, rfl, rfl, gM_hp x m rfl, pM_hp x m rfl, rfl, gM_hp x m rfl, pM_hp x m rfl, rfl, gM_hp x m rfl, pM_hp x m rfl, rfl, gM_hp x m rfl, pM_hp x m rfl, rfl, gM_hp x m rfl, pM_hp x m rfl, rfl, rfl, rfl, rfl, rfl, gM_hp x m rfl, pM_hp x m rfl, rfl, gM_hp x m rfl, pM_hp x m rfl, rfl, gM_hp x m rfl, pM_hp x m rfl, rfl, gM_hp x m rfl, pM_hp x m rfl, rfl, gM_hp x m rfl, pM_hp x m rfl, rfl, rfl, rfl, rfl, rfl, gM_hp x m rfl, pM_hp x m rfl, rfl, gM_hp x m rfl, pM_hp x m rfl, rfl, gM_hp x m rfl, pM_hp x m rfl, rfl, gM_hp x m rfl, pM_hp x m rfl, rfl, gM_hp x m rfl, pM_hp x m rfl⟩
theorem H_stock (x : Nat) (m : sM) : gS (hp x m) 48 = (0, 5) ∧ gR (hp x m) 48 0 = some 49 ∧ gR (hp x m) 48 1 = some 51 ∧ gR (hp x m) 48 2 = some 53 ∧ gR (hp x m) 48 3 = some 55 ∧ gR (hp x m) 48 4 = some 57 ∧ gR (hp x m) 48 5 = some 59 ∧ gR (hp x m) 48 6 = some 60 ∧ gM (hp x m) 48 = mM m 48 ∧ (∀ j v, pM (hp x m) 48 j v = hp x (uF m 48 j v)) ∧ gS (hp x m) 49 = (0, 6) ∧ gR (hp x m) 49 3 = some 50 ∧ gM (hp x m) 49 0 = iI 10 ∧ gM (hp x m) 49 1 = iI 10 ∧ gM (hp x m) 49 2 = iI 4 ∧ gM (hp x m) 49 4 = mM m 49 4 ∧ (∀ v, pM (hp x m) 49 4 v = hp x (uF m 49 4 v)) ∧ gS (hp x m) 50 = (1, 40) ∧ gM (hp x m) 50 = mM m 50 ∧ (∀ j v, pM (hp x m) 50 j v = hp x (uM m 50 j v)) ∧ gS (hp x m) 51 = (0, 6) ∧ gR (hp x m) 51 3 = some 52 ∧ gM (hp x m) 51 0 = iI 6 ∧ gM (hp x m) 51 1 = iI 6 ∧ gM (hp x m) 51 2 = iI 4 ∧ gM (hp x m) 51 4 = mM m 51 4 ∧ (∀ v, pM (hp x m) 51 4 v = hp x (uF m 51 4 v)) ∧ gS (hp x m) 52 = (1, 24) ∧ gM (hp x m) 52 = mM m 52 ∧ (∀ j v, pM (hp x m) 52 j v = hp x (uM m 52 j v)) ∧ gS (hp x m) 53 = (0, 6) ∧ gR (hp x m) 53 3 = some 54 ∧ gM (hp x m) 53 0 = iI 10 ∧ gM (hp x m) 53 1 = iI 10 ∧ gM (hp x m) 53 2 = iI 4 ∧ gM (hp x m) 53 4 = mM m 53 4 ∧ (∀ v, pM (hp x m) 53 4 v = hp x (uF m 53 4 v)) ∧ gS (hp x m) 54 = (1, 40) ∧ gM (hp x m) 54 = mM m 54 ∧ (∀ j v, pM (hp x m) 54 j v = hp x (uM m 54 j v)) ∧ gS (hp x m) 55 = (0, 6) ∧ gR (hp x m) 55 3 = some 56 ∧ gM (hp x m) 55 0 = iI 20 ∧ gM (hp x m) 55 1 = iI 22 ∧ gM (hp x m) 55 2 = iI 12 ∧ gM (hp x m) 55 4 = mM m 55 4 ∧ (∀ v, pM (hp x m) 55 4 v = hp x (uF m 55 4 v)) ∧ gS (hp x m) 56 = (1, 264) ∧ gM (hp x m) 56 = mM m 56 ∧ (∀ j v, pM (hp x m) 56 j v = hp x (uM m 56 j v)) ∧ gS (hp x m) 57 = (0, 6) ∧ gR (hp x m) 57 3 = some 58 ∧ gM (hp x m) 57 0 = iI 30 ∧ gM (hp x m) 57 1 = iI 30 ∧ gM (hp x m) 57 2 = iI 4 ∧ gM (hp x m) 57 4 = mM m 57 4 ∧ (∀ v, pM (hp x m) 57 4 v = hp x (uF m 57 4 v)) ∧ gS (hp x m) 58 = (1, 120) ∧ gM (hp x m) 58 = mM m 58 ∧ (∀ j v, pM (hp x m) 58 j v = hp x (uM m 58 j v)) ∧ gS (hp x m) 59 = (1, 4) ∧ gM (hp x m) 59 = mM m 59 ∧ (∀ j v, pM (hp x m) 59 j v = hp x (uM m 59 j v)) ∧ gS (hp x m) 60 = (0, 9) ∧ gR (hp x m) 60 0 = some 61 ∧ gR (hp x m) 60 1 = some 62 ∧ gR (hp x m) 60 2 = some 63 ∧ gR (hp x m) 60 3 = some 64 ∧ gR (hp x m) 60 4 = some 65 ∧ gM (hp x m) 60 = mM m 60 ∧ (∀ j v, pM (hp x m) 60 j v = hp x (uF m 60 j v)) ∧ gS (hp x m) 61 = (1, 22) ∧ gM (hp x m) 61 = mM m 61 ∧ (∀ j v, pM (hp x m) 61 j v = hp x (uM m 61 j v)) ∧ gS (hp x m) 62 = (1, 6) ∧ gM (hp x m) 62 = mM m 62 ∧ (∀ j v, pM (hp x m) 62 j v = hp x (uM m 62 j v)) ∧ gS (hp x m) 63 = (1, 6) ∧ gM (hp x m) 63 = mM m 63 ∧ (∀ j v, pM (hp x m) 63 j v = hp x (uM m 63 j v)) ∧ gS (hp x m) 64 = (1, 10) ∧ gM (hp x m) 64 = mM m 64 ∧ (∀ j v, pM (hp x m) 64 j v = hp x (uM m 64 j v)) ∧ gS (hp x m) 65 = (1, 10) ∧ gM (hp x m) 65 = mM m 65 ∧ (∀ j v, pM (hp x m) 65 j v = hp x (uM m 65 j v)) := ⟨rfl, rfl, rfl, rfl, rfl, rfl, rfl, rfl, gM_hp x m rfl, pM_hp x m rfl, rfl, rfl, rfl, rfl, rfl, rfl, pF_hp x m rfl, rfl, gM_hp x m rfl, pM_hp x m rfl, rfl, rfl, rfl, rfl, rfl, rfl, pF_hp x m rfl, rfl, gM_hp x m rfl, pM_hp x m rfl, rfl, rfl, rfl, rfl, rfl, rfl, pF_hp x m rfl, rfl, gM_hp x m rfl, pM_hp x m rfl, rfl, rfl, rfl, rfl, rfl, rfl, pF_hp x m rfl, rfl, gM_hp x m rfl, pM_hp x m rfl, rfl, rfl, rfl, rfl, rfl, rfl, pF_hp x m rfl, rfl, gM_hp x m rfl, pM_hp x m rfl, rfl, gM_hp x m rfl, pM_hp x m rfl, rfl, rfl, rfl, rfl, rfl, rfl, gM_hp x m rfl, pM_hp x m rfl, rfl, gM_hp x m rfl, pM_hp x m rfl, rfl, gM_hp x m rfl, pM_hp x m rfl, rfl, gM_hp x m rfl, pM_hp x m rfl, rfl, gM_hp x m rfl, pM_hp x m rfl, rfl, gM_hp x m rfl, pM_hp x m rfl⟩
theorem H_kept (x : Nat) (m : sM) : gS (hp x m) 66 = (0, 5) ∧ gR (hp x m) 66 0 = some 67 ∧ gR (hp x m) 66 1 = some 69 ∧ gR (hp x m) 66 2 = some 71 ∧ gR (hp x m) 66 3 = some 73 ∧ gR (hp x m) 66 4 = some 75 ∧ gR (hp x m) 66 5 = some 77 ∧ gR (hp x m) 66 6 = some 78 ∧ gM (hp x m) 66 = mM m 66 ∧ (∀ j v, pM (hp x m) 66 j v = hp x (uF m 66 j v)) ∧ gS (hp x m) 67 = (0, 6) ∧ gR (hp x m) 67 3 = some 68 ∧ gM (hp x m) 67 0 = iI 10 ∧ gM (hp x m) 67 1 = iI 10 ∧ gM (hp x m) 67 2 = iI 4 ∧ gM (hp x m) 67 4 = mM m 67 4 ∧ (∀ v, pM (hp x m) 67 4 v = hp x (uF m 67 4 v)) ∧ gS (hp x m) 68 = (1, 40) ∧ gM (hp x m) 68 = mM m 68 ∧ (∀ j v, pM (hp x m) 68 j v = hp x (uM m 68 j v)) ∧ gS (hp x m) 69 = (0, 6) ∧ gR (hp x m) 69 3 = some 70 ∧ gM (hp x m) 69 0 = iI 6 ∧ gM (hp x m) 69 1 = iI 6 ∧ gM (hp x m) 69 2 = iI 4 ∧ gM (hp x m) 69 4 = mM m 69 4 ∧ (∀ v, pM (hp x m) 69 4 v = hp x (uF m 69 4 v)) ∧ gS (hp x m) 70 = (1, 24) ∧ gM (hp x m) 70 = mM m 70 ∧ (∀ j v, pM (hp x m) 70 j v = hp x (uM m 70 j v)) ∧ gS (hp x m) 71 = (0, 6) ∧ gR (hp x m) 71 3 = some 72 ∧ gM (hp x m) 71 0 = iI 10 ∧ gM (hp x m) 71 1 = iI 10 ∧ gM (hp x m) 71 2 = iI 4 ∧ gM (hp x m) 71 4 = mM m 71 4 ∧ (∀ v, pM (hp x m) 71 4 v = hp x (uF m 71 4 v)) ∧ gS (hp x m) 72 = (1, 40) ∧ gM (hp x m) 72 = mM m 72 ∧ (∀ j v, pM (hp x m) 72 j v = hp x (uM m 72 j v)) ∧ gS (hp x m) 73 = (0, 6) ∧ gR (hp x m) 73 3 = some 74 ∧ gM (hp x m) 73 0 = iI 20 ∧ gM (hp x m) 73 1 = iI 22 ∧ gM (hp x m) 73 2 = iI 12 ∧ gM (hp x m) 73 4 = mM m 73 4 ∧ (∀ v, pM (hp x m) 73 4 v = hp x (uF m 73 4 v)) ∧ gS (hp x m) 74 = (1, 264) ∧ gM (hp x m) 74 = mM m 74 ∧ (∀ j v, pM (hp x m) 74 j v = hp x (uM m 74 j v)) ∧ gS (hp x m) 75 = (0, 6) ∧ gR (hp x m) 75 3 = some 76 ∧ gM (hp x m) 75 0 = iI 30 ∧ gM (hp x m) 75 1 = iI 30 ∧ gM (hp x m) 75 2 = iI 4 ∧ gM (hp x m) 75 4 = mM m 75 4 ∧ (∀ v, pM (hp x m) 75 4 v = hp x (uF m 75 4 v)) ∧ gS (hp x m) 76 = (1, 120) ∧ gM (hp x m) 76 = mM m 76 ∧ (∀ j v, pM (hp x m) 76 j v = hp x (uM m 76 j v)) ∧ gS (hp x m) 77 = (1, 4) ∧ gM (hp x m) 77 = mM m 77 ∧ (∀ j v, pM (hp x m) 77 j v = hp x (uM m 77 j v)) ∧ gS (hp x m) 78 = (0, 9) ∧ gR (hp x m) 78 0 = some 79 ∧ gR (hp x m) 78 1 = some 80 ∧ gR (hp x m) 78 2 = some 81 ∧ gR (hp x m) 78 3 = some 82 ∧ gR (hp x m) 78 4 = some 83 ∧ gM (hp x m) 78 = mM m 78 ∧ (∀ j v, pM (hp x m) 78 j v = hp x (uF m 78 j v)) ∧ gS (hp x m) 79 = (1, 22) ∧ gM (hp x m) 79 = mM m 79 ∧ (∀ j v, pM (hp x m) 79 j v = hp x (uM m 79 j v)) ∧ gS (hp x m) 80 = (1, 6) ∧ gM (hp x m) 80 = mM m 80 ∧ (∀ j v, pM (hp x m) 80 j v = hp x (uM m 80 j v)) ∧ gS (hp x m) 81 = (1, 6) ∧ gM (hp x m) 81 = mM m 81 ∧ (∀ j v, pM (hp x m) 81 j v = hp x (uM m 81 j v)) ∧ gS (hp x m) 82 = (1, 10) ∧ gM (hp x m) 82 = mM m 82 ∧ (∀ j v, pM (hp x m) 82 j v = hp x (uM m 82 j v)) ∧ gS (hp x m) 83 = (1, 10) ∧ gM (hp x m) 83 = mM m 83 ∧ (∀ j v, pM (hp x m) 83 j v = hp x (uM m 83 j v)) := ⟨rfl, rfl, rfl, rfl, rfl, rfl, rfl, rfl, gM_hp x m rfl, pM_hp x m rfl, rfl, rfl, rfl, rfl, rfl, rfl, pF_hp x m rfl, rfl, gM_hp x m rfl, pM_hp x m rfl, rfl, rfl, rfl, rfl, rfl, rfl, pF_hp x m rfl, rfl, gM_hp x m rfl, pM_hp x m rfl, rfl, rfl, rfl, rfl, rfl, rfl, pF_hp x m rfl, rfl, gM_hp x m rfl, pM_hp x m rfl, rfl, rfl, rfl, rfl, rfl, rfl, pF_hp x m rfl, rfl, gM_hp x m rfl, pM_hp x m rfl, rfl, rfl, rfl, rfl, rfl, rfl, pF_hp x m rfl, rfl, gM_hp x m rfl, pM_hp x m rfl, rfl, gM_hp x m rfl, pM_hp x m rfl, rfl, rfl, rfl, rfl, rfl, rfl, gM_hp x m rfl, pM_hp x m rfl, rfl, gM_hp x m rfl, pM_hp x m rfl, rfl, gM_hp x m rfl, pM_hp x m rfl, rfl, gM_hp x m rfl, pM_hp x m rfl, rfl, gM_hp x m rfl, pM_hp x m rfl, rfl, gM_hp x m rfl, pM_hp x m rfl⟩
theorem H_scales (x : Nat) (m : sM) : gS (hp x m) 84 = (0, 4) ∧ gR (hp x m) 84 0 = some 48 ∧ gR (hp x m) 84 1 = some 85 ∧ gR (hp x m) 84 2 = some 86 ∧ gM (hp x m) 84 = mM m 84 ∧ (∀ j v, pM (hp x m) 84 j v = hp x (uF m 84 j v)) ∧ gS (hp x m) 85 = (1, 6) ∧ gM (hp x m) 85 = mM m 85 ∧ (∀ j v, pM (hp x m) 85 j v = hp x (uM m 85 j v)) ∧ gS (hp x m) 86 = (1, 300) ∧ gM (hp x m) 86 = mM m 86 ∧ (∀ j v, pM (hp x m) 86 j v = hp x (uM m 86 j v)) := ⟨rfl, rfl, rfl, rfl, gM_hp x m rfl, pM_hp x m rfl, rfl, gM_hp x m rfl, pM_hp x m rfl, rfl, gM_hp x m rfl, pM_hp x m rfl⟩
theorem H_market (x : Nat) (m : sM) : gS (hp x m) 87 = (0, 2) ∧ gR (hp x m) 87 0 = some 88 ∧ gR (hp x m) 87 1 = some 89 ∧ gR (hp x m) 87 2 = some 90 ∧ gR (hp x m) 87 3 = some 91 ∧ gR (hp x m) 87 4 = some 92 ∧ gR (hp x m) 87 5 = some 93 ∧ gR (hp x m) 87 6 = some 94 ∧ gR (hp x m) 87 7 = some 48 ∧ gR (hp x m) 87 8 = some 84 ∧ gM (hp x m) 87 = mM m 87 ∧ (∀ j v, pM (hp x m) 87 j v = hp x (uF m 87 j v)) ∧ gS (hp x m) 88 = (1, 22) ∧ gM (hp x m) 88 = mM m 88 ∧ (∀ j v, pM (hp x m) 88 j v = hp x (uM m 88 j v)) ∧ gS (hp x m) 89 = (1, 22) ∧ gM (hp x m) 89 = mM m 89 ∧ (∀ j v, pM (hp x m) 89 j v = hp x (uM m 89 j v)) ∧ gS (hp x m) 90 = (1, 22) ∧ gM (hp x m) 90 = mM m 90 ∧ (∀ j v, pM (hp x m) 90 j v = hp x (uM m 90 j v)) ∧ gS (hp x m) 91 = (1, 22) ∧ gM (hp x m) 91 = mM m 91 ∧ (∀ j v, pM (hp x m) 91 j v = hp x (uM m 91 j v)) ∧ gS (hp x m) 92 = (2, 22) ∧ gM (hp x m) 92 = mM m 92 ∧ (∀ j v, pM (hp x m) 92 j v = hp x (uM m 92 j v)) ∧ gS (hp x m) 93 = (1, 22) ∧ gM (hp x m) 93 = mM m 93 ∧ (∀ j v, pM (hp x m) 93 j v = hp x (uM m 93 j v)) ∧ gS (hp x m) 94 = (6, 10) ∧ gR (hp x m) 94 0 = some 95 ∧ gR (hp x m) 94 1 = some 96 ∧ gR (hp x m) 94 2 = some 97 ∧ gR (hp x m) 94 3 = some 98 ∧ gR (hp x m) 94 4 = some 99 ∧ gR (hp x m) 94 5 = some 100 ∧ gR (hp x m) 94 6 = some 101 ∧ gR (hp x m) 94 7 = some 102 ∧ gR (hp x m) 94 8 = some 103 ∧ gR (hp x m) 94 9 = some 104 ∧ gS (hp x m) 95 = (1, 22) ∧ gM (hp x m) 95 = mM m 95 ∧ (∀ j v, pM (hp x m) 95 j v = hp x (uM m 95 j v)) ∧ gS (hp x m) 96 = (1, 22) ∧ gM (hp x m) 96 = mM m 96 ∧ (∀ j v, pM (hp x m) 96 j v = hp x (uM m 96 j v)) ∧ gS (hp x m) 97 = (1, 22) ∧ gM (hp x m) 97 = mM m 97 ∧ (∀ j v, pM (hp x m) 97 j v = hp x (uM m 97 j v)) ∧ gS (hp x m) 98 = (1, 22) ∧ gM (hp x m) 98 = mM m 98 ∧ (∀ j v, pM (hp x m) 98 j v = hp x (uM m 98 j v)) ∧ gS (hp x m) 99 = (1, 22) ∧ gM (hp x m) 99 = mM m 99 ∧ (∀ j v, pM (hp x m) 99 j v = hp x (uM m 99 j v)) ∧ gS (hp x m) 100 = (1, 22) ∧ gM (hp x m) 100 = mM m 100 ∧ (∀ j v, pM (hp x m) 100 j v = hp x (uM m 100 j v)) ∧ gS (hp x m) 101 = (1, 22) ∧ gM (hp x m) 101 = mM m 101 ∧ (∀ j v, pM (hp x m) 101 j v = hp x (uM m 101 j v)) ∧ gS (hp x m) 102 = (1, 22) ∧ gM (hp x m) 102 = mM m 102 ∧ (∀ j v, pM (hp x m) 102 j v = hp x (uM m 102 j v)) ∧ gS (hp x m) 103 = (1, 22) ∧ gM (hp x m) 103 = mM m 103 ∧ (∀ j v, pM (hp x m) 103 j v = hp x (uM m 103 j v)) ∧ gS (hp x m) 104 = (1, 22) ∧ gM (hp x m) 104 = mM m 104 ∧ (∀ j v, pM (hp x m) 104 j v = hp x (uM m 104 j v)) := ⟨rfl, rfl, rfl, rfl, rfl, rfl, rfl, rfl, rfl, rfl, gM_hp x m rfl, pM_hp x m rfl, rfl, gM_hp x m rfl, pM_hp x m rfl, rfl, gM_hp x m rfl, pM_hp x m rfl, rfl, gM_hp x m rfl, pM_hp x m rfl, rfl, gM_hp x m rfl, pM_hp x m rfl, rfl, gM_hp x m rfl, pM_hp x m rfl, rfl, gM_hp x m rfl, pM_hp x m rfl, rfl, rfl, rfl, rfl, rfl, rfl, rfl, rfl, rfl, rfl, rfl, rfl, gM_hp x m rfl, pM_hp x m rfl, rfl, gM_hp x m rfl, pM_hp x m rfl, rfl, gM_hp x m rfl, pM_hp x m rfl, rfl, gM_hp x m rfl, pM_hp x m rfl, rfl, gM_hp x m rfl, pM_hp x m rfl, rfl, gM_hp x m rfl, pM_hp x m rfl, rfl, gM_hp x m rfl, pM_hp x m rfl, rfl, gM_hp x m rfl, pM_hp x m rfl, rfl, gM_hp x m rfl, pM_hp x m rfl, rfl, gM_hp x m rfl, pM_hp x m rfl⟩
theorem H_trials (x : Nat) (m : sM) : gS (hp x m) 105 = (0, 8) ∧ gR (hp x m) 105 0 = some 106 ∧ gR (hp x m) 105 1 = some 112 ∧ gR (hp x m) 105 3 = some 48 ∧ gR (hp x m) 105 4 = some 84 ∧ gR (hp x m) 105 5 = some 87 ∧ gR (hp x m) 105 6 = some 118 ∧ gM (hp x m) 105 = mM m 105 ∧ (∀ j v, pM (hp x m) 105 j v = hp x (uF m 105 j v)) ∧ gS (hp x m) 106 = (0, 9) ∧ gR (hp x m) 106 0 = some 107 ∧ gR (hp x m) 106 1 = some 108 ∧ gR (hp x m) 106 2 = some 109 ∧ gR (hp x m) 106 3 = some 110 ∧ gR (hp x m) 106 4 = some 111 ∧ gM (hp x m) 106 = mM m 106 ∧ (∀ j v, pM (hp x m) 106 j v = hp x (uF m 106 j v)) ∧ gS (hp x m) 107 = (1, 22) ∧ gM (hp x m) 107 = mM m 107 ∧ (∀ j v, pM (hp x m) 107 j v = hp x (uM m 107 j v)) ∧ gS (hp x m) 108 = (1, 6) ∧ gM (hp x m) 108 = mM m 108 ∧ (∀ j v, pM (hp x m) 108 j v = hp x (uM m 108 j v)) ∧ gS (hp x m) 109 = (1, 6) ∧ gM (hp x m) 109 = mM m 109 ∧ (∀ j v, pM (hp x m) 109 j v = hp x (uM m 109 j v)) ∧ gS (hp x m) 110 = (1, 10) ∧ gM (hp x m) 110 = mM m 110 ∧ (∀ j v, pM (hp x m) 110 j v = hp x (uM m 110 j v)) ∧ gS (hp x m) 111 = (1, 10) ∧ gM (hp x m) 111 = mM m 111 ∧ (∀ j v, pM (hp x m) 111 j v = hp x (uM m 111 j v)) ∧ gS (hp x m) 112 = (0, 9) ∧ gR (hp x m) 112 0 = some 113 ∧ gR (hp x m) 112 1 = some 114 ∧ gR (hp x m) 112 2 = some 115 ∧ gR (hp x m) 112 3 = some 116 ∧ gR (hp x m) 112 4 = some 117 ∧ gM (hp x m) 112 = mM m 112 ∧ (∀ j v, pM (hp x m) 112 j v = hp x (uF m 112 j v)) ∧ gS (hp x m) 113 = (1, 22) ∧ gM (hp x m) 113 = mM m 113 ∧ (∀ j v, pM (hp x m) 113 j v = hp x (uM m 113 j v)) ∧ gS (hp x m) 114 = (1, 6) ∧ gM (hp x m) 114 = mM m 114 ∧ (∀ j v, pM (hp x m) 114 j v = hp x (uM m 114 j v)) ∧ gS (hp x m) 115 = (1, 6) ∧ gM (hp x m) 115 = mM m 115 ∧ (∀ j v, pM (hp x m) 115 j v = hp x (uM m 115 j v)) ∧ gS (hp x m) 116 = (1, 10) ∧ gM (hp x m) 116 = mM m 116 ∧ (∀ j v, pM (hp x m) 116 j v = hp x (uM m 116 j v)) ∧ gS (hp x m) 117 = (1, 10) ∧ gM (hp x m) 117 = mM m 117 ∧ (∀ j v, pM (hp x m) 117 j v = hp x (uM m 117 j v)) ∧ gS (hp x m) 118 = (1, 10) ∧ gM (hp x m) 118 = mM m 118 ∧ (∀ j v, pM (hp x m) 118 j v = hp x (uM m 118 j v)) := ⟨rfl, rfl, rfl, rfl, rfl, rfl, rfl, gM_hp x m rfl, pM_hp x m rfl, rfl, rfl, rfl, rfl, rfl, rfl, gM_hp x m rfl, pM_hp x m rfl, rfl, gM_hp x m rfl, pM_hp x m rfl, rfl, gM_hp x m rfl, pM_hp x m rfl, rfl, gM_hp x m rfl, pM_hp x m rfl, rfl, gM_hp x m rfl, pM_hp x m rfl, rfl, gM_hp x m rfl, pM_hp x m rfl, rfl, rfl, rfl, rfl, rfl, rfl, gM_hp x m rfl, pM_hp x m rfl, rfl, gM_hp x m rfl, pM_hp x m rfl, rfl, gM_hp x m rfl, pM_hp x m rfl, rfl, gM_hp x m rfl, pM_hp x m rfl, rfl, gM_hp x m rfl, pM_hp x m rfl, rfl, gM_hp x m rfl, pM_hp x m rfl, rfl, gM_hp x m rfl, pM_hp x m rfl⟩
theorem H_circle (x : Nat) (m : sM) : gS (hp x m) 119 = (0, 0) ∧ gR (hp x m) 119 0 = some 120 ∧ gR (hp x m) 119 1 = some 57 ∧ gR (hp x m) 119 2 = some 121 ∧ gM (hp x m) 119 = mM m 119 ∧ (∀ j v, pM (hp x m) 119 j v = hp x (uF m 119 j v)) ∧ gS (hp x m) 120 = (1, 8) ∧ gM (hp x m) 120 = mM m 120 ∧ (∀ j v, pM (hp x m) 120 j v = hp x (uM m 120 j v)) ∧ gS (hp x m) 121 = (2, 30) ∧ gM (hp x m) 121 = mM m 121 ∧ (∀ j v, pM (hp x m) 121 j v = hp x (uM m 121 j v)) := ⟨rfl, rfl, rfl, rfl, gM_hp x m rfl, pM_hp x m rfl, rfl, gM_hp x m rfl, pM_hp x m rfl, rfl, gM_hp x m rfl, pM_hp x m rfl⟩
theorem H_x (x : Nat) (m : sM) : gS (hp x m) 5 = (0, 10) ∧ gR (hp x m) 5 0 = some 6 ∧ gR (hp x m) 5 1 = some 16 ∧ gR (hp x m) 5 2 = some 17 ∧ gR (hp x m) 5 3 = some 11 ∧ gR (hp x m) 5 4 = some 48 ∧ gR (hp x m) 5 5 = some 66 ∧ gR (hp x m) 5 6 = some 84 ∧ gR (hp x m) 5 7 = some 87 ∧ gR (hp x m) 5 8 = some 105 ∧ gR (hp x m) 5 9 = some 119 ∧ gM (hp x m) 5 = mM m 5 ∧ (∀ j v, pM (hp x m) 5 j v = hp x (uF m 5 j v)) := ⟨rfl, rfl, rfl, rfl, rfl, rfl, rfl, rfl, rfl, rfl, rfl, gM_hp x m rfl, pM_hp x m rfl⟩
theorem H_m (x : Nat) (m : sM) : gS (hp x m) 122 = (0, 11) ∧ gR (hp x m) 122 0 = some 123 ∧ gR (hp x m) 122 1 = some 124 ∧ gR (hp x m) 122 2 = some 125 ∧ gR (hp x m) 122 6 = some 126 ∧ gR (hp x m) 122 7 = some 127 ∧ gR (hp x m) 122 8 = some 128 ∧ gR (hp x m) 122 9 = some 129 ∧ gR (hp x m) 122 10 = some 130 ∧ gR (hp x m) 122 20 = some 131 ∧ gR (hp x m) 122 21 = some 132 ∧ gR (hp x m) 122 23 = some 133 ∧ gR (hp x m) 122 24 = some 134 ∧ gR (hp x m) 122 28 = some 135 ∧ gR (hp x m) 122 29 = some 136 ∧ gR (hp x m) 122 31 = some 137 ∧ gR (hp x m) 122 32 = some 138 ∧ gR (hp x m) 122 33 = some 139 ∧ gR (hp x m) 122 34 = some 140 ∧ gR (hp x m) 122 35 = some 141 ∧ gR (hp x m) 122 36 = some 142 ∧ gR (hp x m) 122 37 = some 143 ∧ gR (hp x m) 122 38 = some 144 ∧ gR (hp x m) 122 39 = some 145 ∧ gR (hp x m) 122 40 = some 146 ∧ gR (hp x m) 122 41 = some 147 ∧ gR (hp x m) 122 42 = some 148 ∧ gR (hp x m) 122 43 = some 149 ∧ gR (hp x m) 122 44 = some 150 ∧ gR (hp x m) 122 45 = some 151 ∧ gR (hp x m) 122 46 = some 152 ∧ gR (hp x m) 122 48 = some 153 ∧ gR (hp x m) 122 49 = some 154 ∧ gR (hp x m) 122 50 = some 155 ∧ gM (hp x m) 122 = mM m 122 ∧ (∀ j v, pM (hp x m) 122 j v = hp x (uF m 122 j v)) ∧ gS (hp x m) 123 = (1, 570) ∧ gM (hp x m) 123 = mM m 123 ∧ (∀ j v, pM (hp x m) 123 j v = hp x (uM m 123 j v)) ∧ gS (hp x m) 124 = (1, 570) ∧ gM (hp x m) 124 = mM m 124 ∧ (∀ j v, pM (hp x m) 124 j v = hp x (uM m 124 j v)) ∧ gS (hp x m) 125 = (3, 300) ∧ gM (hp x m) 125 = mM m 125 ∧ (∀ j v, pM (hp x m) 125 j v = hp x (uM m 125 j v)) ∧ gS (hp x m) 126 = (1, 6) ∧ gM (hp x m) 126 = mM m 126 ∧ (∀ j v, pM (hp x m) 126 j v = hp x (uM m 126 j v)) ∧ gS (hp x m) 127 = (1, 60) ∧ gM (hp x m) 127 = mM m 127 ∧ (∀ j v, pM (hp x m) 127 j v = hp x (uM m 127 j v)) ∧ gS (hp x m) 128 = (1, 60) ∧ gM (hp x m) 128 = mM m 128 ∧ (∀ j v, pM (hp x m) 128 j v = hp x (uM m 128 j v)) ∧ gS (hp x m) 129 = (1, 2400) ∧ gM (hp x m) 129 = mM m 129 ∧ (∀ j v, pM (hp x m) 129 j v = hp x (uM m 129 j v)) ∧ gS (hp x m) 130 = (1, 2400) ∧ gM (hp x m) 130 = mM m 130 ∧ (∀ j v, pM (hp x m) 130 j v = hp x (uM m 130 j v)) ∧ gS (hp x m) 131 = (1, 40) ∧ gM (hp x m) 131 = mM m 131 ∧ (∀ j v, pM (hp x m) 131 j v = hp x (uM m 131 j v)) ∧ gS (hp x m) 132 = (1, 41) ∧ gM (hp x m) 132 = mM m 132 ∧ (∀ j v, pM (hp x m) 132 j v = hp x (uM m 132 j v)) ∧ gS (hp x m) 133 = (1, 80) ∧ gM (hp x m) 133 = mM m 133 ∧ (∀ j v, pM (hp x m) 133 j v = hp x (uM m 133 j v)) ∧ gS (hp x m) 134 = (1, 80) ∧ gM (hp x m) 134 = mM m 134 ∧ (∀ j v, pM (hp x m) 134 j v = hp x (uM m 134 j v)) ∧ gS (hp x m) 135 = (1, 10) ∧ gM (hp x m) 135 = mM m 135 ∧ (∀ j v, pM (hp x m) 135 j v = hp x (uM m 135 j v)) ∧ gS (hp x m) 136 = (1, 10) ∧ gM (hp x m) 136 = mM m 136 ∧ (∀ j v, pM (hp x m) 136 j v = hp x (uM m 136 j v)) ∧ gS (hp x m) 137 = (1, 400) ∧ gM (hp x m) 137 = mM m 137 ∧ (∀ j v, pM (hp x m) 137 j v = hp x (uM m 137 j v)) ∧ gS (hp x m) 138 = (1, 400) ∧ gM (hp x m) 138 = mM m 138 ∧ (∀ j v, pM (hp x m) 138 j v = hp x (uM m 138 j v)) ∧ gS (hp x m) 139 = (1, 6) ∧ gM (hp x m) 139 = mM m 139 ∧ (∀ j v, pM (hp x m) 139 j v = hp x (uM m 139 j v)) ∧ gS (hp x m) 140 = (4, 200) ∧ gS (hp x m) 141 = (1, 22) ∧ gM (hp x m) 141 = mM m 141 ∧ (∀ j v, pM (hp x m) 141 j v = hp x (uM m 141 j v)) ∧ gS (hp x m) 142 = (1, 22) ∧ gM (hp x m) 142 = mM m 142 ∧ (∀ j v, pM (hp x m) 142 j v = hp x (uM m 142 j v)) ∧ gS (hp x m) 143 = (1, 22) ∧ gM (hp x m) 143 = mM m 143 ∧ (∀ j v, pM (hp x m) 143 j v = hp x (uM m 143 j v)) ∧ gS (hp x m) 144 = (1, 22) ∧ gM (hp x m) 144 = mM m 144 ∧ (∀ j v, pM (hp x m) 144 j v = hp x (uM m 144 j v)) ∧ gS (hp x m) 145 = (2, 22) ∧ gM (hp x m) 145 = mM m 145 ∧ (∀ j v, pM (hp x m) 145 j v = hp x (uM m 145 j v)) ∧ gS (hp x m) 146 = (1, 220) ∧ gM (hp x m) 146 = mM m 146 ∧ (∀ j v, pM (hp x m) 146 j v = hp x (uM m 146 j v)) ∧ gS (hp x m) 147 = (1, 6) ∧ gM (hp x m) 147 = mM m 147 ∧ (∀ j v, pM (hp x m) 147 j v = hp x (uM m 147 j v)) ∧ gS (hp x m) 148 = (1, 6) ∧ gM (hp x m) 148 = mM m 148 ∧ (∀ j v, pM (hp x m) 148 j v = hp x (uM m 148 j v)) ∧ gS (hp x m) 149 = (1, 10) ∧ gM (hp x m) 149 = mM m 149 ∧ (∀ j v, pM (hp x m) 149 j v = hp x (uM m 149 j v)) ∧ gS (hp x m) 150 = (1, 10) ∧ gM (hp x m) 150 = mM m 150 ∧ (∀ j v, pM (hp x m) 150 j v = hp x (uM m 150 j v)) ∧ gS (hp x m) 151 = (1, 22) ∧ gM (hp x m) 151 = mM m 151 ∧ (∀ j v, pM (hp x m) 151 j v = hp x (uM m 151 j v)) ∧ gS (hp x m) 152 = (1, 22) ∧ gM (hp x m) 152 = mM m 152 ∧ (∀ j v, pM (hp x m) 152 j v = hp x (uM m 152 j v)) ∧ gS (hp x m) 153 = (1, 16) ∧ gM (hp x m) 153 = mM m 153 ∧ (∀ j v, pM (hp x m) 153 j v = hp x (uM m 153 j v)) ∧ gS (hp x m) 154 = (1, 8) ∧ gM (hp x m) 154 = mM m 154 ∧ (∀ j v, pM (hp x m) 154 j v = hp x (uM m 154 j v)) ∧ gS (hp x m) 155 = (2, 30) ∧ gM (hp x m) 155 = mM m 155 ∧ (∀ j v, pM (hp x m) 155 j v = hp x (uM m 155 j v)) := ⟨rfl, rfl, rfl, rfl, rfl, rfl, rfl, rfl, rfl, rfl, rfl, rfl, rfl, rfl, rfl, rfl, rfl, rfl, rfl, rfl, rfl, rfl, rfl, rfl, rfl, rfl, rfl, rfl, rfl, rfl, rfl, rfl, rfl, rfl, gM_hp x m rfl, pM_hp x m rfl, rfl, gM_hp x m rfl, pM_hp x m rfl, rfl, gM_hp x m rfl, pM_hp x m rfl, rfl, gM_hp x m rfl, pM_hp x m rfl, rfl, gM_hp x m rfl, pM_hp x m rfl, rfl, gM_hp x m rfl, pM_hp x m rfl, rfl, gM_hp x m rfl, pM_hp x m rfl, rfl, gM_hp x m rfl, pM_hp x m rfl, rfl, gM_hp x m rfl, pM_hp x m rfl, rfl, gM_hp x m rfl, pM_hp x m rfl, rfl, gM_hp x m rfl, pM_hp x m rfl, rfl, gM_hp x m rfl, pM_hp x m rfl, rfl, gM_hp x m rfl, pM_hp x m rfl, rfl, gM_hp x m rfl, pM_hp x m rfl, rfl, gM_hp x m rfl, pM_hp x m rfl, rfl, gM_hp x m rfl, pM_hp x m rfl, rfl, gM_hp x m rfl, pM_hp x m rfl, rfl, gM_hp x m rfl, pM_hp x m rfl, rfl, rfl, gM_hp x m rfl, pM_hp x m rfl, rfl, gM_hp x m rfl, pM_hp x m rfl, rfl, gM_hp x m rfl, pM_hp x m rfl, rfl, gM_hp x m rfl, pM_hp x m rfl, rfl, gM_hp x m rfl, pM_hp x m rfl, rfl, gM_hp x m rfl, pM_hp x m rfl, rfl, gM_hp x m rfl, pM_hp x m rfl, rfl, gM_hp x m rfl, pM_hp x m rfl, rfl, gM_hp x m rfl, pM_hp x m rfl, rfl, gM_hp x m rfl, pM_hp x m rfl, rfl, gM_hp x m rfl, pM_hp x m rfl, rfl, gM_hp x m rfl, pM_hp x m rfl, rfl, gM_hp x m rfl, pM_hp x m rfl, rfl, gM_hp x m rfl, pM_hp x m rfl, rfl, gM_hp x m rfl, pM_hp x m rfl⟩
