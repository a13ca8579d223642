/-! THE ABSTRACT MACHINE: instructions as data, a heap of numbered cells, an evaluator with fuel n and depth d -/
abbrev aI : Type := Nat × Nat × Nat × Nat × Int × List (Int × Nat)
abbrev aF : Type := Nat × List Value × List Value
abbrev aH : Type := (Nat → Nat × Nat) × (Nat → Nat → Int32) × (Nat → Nat → Int64) × (Nat → Nat → Option Nat) × (Nat → Option Nat) × Nat × Nat
abbrev aO : Type := (aF × aH) ⊕ ((Nat × List Value × aF) ⊕ Option Value)
def gS (h : aH) (k : Nat) : Nat × Nat := h.1 k
def gM (h : aH) (k j : Nat) : Int32 := h.2.1 k j
def gL (h : aH) (k j : Nat) : Int64 := h.2.2.1 k j
def gR (h : aH) (k j : Nat) : Option Nat := h.2.2.2.1 k j
def gQ (h : aH) (k : Nat) : Option Nat := h.2.2.2.2.1 k
def gN (h : aH) : Nat := h.2.2.2.2.2.1
def gZ (h : aH) : Nat := h.2.2.2.2.2.2
def pM (h : aH) (k j : Nat) (v : Int32) : aH := (h.1, (fun a b => if a = k ∧ b = j then v else h.2.1 a b), h.2.2)
def pL (h : aH) (k j : Nat) (v : Int64) : aH := (h.1, h.2.1, (fun a b => if a = k ∧ b = j then v else h.2.2.1 a b), h.2.2.2)
def pR (h : aH) (k j : Nat) (r : Option Nat) : aH := (h.1, h.2.1, h.2.2.1, (fun a b => if a = k ∧ b = j then r else h.2.2.2.1 a b), h.2.2.2.2)
def pQ (h : aH) (k : Nat) (r : Option Nat) : aH := (h.1, h.2.1, h.2.2.1, h.2.2.2.1, (fun a => if a = k then r else h.2.2.2.2.1 a), h.2.2.2.2.2)
/-- n places of cell s from sp on go to cell d from dp on -/
def pC (h : aH) (s sp d dp n : Nat) : aH := (h.1, (fun a b => if a = d ∧ dp ≤ b ∧ b < dp + n then h.2.1 s (sp + (b - dp)) else h.2.1 a b), h.2.2)
/-- a new cell, all zero -/
def pN (h : aH) (q : Nat × Nat) (z : Nat) : aH := ((fun a => if a = gN h then q else h.1 a), (fun a b => if a = gN h then 0 else h.2.1 a b), (fun a b => if a = gN h then 0 else h.2.2.1 a b), (fun a b => if a = gN h then none else h.2.2.2.1 a b), (fun a => if a = gN h then none else h.2.2.2.2.1 a), gN h + 1, gZ h + z)
/-- new int[N][K]: the outer cell, then the N inner ones -/
def pA (h : aH) (N K : Nat) : aH := ((fun a => if a = gN h then (6, N) else if gN h < a ∧ a ≤ gN h + N then (1, K) else h.1 a), (fun a b => if gN h ≤ a ∧ a ≤ gN h + N then 0 else h.2.1 a b), h.2.2.1, (fun a b => if a = gN h ∧ b < N then some (gN h + 1 + b) else h.2.2.2.1 a b), h.2.2.2.2.1, gN h + 1 + N, gZ h + N + N * K)
/-- an integer as an int -/
def iI (z : Int) : Int32 := Int32.ofInt z
def lI (z : Int) : Int64 := Int64.ofInt z
/-- an index as a place -/
def ix (i : Int32) : Nat := i.toNatClampNeg
/-- an index in a row of n -/
def inR (i : Int32) (n : Nat) : Prop := 0 ≤ i.toInt ∧ i.toInt < n
/-- 0 or 1 -/
def isB (v : Int32) : Prop := v = iI 0 ∨ v = iI 1
def okC (v : Int32) : Prop := narrow .char (.int v) = .int v
def ao_go (nx : Nat) (ls st : List Value) (h : aH) : Option aO := some (.inl ((nx, ls, st), h))
/-- what stands in no local: unset, or a long's second half -/
def okV : Value → Bool
  | .float _ => false
  | .double _ => false
  | _ => true
/-- a store into place k: not over a long's second half -/
def stL (ls : List Value) (k : Nat) (v : Value) : Option (List Value) := match ls[k]? with
  | none => none
  | some (.double _) => none
  | some (.long _) => none
  | some _ => some (ls.set k v)
/-- a long's store into k, k + 1: over places that hold no long's part -/
def stJ (ls : List Value) (k : Nat) (v : Int64) : Option (List Value) := match ls[k]?, ls[k + 1]? with
  | some (.long _), some (.double _) => some ((ls.set k (.long v)).set (k + 1) (.double 0))
  | some (.float _), some (.float _) => some ((ls.set k (.long v)).set (k + 1) (.double 0))
  | _, _ => none
def cndZ (k : Nat) (x : Int32) : Bool := match k with
  | 0 => decide (x = 0)
  | 1 => decide (¬ x = 0)
  | 2 => decide (x < 0)
  | 3 => decide (0 ≤ x)
  | 4 => decide (0 < x)
  | _ => decide (x ≤ 0)
def cndC (k : Nat) (x y : Int32) : Bool := match k with
  | 0 => decide (x = y)
  | 1 => decide (¬ x = y)
  | 2 => decide (x < y)
  | 3 => decide (y ≤ x)
  | 4 => decide (y < x)
  | _ => decide (x ≤ y)
def binI (op : Nat) (x y : Int32) : Option Int32 := match op with
  | 96 => some (x + y)
  | 100 => some (x - y)
  | 104 => some (x * y)
  | 108 => if y = 0 then none else some (x / y)
  | 112 => if y = 0 then none else some (x - x / y * y)
  | 120 => some (x <<< (y &&& 31))
  | 122 => some (x >>> (y &&& 31))
  | 126 => some (x &&& y)
  | 128 => some (x ||| y)
  | _ => none
def binJ (op : Nat) (x y : Int64) : Option Int64 := match op with
  | 97 => some (x + y)
  | 101 => some (x - y)
  | 105 => some (x * y)
  | 109 => if y = 0 then none else some (x / y)
  | _ => none
def unI (op : Nat) (x : Int32) : Option Int32 := match op with
  | 116 => some (-x)
  | 145 => some x.toInt8.toInt32
  | 146 => some (x.toUInt32 % 65536).toInt32
  | _ => none
def swT : List (Int × Nat) → Nat → Int → Nat
  | [], d, _ => d
  | (k, t) :: r, d, x => if x = k then t else swT r d x
/-- the kinds of rows of ints: int, boolean, byte, long; of references: laws, rows of ints -/
def m_ald (h : aH) (tg tg2 : Nat) (nx : Nat) (ls : List Value) : List Value → Option aO
  | .int i :: .ref a :: st => if ((gS h a).1 = tg ∨ (gS h a).1 = tg2) ∧ 0 ≤ i.toInt ∧ i.toInt < (gS h a).2 then ao_go nx ls (.int (gM h a (ix i)) :: st) h else none
  | _ => none
def rfV : Option Nat → Value
  | none => .null
  | some r => .ref r
def aJ (ls : List Value) : List Value → List Value
  | [] => ls
  | .long v :: r => aJ (ls ++ [.long v, .double 0]) r
  | .double v :: r => aJ (ls ++ [.double v, .double 0]) r
  | v :: r => aJ (ls ++ [v]) r
def catOk (st : List Value) : Bool := Nat.ble ((st.map fun v => v.category).sum) 8
/-- a call's arguments off the stack -/
def tkA (n : Nat) (st : List Value) : Option (List Value × List Value) := if st.length < n then none else some ((st.take n).reverse, st.drop n)
def sem (i : aI) (f : aF) (h : aH) : Option aO :=
  let nx := i.2.1
  let a := i.2.2.1
  let b := i.2.2.2.1
  let v := i.2.2.2.2.1
  let ts := i.2.2.2.2.2
  let ls := f.2.1
  let st := f.2.2
  match i.1 with
  | 1 => ao_go nx ls (.null :: st) h
  | 18 => ao_go nx ls (.int (iI v) :: st) h
  | 19 => ao_go nx ls (.ref a :: st) h
  | 20 => ao_go nx ls (.long (lI v) :: st) h
  | 21 => match ls[a]? with
    | some (.int x) => ao_go nx ls (.int x :: st) h
    | _ => none
  | 22 => match ls[a]? with
    | some (.long x) => ao_go nx ls (.long x :: st) h
    | _ => none
  | 25 => match ls[a]? with
    | some (.ref x) => ao_go nx ls (.ref x :: st) h
    | some .null => ao_go nx ls (.null :: st) h
    | _ => none
  | 54 => match st with
    | .int x :: r => match stL ls a (.int x) with
      | some l => ao_go nx l r h
      | none => none
    | _ => none
  | 55 => match st with
    | .long x :: r => match stJ ls a x with
      | some l => ao_go nx l r h
      | none => none
    | _ => none
  | 58 => match st with
    | .ref x :: r => match stL ls a (.ref x) with
      | some l => ao_go nx l r h
      | none => none
    | _ => none
  | 132 => match ls[a]? with
    | some (.int x) => ao_go nx (ls.set a (.int (x + iI v))) st h
    | _ => none
  | 87 => match st with
    | .int _ :: r => ao_go nx ls r h
    | _ => none
  | 89 => match st with
    | .int x :: r => ao_go nx ls (.int x :: .int x :: r) h
    | .ref x :: r => ao_go nx ls (.ref x :: .ref x :: r) h
    | _ => none
  | 92 => match st with
    | .int x :: .ref y :: r => ao_go nx ls (.int x :: .ref y :: .int x :: .ref y :: r) h
    | _ => none
  | 2 => match st with
    | .int y :: .int x :: r => match binI a x y with
      | some z => ao_go nx ls (.int z :: r) h
      | none => none
    | _ => none
  | 3 => match st with
    | .long y :: .long x :: r => match binJ a x y with
      | some z => ao_go nx ls (.long z :: r) h
      | none => none
    | _ => none
  | 4 => match st with
    | .int x :: r => match unI a x with
      | some z => ao_go nx ls (.int z :: r) h
      | none => none
    | _ => none
  | 117 => match st with
    | .long x :: r => ao_go nx ls (.long (-x) :: r) h
    | _ => none
  | 133 => match st with
    | .int x :: r => ao_go nx ls (.long x.toInt64 :: r) h
    | _ => none
  | 136 => match st with
    | .long x :: r => ao_go nx ls (.int x.toInt32 :: r) h
    | _ => none
  | 148 => match st with
    | .long y :: .long x :: r => ao_go nx ls (.int (lg_cmp x y) :: r) h
    | _ => none
  | 153 => match st with
    | .int x :: r => if cndZ b x = true then ao_go a ls r h else ao_go nx ls r h
    | _ => none
  | 159 => match st with
    | .int y :: .int x :: r => if cndC b x y = true then ao_go a ls r h else ao_go nx ls r h
    | _ => none
  | 167 => ao_go a ls st h
  | 170 => match st with
    | .int x :: r => ao_go (swT ts a x.toInt) ls r h
    | _ => none
  | 198 => match st with
    | .null :: r => ao_go a ls r h
    | .ref _ :: r => ao_go nx ls r h
    | _ => none
  | 172 => match st with
    | [.int x] => if (a = 0 ∨ (a = 1 ∧ (x = iI 0 ∨ x = iI 1)) ∨ (a = 2 ∧ narrow .char (.int x) = .int x) ∨ (a = 3 ∧ narrow .byte (.int x) = .int x)) then some (.inr (.inr (some (.int x)))) else none
    | _ => none
  | 173 => match st with
    | [.long x] => some (.inr (.inr (some (.long x))))
    | _ => none
  | 176 => match st with
    | [.ref x] => some (.inr (.inr (some (.ref x))))
    | _ => none
  | 177 => match st with
    | [] => some (.inr (.inr none))
    | _ => none
  | 178 => ao_go nx ls (.int (iI v) :: st) h
  | 179 => ao_go nx ls (.retAddr 0 :: st) h
  | 180 => match st with
    | .ref t :: r => if gS h t = (0, a) then ao_go nx ls (.int (gM h t b) :: r) h else none
    | _ => none
  | 1180 => match st with
    | .ref t :: r => if gS h t = (0, a) then ao_go nx ls (rfV (gR h t b) :: r) h else none
    | _ => none
  | 2180 => match st with
    | .ref t :: r => if gS h t = (0, a) then ao_go nx ls (rfV (gQ h t) :: r) h else none
    | _ => none
  | 3180 => match st with
    | .ref t :: r => if (gS h t).1 = 8 then ao_go nx ls (.ref (t + 1) :: r) h else none
    | _ => none
  | 4180 => match st with
    | .ref t :: r => if (gS h t).1 = 8 then ao_go nx ls (.int (iI 0) :: r) h else none
    | _ => none
  | 181 => match st with
    | .int x :: .ref t :: r => if gS h t = (0, a) then ao_go nx ls r (pM h t b x) else none
    | _ => none
  | 5181 => match st with
    | .int x :: .ref t :: r => if gS h t = (0, a) ∧ (x = iI 0 ∨ x = iI 1) then ao_go nx ls r (pM h t b x) else none
    | _ => none
  | 1181 => match st with
    | .ref x :: .ref t :: r => if gS h t = (0, a) then ao_go nx ls r (pR h t b (some x)) else none
    | _ => none
  | 2181 => match st with
    | .ref x :: .ref t :: r => if gS h t = (0, a) then ao_go nx ls r (pQ h t (some x)) else none
    | _ => none
  | 46 => m_ald h 1 7 nx ls st
  | 51 => match st with
    | .int i :: .ref q :: r => if ((gS h q).1 = 2 ∨ (gS h q).1 = 3 ∨ (gS h q).1 = 9) ∧ 0 ≤ i.toInt ∧ i.toInt < (gS h q).2 then ao_go nx ls (.int (gM h q (ix i)) :: r) h else none
    | _ => none
  | 47 => match st with
    | .int i :: .ref q :: r => if (gS h q).1 = 4 ∧ 0 ≤ i.toInt ∧ i.toInt < (gS h q).2 then ao_go nx ls (.long (gL h q (ix i)) :: r) h else none
    | _ => none
  | 50 => match st with
    | .int i :: .ref q :: r => if ((gS h q).1 = 5 ∨ (gS h q).1 = 6) ∧ 0 ≤ i.toInt ∧ i.toInt < (gS h q).2 then ao_go nx ls (rfV (gR h q (ix i)) :: r) h else none
    | _ => none
  | 79 => match st with
    | .int x :: .int i :: .ref q :: r => if (gS h q).1 = 1 ∧ 0 ≤ i.toInt ∧ i.toInt < (gS h q).2 then ao_go nx ls r (pM h q (ix i) x) else none
    | _ => none
  | 84 => match st with
    | .int x :: .int i :: .ref q :: r => if ((gS h q).1 = 2 ∧ (x = iI 0 ∨ x = iI 1)) ∧ 0 ≤ i.toInt ∧ i.toInt < (gS h q).2 then ao_go nx ls r (pM h q (ix i) x) else none
    | _ => none
  | 85 => match st with
    | .int x :: .int i :: .ref q :: r => if (gS h q).1 = 3 ∧ 0 ≤ i.toInt ∧ i.toInt < (gS h q).2 then ao_go nx ls r (pM h q (ix i) x.toInt8.toInt32) else none
    | _ => none
  | 80 => match st with
    | .long x :: .int i :: .ref q :: r => if (gS h q).1 = 4 ∧ 0 ≤ i.toInt ∧ i.toInt < (gS h q).2 then ao_go nx ls r (pL h q (ix i) x) else none
    | _ => none
  | 83 => match st with
    | .ref x :: .int i :: .ref q :: r => if (gS h q).1 = 5 ∧ gS h x = (0, a) ∧ 0 ≤ i.toInt ∧ i.toInt < (gS h q).2 then ao_go nx ls r (pR h q (ix i) (some x)) else none
    | _ => none
  | 190 => match st with
    | .ref q :: r => if 1 ≤ (gS h q).1 ∧ (gS h q).1 ≤ 9 ∧ (gS h q).1 ≠ 8 then ao_go nx ls (.int (iI (gS h q).2) :: r) h else none
    | _ => none
  | 187 => ao_go nx ls (.ref (gN h) :: st) (pN h (0, a) b)
  | 188 => match st with
    | .int n :: r => if 0 ≤ n.toInt ∧ n.toInt ≤ 100000 then ao_go nx ls (.ref (gN h) :: r) (pN h (a, n.toInt.toNat) n.toInt.toNat) else none
    | _ => none
  | 189 => match st with
    | .int n :: r => if 0 ≤ n.toInt ∧ n.toInt ≤ 100000 then ao_go nx ls (.ref (gN h) :: r) (pN h (5, n.toInt.toNat) n.toInt.toNat) else none
    | _ => none
  | 197 => match st with
    | .int k :: .int n :: r => if 0 ≤ n.toInt ∧ n.toInt ≤ 10000 ∧ 0 ≤ k.toInt ∧ k.toInt ≤ 10000 then ao_go nx ls (.ref (gN h) :: r) (pA h n.toInt.toNat k.toInt.toNat) else none
    | _ => none
  | 182 => match tkA b st with
    | some (as, r) => if catOk r = true ∧ Nat.ble (aJ [] as).length v.toNat = true then some (.inr (.inl (a, as, (nx, ls, r)))) else none
    | none => none
  | 1182 => match tkA (b / 100) st with
    | some (.ref q :: as, r) => if (catOk r = true ∧ gS h q = (0, b % 100)) ∧ Nat.ble (aJ [] (.ref q :: as)).length v.toNat = true then some (.inr (.inl (a, .ref q :: as, (nx, ls, r)))) else none
    | _ => none
  | 2182 => match tkA b st with
    | some (.ref q :: as, r) => if (catOk r = true ∧ (gS h q).1 = 8) ∧ Nat.ble (aJ [] (.ref q :: as)).length v.toNat = true then some (.inr (.inl (a, .ref q :: as, (nx, ls, r)))) else none
    | _ => none
  | 3182 => match tkA b st with
    | some (.ref q :: as, r) => if catOk r = true ∧ Nat.ble (aJ [] (.ref q :: as)).length v.toNat = true then some (.inr (.inl (a, .ref q :: as, (nx, ls, r)))) else none
    | _ => none
  | 183 => match st with
    | .ref _ :: r => if catOk r = true then ao_go nx ls r h else none
    | _ => none
  | 184 => match st with
    | .int n :: .int dp :: .ref d :: .int sp :: .ref q :: r => if ((gS h q).1 = 1 ∧ (gS h d).1 = 1 ∧ catOk r = true) ∧ (0 ≤ sp.toInt ∧ 0 ≤ dp.toInt ∧ 0 ≤ n.toInt) ∧ sp.toInt + n.toInt ≤ (gS h q).2 ∧ dp.toInt + n.toInt ≤ (gS h d).2 then ao_go nx ls r (pC h q (ix sp) d (ix dp) (ix n)) else none
    | _ => none
  | 201 => match st with
    | .int z :: .int x :: r => if catOk r = true then ao_go nx ls (.int (if x < z then z else x) :: r) h else none
    | _ => none
  | 202 => match st with
    | .int z :: .int x :: r => if catOk r = true then ao_go nx ls (.int (if z < x then z else x) :: r) h else none
    | _ => none
  | 203 => match st with
    | .long z :: .long x :: r => if catOk r = true then ao_go nx ls (.long (if z < x then x else z) :: r) h else none
    | _ => none
  | 204 => match st with
    | .long z :: .long x :: r => if catOk r = true then ao_go nx ls (.long (if z < x then z else x) :: r) h else none
    | _ => none
  | _ => none
section EV
variable (ins : Nat → Nat → Option aI) (mml : Nat → Nat)
/-- a method's first locals -/
def eLs (y : Nat) (as : List Value) : List Value := let l := aJ [] as; l ++ List.replicate (mml y - l.length) (.float 0)
def evG : Nat → Nat → Nat → aF → aH → Option (Option Value × aH)
  | 0, _, _, _, _ => none
  | n + 1, d, y, f, h => match ins y f.1 with
    | none => none
    | some i => match sem i f h with
      | none => none
      | some (.inl (f', h')) => evG n d y f' h'
      | some (.inr (.inl (y', as, f'))) => match d with
        | 0 => none
        | d' + 1 => match evG n d' y' (0, eLs mml y' as, []) h with
          | none => none
          | some (r, h') => evG n (d' + 1) y (f'.1, f'.2.1, r.toList ++ f'.2.2) h'
      | some (.inr (.inr r)) => some (r, h)
end EV
