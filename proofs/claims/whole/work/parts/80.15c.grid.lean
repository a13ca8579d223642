/-! A NEW ROW OF ROWS OF INTS: new int[N][K]; what the machine has made behind i of its rows, told place by place -/
section GRID
variable {p : Program} {l : Launch} {e : Env} {R : Room} {s : State} {m : MethodId} {args : Array Value} {below : List Frame} {meth : Method} {c : Code} {T : State} {locs : List Loc} {cells slots : Nat}
variable {E : CtlPost} {d : Bool} {acts : List Action} {S : State} {cA cI : ClassId} {N K : Nat}
def gd_o (cA : ClassId) (N a i : Nat) : Cell := arrV cA N (fun j => va_rf (if j < i then some (a + 1 + j) else none))
def gd_i (cI : ClassId) (K : Nat) : Cell := arrV cI K (fun _ => .int 0)
def gd_S (S : State) (cA cI : ClassId) (N K : Nat) : Nat → State
  | 0 => S.pushCell (gd_o cA N S.heap.size 0)
  | i + 1 => ((gd_S S cA cI N K i).pushCell (gd_i cI K)).setCell S.heap.size (gd_o cA N S.heap.size (i + 1))
theorem gd_o0 (cA : ClassId) (N a : Nat) : ({ cls := cA, slots := Array.replicate N .null, vm := .none } : Cell) = gd_o cA N a 0 := (arrV_new cA N .null).trans (congrArg (arrV cA N) (funext fun j => by rw [if_neg (Nat.not_lt_zero j)]; rfl))
theorem gd_i0 (cI : ClassId) (K : Nat) : ({ cls := cI, slots := Array.replicate K (.int 0), vm := .none } : Cell) = gd_i cI K := arrV_new cI K (.int 0)
theorem gd_os (cA : ClassId) (N a i : Nat) : (gd_o cA N a i).setSlot i (.ref (a + 1 + i)) = gd_o cA N a (i + 1) := by
  unfold gd_o
  rw [arrV_store]
  refine congrArg (arrV cA N) (funext fun j => ?_)
  rcases Nat.lt_trichotomy j i with h | h | h
  · simp [updV, h, Nat.ne_of_lt h, Nat.lt_succ_of_lt h]
  · subst h
    simp [updV, va_rf]
  · simp [updV, Nat.ne_of_gt h, show ¬ j < i by omega, show ¬ j < i + 1 by omega]
theorem gd_f (S : State) (cA cI : ClassId) (N K : Nat) : ∀ i, (gd_S S cA cI N K i).heap.size = S.heap.size + 1 + i ∧ (gd_S S cA cI N K i).slotsUsed = S.slotsUsed + N + i * K ∧ (gd_S S cA cI N K i).vm = S.vm ∧ ∀ x : Nat, (gd_S S cA cI N K i).heap[x]? = if x < S.heap.size then S.heap[x]? else if x = S.heap.size then some (gd_o cA N S.heap.size i) else if x < S.heap.size + 1 + i then some (gd_i cI K) else none
  | 0 => by
    refine ⟨Array.size_push _, ?_, rfl, fun x => ?_⟩
    · show S.slotsUsed + (gd_o cA N S.heap.size 0).slots.size = _
      rw [show (gd_o cA N S.heap.size 0).slots.size = N from arrV_size _ _ _, Nat.zero_mul, Nat.add_zero]
    · show (S.heap.push (gd_o cA N S.heap.size 0))[x]? = _
      rw [Array.getElem?_push]
      by_cases h : x = S.heap.size
      · rw [if_pos h, if_neg (by omega), if_pos h]
      · rw [if_neg h, if_neg h]
        by_cases h2 : x < S.heap.size
        · rw [if_pos h2]
        · rw [if_neg h2, if_neg (by omega), Array.getElem?_eq_none (by omega)]
  | i + 1 => by
    obtain ⟨a, b, v, g⟩ := gd_f S cA cI N K i
    refine ⟨?_, ?_, v, fun x => ?_⟩
    · show (((gd_S S cA cI N K i).heap.push (gd_i cI K)).setIfInBounds S.heap.size _).size = _
      rw [Array.size_setIfInBounds, Array.size_push, a]
      rfl
    · show (gd_S S cA cI N K i).slotsUsed + (gd_i cI K).slots.size = _
      rw [b, show (gd_i cI K).slots.size = K from arrV_size _ _ _, Nat.succ_mul, Nat.add_assoc]
    · show (((gd_S S cA cI N K i).heap.push (gd_i cI K)).setIfInBounds S.heap.size (gd_o cA N S.heap.size (i + 1)))[x]? = _
      rw [Array.getElem?_setIfInBounds, Array.size_push, Array.getElem?_push, a, g]
      by_cases h : S.heap.size = x
      · rw [if_pos h, if_pos (by omega), if_neg (by omega), if_pos h.symm]
      · rw [if_neg h]
        by_cases h3 : x = S.heap.size + 1 + i
        · rw [if_pos h3, if_neg (by omega), if_neg (by omega), if_pos (by omega)]
        · rw [if_neg h3]
          by_cases h2 : x < S.heap.size
          · rw [if_pos h2, if_pos h2]
          · have h5 : ¬ x = S.heap.size := fun q => h q.symm
            rw [if_neg h2, if_neg h5, if_neg h2, if_neg h5]
            by_cases h4 : x < S.heap.size + 1 + i
            · rw [if_pos h4, if_pos (by omega)]
            · rw [if_neg h4, if_neg (by omega)]
theorem gd_top (S : State) (f : JFrame) (cA cI : ClassId) (N K : Nat) : ∀ i, gd_S (S.setTop f) cA cI N K i = (gd_S S cA cI N K i).setTop f
  | 0 => rfl
  | i + 1 => by
    show ((gd_S (S.setTop f) cA cI N K i).pushCell (gd_i cI K)).setCell S.heap.size (gd_o cA N S.heap.size (i + 1)) = _
    rw [gd_top S f cA cI N K i]
    rfl
theorem gd_X (X : Stand p l e R s m args below meth c T locs cells slots) (cA cI : ClassId) (N K : Nat) : ∀ i, Stand p l e R s m args below meth c (gd_S T cA cI N K i) locs (cells + 1 + i) (slots + N + i * K)
  | 0 => by
    have h := X.pushed (gd_o cA N T.heap.size 0)
    rw [show (gd_o cA N T.heap.size 0).slots.size = N from arrV_size _ _ _] at h
    rw [Nat.zero_mul]
    exact h
  | i + 1 => by
    have h := (gd_X X cA cI N K i).pushed (gd_i cI K)
    rw [show (gd_i cI K).slots.size = K from arrV_size _ _ _] at h
    have hc : ((gd_S T cA cI N K i).pushCell (gd_i cI K)).heap[T.heap.size]? = some (gd_o cA N T.heap.size i) := by
      show ((gd_S T cA cI N K i).heap.push (gd_i cI K))[T.heap.size]? = _
      rw [Array.getElem?_push, (gd_f T cA cI N K i).1, if_neg (by omega), (gd_f T cA cI N K i).2.2.2, if_neg (Nat.lt_irrefl _), if_pos rfl]
    have h := h.stored hc i (.ref (T.heap.size + 1 + i))
    rw [gd_os] at h
    have h := h.dropFresh (fun x hx => by
      cases List.mem_singleton.mp hx
      exact X.heapGrown)
    rw [show slots + N + (i + 1) * K = slots + N + i * K + K by rw [Nat.succ_mul]; omega]
    exact h
/-- one row of ints -/
theorem gd_one {kI : Class} {cc : ClassId} {k : Int32} (hI : S.vm.classes[cI]? = some kI) (hI2 : kI.kind = .array cc .int) (hk : ¬ k < 0) (h1 : ¬ k.toNatClampNeg > e.platform.arrayLengthLimit) (h2 : ¬ k.toNatClampNeg * componentBytes .int > e.platform.maxHeapBytes) (h3 : S.heap.size < e.platform.maxCells) (h4 : S.slotsUsed + k.toNatClampNeg ≤ e.platform.maxSlots) {Q : Addr → Pre} (q : ∀ acts', Q S.heap.size d acts' (S.pushCell (gd_i cI k.toNatClampNeg))) : wp (multianewarray.make cI [k]) Q E e d acts S := by
  rw [multianewarray.make]
  simp only [wp_bind', W.ite, hk, if_false, wp_pure', W.theClass, hI, hI2, Option.some.injEq, exists_eq_left']
  refine W.newArray_of hI hI2 h1 h2 h3 h4 rfl (fun acts' => ?_)
  have q := q acts'
  rw [← gd_i0] at q
  exact q
/-- all of them -/
theorem gd_make {kA kI : Class} {cc : ClassId} {n k : Int32} (hA : S.vm.classes[cA]? = some kA) (hA2 : kA.kind = .array cI (.array .int)) (hI : S.vm.classes[cI]? = some kI) (hI2 : kI.kind = .array cc .int) (hn : ¬ n < 0) (hk : ¬ k < 0) (h1 : ¬ n.toNatClampNeg > e.platform.arrayLengthLimit) (h2 : ¬ n.toNatClampNeg * componentBytes (.array .int) > e.platform.maxHeapBytes) (h3 : ¬ k.toNatClampNeg > e.platform.arrayLengthLimit) (h4 : ¬ k.toNatClampNeg * componentBytes .int > e.platform.maxHeapBytes) (h5 : S.heap.size + 1 + n.toNatClampNeg ≤ e.platform.maxCells) (h6 : S.slotsUsed + n.toNatClampNeg + n.toNatClampNeg * k.toNatClampNeg ≤ e.platform.maxSlots) {Q : Addr → Pre} (q : ∀ d' acts', Q S.heap.size d' acts' (gd_S S cA cI n.toNatClampNeg k.toNatClampNeg n.toNatClampNeg)) : wp (multianewarray.make cA [n, k]) Q E e d acts S := by
  generalize eN : n.toNatClampNeg = N at *
  generalize eK : k.toNatClampNeg = K at *
  have hNK : N * K ≤ N * K := Nat.le_refl _
  rw [multianewarray.make]
  simp only [wp_bind', W.ite, hn, if_false, wp_pure', W.theClass, hA, hA2, Option.some.injEq, exists_eq_left', eN]
  refine W.newArray_of hA hA2 h1 h2 (by omega) (by omega) rfl (fun acts' => ?_)
  rw [show ({ cls := cA, slots := Array.replicate N .null } : Cell) = gd_o cA N S.heap.size 0 from gd_o0 cA N S.heap.size]
  have z : ([k].find? (· < 0)) = none := by simp [hk]
  simp only [z]
  rw [ite_self, wp_bind', Std.Legacy.Range.forIn_eq_forIn_range', show (Std.Legacy.Range.size [:N]) = N by simp [Std.Legacy.Range.size]]
  refine wp_forIn_inv (fun r S' => ∃ i, i ≤ N ∧ r = List.range' i (N - i) ∧ S' = gd_S S cA cI N K i) _ _ ⟨0, Nat.zero_le _, rfl, rfl⟩ ?_ ?_
  · intro x r S' d' acts2 Q' ⟨i, hi, hr, hS⟩ nx
    subst hS
    have lt : i < N := by
      rcases Nat.lt_or_ge i N with h | h
      · exact h
      · rw [show N - i = 0 by omega] at hr
        cases hr
    rw [show N - i = (N - (i + 1)) + 1 by omega, List.range'_succ] at hr
    obtain ⟨ex, er⟩ := List.cons.inj hr
    subst ex
    obtain ⟨a, b, v, g⟩ := gd_f S cA cI N K x
    have mul : x * K + K ≤ N * K := by
      have h := Nat.mul_le_mul_right K (show x + 1 ≤ N from lt)
      rw [Nat.succ_mul] at h
      exact h
    simp only [wp_bind']
    refine gd_one (by rw [v]; exact hI) hI2 hk (by rw [eK]; exact h3) (by rw [eK]; exact h4) (by omega) (by rw [eK]; omega) (fun acts3 => ?_)
    rw [eK]
    simp only [wp_bind', W.writeLoc, wp_pure']
    refine ⟨gd_o cA N S.heap.size x, ?_, by simp [gd_o, arrV], by rw [show (gd_o cA N S.heap.size x).slots.size = N from arrV_size _ _ _]; exact lt, ?_, ?_⟩
    · show ((gd_S S cA cI N K x).heap.push (gd_i cI K))[S.heap.size]? = _
      rw [Array.getElem?_push, a, if_neg (by omega), g, if_neg (Nat.lt_irrefl _), if_pos rfl]
    · have f : fits (.array .int) (.ref (gd_S S cA cI N K x).heap.size) = true := rfl
      simp [State.fitsSlot, State.slotType?, gd_o, arrV, v, hA, hA2, f]
    · rw [a, gd_os]
      exact nx _ _ _ ⟨x + 1, lt, er, rfl⟩
  · intro S' d' acts2 ⟨i, hi, hr, hS⟩
    subst hS
    have ei : i = N := by
      rcases Nat.lt_or_ge i N with h | h
      · rw [show N - i = (N - (i + 1)) + 1 by omega, List.range'_succ] at hr
        cases hr
      · omega
    subst ei
    simp only [wp_pure']
    exact q _ _
/-- what 'arrayOver' of rows of ints says -/
theorem gd_over {args : Array Value} {first s : State} {o : Option Outcome} {idx : List Nat} (h : (Cond.arrayOver (.array .int)).holds args first o s idx = true) : ∃ cI cA kA, s.vm.findClass (FieldType.array .int).toString = some cI ∧ s.vm.classes[cA]? = some kA ∧ kA.kind = .array cI (.array .int) ∧ s.vm.findClass ("[" ++ (FieldType.array .int).toString) = some cA := by
  simp only [Cond.holds, Cond.value, beq_iff_eq] at h
  obtain ⟨cI, h1, h2⟩ := Option.bind_eq_some_iff.mp h
  obtain ⟨cA, h3, h4⟩ := Option.bind_eq_some_iff.mp h2
  obtain ⟨kA, h5, h6⟩ := Option.map_eq_some_iff.mp h4
  obtain ⟨lt, h7, -⟩ := Array.findIdx?_eq_some_iff_getElem.mp h3
  obtain ⟨lt2, h8⟩ := Array.getElem?_eq_some_iff.mp h5
  rw [h8] at h7
  cases hk : kA.kind with
  | array comp ty =>
    rw [hk] at h6 h7
    simp only [beq_iff_eq, Bool.and_eq_true, decide_eq_true_eq] at h6 h7
    exact ⟨cI, cA, kA, h1, h5, by rw [hk, h7, h6.1], h6.2⟩
  | _ =>
    rw [hk] at h6
    cases h6
/-- the instruction itself -/
theorem gd_step (X : Stand p l e R s m args below meth c T locs cells slots) (hx : p.tables.exec = Jvm.exec) {own : String} {index : Nat} (ho : s.vm.findClass own = some m.cls) (hl : (Cond.classLink own index ("[" ++ (FieldType.array .int).toString)).before args s = true) (hv : (Cond.arrayOver (.array .int)).before args s = true) (ha : (Cond.arrayClass .int).before args s = true) {g : JFrame} (hg : g.method = m) (hd : decode c.code g.pc = .ok (.multianewarray index 2, 4)) {n k : Int32} {rest : List Value} (hs : g.stack = .int k :: .int n :: rest) (hn : ¬ n < 0) (hk : ¬ k < 0) (b1 : n.toNatClampNeg * 4 ≤ 536870912) (b2 : k.toNatClampNeg * 4 ≤ 536870912) (hC : cells + (1 + n.toNatClampNeg) ≤ R.cells) (hS : slots + (n.toNatClampNeg + n.toNatClampNeg * k.toNatClampNeg) ≤ R.slots) : ∃ (vm₁ : Vm) (cA cI : ClassId), s.vm.findClass ("[" ++ (FieldType.array .int).toString) = some cA ∧ s.vm.findClass (FieldType.array .int).toString = some cI ∧ Stand p l e R s m args below meth c (gd_S (T.setVm vm₁) cA cI n.toNatClampNeg k.toNatClampNeg n.toNatClampNeg) locs (cells + 1 + n.toNatClampNeg) (slots + n.toNatClampNeg + n.toNatClampNeg * k.toNatClampNeg) ∧ ∀ t, Steps p.tables e below ((gd_S (T.setVm vm₁) cA cI n.toNatClampNeg k.toNatClampNeg n.toNatClampNeg).setTop { g with pc := g.pc + 4, stack := .ref T.heap.size :: rest }) t → Steps p.tables e below (T.setTop g) t := by
  subst hg
  obtain ⟨cI, cA, kA, fI, qA, qA2, fA⟩ := gd_over hv
  obtain ⟨cI', kI, cc, fI', qI, qI2⟩ := Cond.arrayClass_spec ha
  cases Option.some.inj (fI'.symm.trans fI)
  obtain ⟨c0, fc, hcl⟩ := Cond.classLink_spec ho hl e.platform (by rw [X.admits.platform])
  cases Option.some.inj (fA.symm.trans fc)
  obtain ⟨hg₁, hw, hr⟩ := State.classEntry (e := e) X.warmed hcl
  generalize T.vm.noted g.method.cls index (.cls cA) = vm₁ at hg₁ hw hr
  obtain ⟨kA₁, hA, eA⟩ := hw.alike.2.2 _ _ qA
  obtain ⟨kI₁, hI, eI⟩ := hw.alike.2.2 _ _ qI
  have XF := gd_X (X.noted hw) cA cI n.toNatClampNeg k.toNatClampNeg n.toNatClampNeg
  obtain ⟨r1, r2⟩ := X.roomAbove hC hS
  refine ⟨vm₁, cA, cI, fA, fI, XF, fun t ht => ?_⟩
  have l1 : ¬ n.toNatClampNeg > e.platform.arrayLengthLimit := by rw [Launch.admits_arrayLengthLimit X.admits]; omega
  have l2 : ¬ n.toNatClampNeg * componentBytes (.array .int) > e.platform.maxHeapBytes := by
    rw [Launch.admits_maxHeapBytes X.admits]
    show ¬ n.toNatClampNeg * 4 > 536870912
    omega
  have l3 : ¬ k.toNatClampNeg > e.platform.arrayLengthLimit := by rw [Launch.admits_arrayLengthLimit X.admits]; omega
  have l4 : ¬ k.toNatClampNeg * componentBytes .int > e.platform.maxHeapBytes := by
    rw [Launch.admits_maxHeapBytes X.admits]
    show ¬ k.toNatClampNeg * 4 > 536870912
    omega
  jvm_step X.here [hx, hd]
  simp only [multianewarray.sem, wp_bind', W.resolveClassAt_links (State.method?_setTop g X.here.top) hg₁]
  rw [W.popN, if_neg (by decide)]
  refine ⟨g, State.topJava?_setTop' (s := T.setVm vm₁) g X.here.top, [.int n, .int k], rest, rfl, hs, ?_⟩
  simp only [List.mapM_cons, List.mapM_nil, wp_bind', wp_pure']
  refine gd_make (kA := kA₁) (kI := kI₁) (cc := cc) hA (by rw [eA]; exact qA2) hI (by rw [eI]; exact qI2) hn hk l1 l2 l3 l4 (by show T.heap.size + 1 + _ ≤ _; omega) (by show T.slotsUsed + _ + _ ≤ _; omega) (fun d' acts' => ?_)
  rw [show ((T.setTop g).setVm vm₁).setTop { g with stack := rest } = (T.setVm vm₁).setTop { g with stack := rest } by show ((T.setVm vm₁).setTop g).setTop _ = _; rw [State.setTop_setTop], gd_top]
  simp only [wp_bind', W.mark, W.pushRef, State.topJava?_setTop' _ XF.here.top, Option.some.injEq, exists_eq_left', State.setTop_setTop, State.heap_setTop]
  intro acts'
  simp [jvm, XF.here.top]
  exact ht
end GRID
