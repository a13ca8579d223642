/-! FROM THE LAW'S ENTRY TO THE ABSTRACT MACHINE (R_law .. lw_ret and lw_walk .. i_vc_of began as the kit's skeleton) -/
def R_law : String := "ByThePoundLaw"
def lw_P (b : Addr) (xs : List Int32) (args : Array Value) (s : State) : Prop := args = #[.ref b] ∧ s.IntsAt b xs ∧ xs.length ≤ 3072 ∧ (Jvm.Cond.and given_1 narrow_1).before args s = true
def lw_Q (_ : Array Value) (s : State) (o : Outcome) (t : State) : Prop := o = .returned (some (.int 1)) ∧ Framed s o t [] 600000 7302250
def lw_Z (below : List Frame) (a : Array Value) (s : State) : State → Prop := fun t => ∃ o, t.status = .running ∧ Ended t below o ∧ lw_Q a s o t
/-- the law's own end, with 1 on the stack, nothing written that was there before, its room as the claim has it -/
theorem lw_ret {p : Program} {l : Launch} {e : Env} {s : State} {m : MethodId} {below : List Frame} {meth : Method} {c : Code} {b : Nat} (hx : p.tables.exec = Jvm.exec) (hb : c.code = code) (hr : meth.sig.returnType = ret) (hlocks : meth.locks = false) {pc : Nat} {H : Heap} {ls : Array Slot} (hdg : decode code pc = .ok (.ireturn, 1)) : W p l e room_1 s m #[Value.ref b] below meth c H [] 600000 7302250 (lw_Z below #[Value.ref b] s) (F0 m pc ls [.int 1]) := by
  intro T hT X
  obtain ⟨fs, hret, hrun, hended, hW, hframe⟩ := X.leave (v := some (.int 1)) (hlocks := hlocks) (fun h => by rw [hr] at h; cases h)
  have hmeth' : T.vm.method? m = some meth := X.method'
  refine ⟨T.setFrames fs, ?_, .returned (some (.int 1)), hrun, hended, rfl, ⟨_, rfl⟩, hW, hframe⟩
  jvm_step X.here [X.here.top, hx, hb, hdg, hmeth', hr, ret, narrow_b1]
  (try refine ⟨rfl, ?_⟩); (try refine ⟨rfl, ?_⟩)
  first | (intro acts; rw [hret _ acts rfl rfl rfl]) | rw [hret _ _ rfl rfl rfl]
  exact Steps.refl _
/-- what holds at the law's entry: the machine, the code, the tables' words (any of lw_tbl by 'hts w (by decide +kernel)'), the script of L ints xs at the cell b, what the Statement gives of the start (any of its parts by flat_of_before) -/
def lw_At (p : Program) (s : State) (m : MethodId) (meth : Method) (c : Code) (b L : Nat) (xs : Nat → Int32) : Prop :=
  p.tables.exec = Jvm.exec ∧ c.code = code ∧ meth.sig.returnType = ret ∧ c.maxLocals = 4 ∧ s.vm.findClass R_law = some m.cls ∧ (∀ w ∈ lw_tbl, w.before #[Value.ref b] s = true) ∧ va_X b L xs s s.heap ∧ b < s.heap.size ∧ meth.locks = false ∧ (Jvm.Cond.and given_1 narrow_1).before #[Value.ref b] s = true ∧ meth.name = "law"
/-- the heap at the law's entry: the script, the two String constants and their bytes -/
def h_0 (L : Nat) (xs : Nat → Int32) : aH := ((fun k => match k with | 0 => (7, L) | 1 => (8, 0) | 2 => (9, 71) | 3 => (8, 1) | 4 => (9, 11) | _ => (99, 0)), (fun k j => match k with | 0 => xs j | 2 => (sby.getD 0 []).getD j 0 | 4 => (sby.getD 1 []).getD j 0 | _ => 0), (fun _ _ => 0), (fun _ _ => none), (fun _ => none), 5, 0)
/-- what is left to show, of the abstract machine alone -/
def LawOk : Prop := ∀ (L : Nat) (xs : Nat → Int32), L ≤ 3072 → Wp 1000 0 0 [.ref 0, .float 0, .float 0, .float 0] [] (h_0 L xs) (fun r h => r = some (.int (iI 1)) ∧ gN h ≤ 600005 ∧ gZ h ≤ 7302250)
theorem aC_of {ty : FieldType} {a : Array Value} {s : State} (h : (Cond.arrayClass ty).before a s = true) : ∃ cA : ClassId, ArrOfT s cA ty ∧ s.vm.findClass ("[" ++ ty.toString) = some cA := by
  simp only [Cond.before, Cond.holds, Cond.value, beq_iff_eq] at h
  cases hc : s.vm.findClass ("[" ++ ty.toString) with
  | none => simp [hc] at h
  | some cA =>
    simp only [hc, Option.bind_some, Option.map_eq_some_iff] at h
    obtain ⟨k, hk, hb⟩ := h
    cases hkind : k.kind with
    | array comp t2 =>
      rw [hkind] at hb
      have hb : t2 = ty := by simpa using hb
      subst hb
      exact ⟨cA, fun n z => ⟨fun k h => (by cases h), k, hk, comp, hkind⟩, rfl⟩
    | _ => rw [hkind] at hb; simp at hb
theorem aL_of {a : Array Value} {s : State} (h : (Cond.arrayOver (.object "ByThePound$Law")).before a s = true) : ∃ cA : ClassId, ArrOfT s cA (.object "ByThePound$Law") ∧ va_RA s cA (.object "ByThePound$Law") := by
  obtain ⟨comp, c, k, h1, h2, h3, h4, h5⟩ := Cond.arrayOver_spec h
  exact ⟨c, fun n z => ⟨fun k h => (by cases h), k, h3, comp, h4⟩, k, comp, h3, h4, h1, h5⟩
theorem aA_of {a : Array Value} {s : State} (h : (Cond.arrayOver (.array .int)).before a s = true) : ∃ cA : ClassId, ArrOfT s cA (.array .int) ∧ va_RA s cA (.array .int) := by
  obtain ⟨comp, c, k, h1, h2, h3, h4, h5⟩ := arrayOverA_spec h
  exact ⟨c, fun n z => ⟨fun k h => (by cases h), k, h3, comp, h4⟩, h5⟩
def tm01 : Nat → Term := fun i => if i = 0 then .string "ByThePound$Tape" 69 else .string "ByThePound$Tape" 59
theorem mn_all : ∀ q ∈ MNd, Cond.methodLinkNest (onm q.1) q.2.1 (mnm q.2.2.1) "ByThePound" ∈ lw_tbl := by
  have h : MNd.all (fun q => hasW q.2.2.2 (.methodLinkNest (onm q.1) q.2.1 (mnm q.2.2.1) "ByThePound")) = true := by decide +kernel
  intro q hq
  exact hasW_in (List.all_eq_true.mp h q hq)
set_option maxRecDepth 100000 in
theorem K_start {p : Program} {s : State} {m : MethodId} {meth : Method} {c : Code} {b L : Nat} {xs : Nat → Int32} (hL : L ≤ 3072) (C0 : lw_At p s m meth c b L xs) : ∃ G : gX, KS G s s.heap ∧ xR G 0 = b ∧ xL G = L ∧ xS G = xs ∧ xB G = s.heap.size := by
  obtain ⟨hx, hb, hr, hml, hown, hts, hX, hbl, hlocks, hgv, hnm⟩ := C0
  have hs := flat_of_before _ hgv
  have hA : ∀ a : Nat, a < s.heap.size → ¬ (fun q : Nat => s.heap.size ≤ q) a := fun a h => Nat.not_le.mpr h
  have hK0 : ∀ ci, ∃ q : ClassId × (Nat → Nat), ci < 12 → u_Kn s (kC ci) (kT ci) (kN ci) q.1 q.2 := by
    intro ci
    by_cases h : ci < 12
    · obtain ⟨cC, iS, hq⟩ := u_known (C := kC ci) (T := kT ci) (N := kN ci) (n := kN ci) hts (in_u ci h) (hts _ (in_inst ci h).1)
      exact ⟨(cC, iS), fun _ => hq⟩
    · exact ⟨(default, fun _ => 0), fun h2 => absurd h2 h⟩
  obtain ⟨D, hD⟩ := Classical.axiomOfChoice hK0
  obtain ⟨a1, r1, n1⟩ := aC_of (hts _ sw_aint)
  obtain ⟨a2, r2, n2⟩ := aC_of (hts _ sw_aboolean)
  obtain ⟨a3, r3, n3⟩ := aC_of (hts _ sw_abyte)
  obtain ⟨a4, r4, n4⟩ := aC_of (hts _ sw_along)
  have wL : (Cond.arrayOver (.object "ByThePound$Law")).before #[Value.ref b] s = true := hts _ (by decide +kernel)
  have wA : (Cond.arrayOver (.array .int)).before #[Value.ref b] s = true := hts _ (by decide +kernel)
  obtain ⟨a5, r5, n5⟩ := aL_of wL
  obtain ⟨a6, r6, n6⟩ := aA_of wA
  have z1 : va_Z "java/lang/String" "COMPACT_STRINGS" "Z" (.int 1) (fun q : Nat => s.heap.size ≤ q) s s.heap := va_Zof (hts (.laysStatic "java/lang/String" "COMPACT_STRINGS" "Z") (by decide +kernel)) (hts (.initialized "java/lang/String") (by decide +kernel)) (va_eqt (hs (.eq (.static "java/lang/String" "COMPACT_STRINGS" "Z") (.int 1)) (by decide +kernel))) hA
  have z2 : va_Zq "jdk/internal/util/Preconditions" "SIOOBE_FORMATTER" "Ljava/util/function/BiFunction;" (fun q : Nat => s.heap.size ≤ q) s s.heap := va_Zqof (hts (.laysStatic "jdk/internal/util/Preconditions" "SIOOBE_FORMATTER" "Ljava/util/function/BiFunction;") (by decide +kernel)) (hts (.initialized "jdk/internal/util/Preconditions") (by decide +kernel)) (hs (.isRef (.static "jdk/internal/util/Preconditions" "SIOOBE_FORMATTER" "Ljava/util/function/BiFunction;")) (by decide +kernel)) hA
  obtain ⟨V, hV, z2⟩ : ∃ V : Value, (V = .null ∨ ∃ a, V = .ref a) ∧ va_Z "jdk/internal/util/Preconditions" "SIOOBE_FORMATTER" "Ljava/util/function/BiFunction;" V (fun q : Nat => s.heap.size ≤ q) s s.heap := by
    rcases z2 with h | ⟨t, h⟩
    · exact ⟨.null, Or.inl rfl, h⟩
    · exact ⟨.ref t, Or.inr ⟨t, rfl⟩, h⟩
  have i2 : ∀ i : Nat, i < 2 → i = 0 ∨ i = 1 := fun i h => by omega
  have e0 : (List.range 71).all (fun j => decide (Cond.eq (.elem (.field (tm01 0) "java/lang/String" "value" "[B") (.int (Int32.ofNat j))) (.int ((sby.getD 0 []).getD j 0)) ∈ flatC (Cond.and given_1 narrow_1))) = true := by decide +kernel
  have e1 : (List.range 11).all (fun j => decide (Cond.eq (.elem (.field (tm01 1) "java/lang/String" "value" "[B") (.int (Int32.ofNat j))) (.int ((sby.getD 1 []).getD j 0)) ∈ flatC (Cond.and given_1 narrow_1))) = true := by decide +kernel
  obtain ⟨adK, adV, hS, hev⟩ := vk_Sof (args := #[Value.ref b]) (s := s) (N := 2) (tm := tm01) (len := slen) (byt := sby) (A := fun q : Nat => s.heap.size ≤ q)
    (fun i hi => by rcases i2 i hi with rfl | rfl <;> decide)
    (fun i hi => by rcases i2 i hi with rfl | rfl <;> exact hs _ (by decide +kernel))
    (fun i hi => by rcases i2 i hi with rfl | rfl <;> exact hs _ (by decide +kernel))
    (fun i hi => by rcases i2 i hi with rfl | rfl <;> exact hs _ (by decide +kernel))
    (fun i hi => by rcases i2 i hi with rfl | rfl <;> exact hs _ (by decide +kernel))
    (fun i hi j hj => by
      rcases i2 i hi with rfl | rfl
      · exact hs _ (of_decide_eq_true (List.all_eq_true.mp e0 j (List.mem_range.mpr hj)))
      · exact hs _ (of_decide_eq_true (List.all_eq_true.mp e1 j (List.mem_range.mpr hj))))
    (fun i j hi hj hne => by
      rcases i2 i hi with rfl | rfl <;> rcases i2 j hj with rfl | rfl
      · exact absurd rfl hne
      · first | exact Or.inl (hs _ (by decide +kernel)) | exact Or.inr (hs _ (by decide +kernel))
      · first | exact Or.inl (hs _ (by decide +kernel)) | exact Or.inr (hs _ (by decide +kernel))
      · exact absurd rfl hne) hA
  have hR1 : vk_R "ByThePound$Tape" 69 tx0 (adK 0) s := vk_R.of (hts _ (by decide +kernel)) (hev 0 (by omega))
  have hR3 : vk_R "ByThePound$Tape" 59 tx1 (adK 1) s := vk_R.of (hts _ (by decide +kernel)) (hev 1 (by omega))
  obtain ⟨⟨_, _, _, _, kA0⟩, _, _, ⟨_, _, _, _, _, _, _, vA0⟩⟩ := hS.1 0 (by omega)
  obtain ⟨⟨_, _, _, _, kA1⟩, _, _, ⟨_, _, _, _, _, _, _, vA1⟩⟩ := hS.1 1 (by omega)
  have kA0 : adK 0 < s.heap.size := Nat.not_le.mp kA0
  have kA1 : adK 1 < s.heap.size := Nat.not_le.mp kA1
  have vA0 : adV 0 < s.heap.size := Nat.not_le.mp vA0
  have vA1 : adV 1 < s.heap.size := Nat.not_le.mp vA1
  refine ⟨(fun ci => (D ci).1, fun ci => (D ci).2, fun t => if t = 1 then a1 else if t = 2 then a2 else if t = 3 then a3 else if t = 4 then a4 else if t = 5 then a5 else a6, s.heap.size, fun k => if k = 0 then b else if k = 1 then adK 0 else if k = 2 then adV 0 else if k = 3 then adK 1 else adV 1, V, L, xs), ⟨⟨?_, ?_⟩, z1, z2, hV, ?_, hR1, hR3, hX, ?_, ?_, va_AO.of wL, over_moved (Vm.Alike.refl _) wA, by show L < 2 ^ 31; omega, Nat.le_refl _⟩, rfl, rfl, rfl, rfl⟩
  · intro ci q hq
    rcases Nat.lt_or_ge ci 12 with h | h
    · rw [kcl_eq ci h] at hq
      cases hq
      exact hD ci h
    · rw [List.getElem?_eq_none (by exact h)] at hq
      cases hq
  · intro k q hq
    match k, hq with
    | 0, hq => cases hq; exact ⟨r1, n1⟩
    | 1, hq => cases hq; exact ⟨r2, n2⟩
    | 2, hq => cases hq; exact ⟨r3, n3⟩
    | 3, hq => cases hq; exact ⟨r4, n4⟩
    | 4, hq => cases hq; exact ⟨r5, n5⟩
    | 5, hq => cases hq; exact ⟨r6, n6⟩
    | k + 6, hq => simp [tysG] at hq
  · refine ⟨fun i hi => ?_, fun i j hi hj e => ?_⟩
    · rcases i2 i hi with rfl | rfl
      · exact hS.1 0 (by omega)
      · exact hS.1 1 (by omega)
    · rcases i2 i hi with rfl | rfl <;> rcases i2 j hj with rfl | rfl
      · rfl
      · exact absurd (hS.2 0 1 (by omega) (by omega) e) (by decide)
      · exact absurd (hS.2 1 0 (by omega) (by omega) e) (by decide)
      · rfl
  · intro k hk
    show (if k = 0 then b else if k = 1 then adK 0 else if k = 2 then adV 0 else if k = 3 then adK 1 else adV 1) < s.heap.size
    repeat' split
    all_goals assumption
  · intro q hq
    exact va_Nw.of rfl (hts _ (mn_all q hq))
theorem WD_0 {G : gX} {L : Nat} {xs : Nat → Int32} {H : Heap} (h1 : xL G = L) (h2 : xS G = xs) (h3 : xB G = H.size) : WD G (h_0 L xs) H := by
  refine ⟨?_, Nat.le_refl _, fun k h5 hk => absurd hk (Nat.not_lt.mpr h5), fun k hk => ?_, ?_, ?_, rfl, rfl, fun _ => rfl, rfl, rfl, fun _ => rfl⟩
  · rw [h3]; rfl
  · match k, hk with
    | k + 5, _ => rfl
  · rw [h1]; rfl
  · intro j; rw [h2]; rfl
/-- the claim's walk, given the abstract machine's end -/
theorem whole_start (ok : LawOk) {p : Program} {e : Env} {s : State} {m : MethodId} {below : List Frame} {meth : Method} {c : Code} (l : Launch) {b L : Nat} {xs : Nat → Int32} (hL : L ≤ 3072) (C0 : lw_At p s m meth c b L xs) : W p l e room_1 s m #[Value.ref b] below meth c s.heap [] 0 0 (lw_Z below #[Value.ref b] s) (entryFrame m ([Value.ref b] : List Value).toArray 4) := by
  obtain ⟨G, K, eR, eL, eS, eB⟩ := K_start hL C0
  obtain ⟨hx, hb, hr, hml, hown, hts, hX, hbl, hlocks, hgv, hnm⟩ := C0
  obtain ⟨n, r, hE, hev, er, hc1, hc2⟩ := ok L xs hL
  subst er
  have hV : xV G = .null ∨ ∃ a, xV G = .ref a := K.2.2.2.1
  have C : Cx G p room_1 s m #[Value.ref b] meth c 0 := ⟨hx, hb, hml, hown, fun w hw => hts w (List.mem_filter.mp hw).1, hr, hlocks, hnm, K, by omega, Nat.le_of_ble_eq_true rfl, Nat.le_of_ble_eq_true rfl⟩
  have hcnt := ev_cnt _ _ _ _ _ _ _ hev
  have main := snd_main G l n 1000 0 0 _ _ _ _ _ hev p e room_1 s m #[Value.ref b] below meth c (lw_Z below #[Value.ref b] s) 5 0 C (Nat.le_of_ble_eq_true rfl) (Nat.le_of_ble_eq_true rfl) ⟨Nat.le_refl _, Nat.le_refl _⟩ ⟨by show gN hE - 5 ≤ 600000; omega, by show gZ hE - 0 ≤ 7302250; omega⟩ (fun pcr lsr hri => by
    intro H locs lc hw hS hLR
    refine va_forget (fun q hq => by have := hS.2.2 q hq; rw [← eB]; exact this) ?_
    refine W.widen (k := 600000) (n := 7302250) (by omega) (by omega) ?_
    exact lw_ret hx hb hr hlocks hri.1)
  have hl := LR_entry hV 0 [.ref 0] (Nat.le_of_ble_eq_true rfl)
  rw [lg_entry_eq]
  have e1 : ([Value.ref b] : List Value) = ([.ref 0] : List Value).map (cv G) := by
    show [Value.ref b] = [Value.ref (ga G 0)]
    rw [show ga G 0 = b from eR]
  have W1 := main s.heap [] _ (WD_0 eL eS eB) va_S.rf hl
  rw [← e1] at W1
  exact W1
set_option maxHeartbeats 4000000 in
theorem lw_walk (ok : LawOk) (l : Launch) (hflags : l.flags = flags0) (b : Addr) (xs : List Int32) : MetFree l x (headSpec (Jvm.Cond.code x code maxLocals ret :: tables_1) room_1) (lw_P b xs) (fun _ _ _ _ _ => True) lw_Q := by
  refine MetFree.of_bodyS (code := code) (maxLocals := maxLocals) (ret := ret) (by decide) ?_ ?_
  · intro args s m h hn
    obtain ⟨meth, c, h1, h2, h3, h4, h5, h6, -, -⟩ := Cond.code_spec hn (atoms_spec (ws := Jvm.Cond.code x code maxLocals ret :: tables_1) h _ List.mem_cons_self)
    exact ⟨meth, c, h1, h2, h3, h4, h5, h6⟩
  · intro p e s m args below meth c s₁ B hml0 hP _
    obtain ⟨rfl, hx, hbd, hgv⟩ := hP
    obtain ⟨scr, harrAt, hlist, hof, hsmall⟩ := hx
    obtain ⟨hcb, hkn, -, -⟩ := State.arrayAt?_spec harrAt
    have hown : s.vm.findClass R_law = some m.cls := findClass_of_methodNamed B.named
    have hts0 : ∀ c ∈ (Jvm.Cond.code x code maxLocals ret :: tables_1), c.before #[Value.ref b] s = true := atoms_spec (ws := Jvm.Cond.code x code maxLocals ret :: tables_1) B.pre
    have hts : ∀ w ∈ lw_tbl, w.before #[Value.ref b] s = true := k2_hts_sels lw_privs (fun w hw => hts0 w (List.mem_cons_of_mem _ hw)) lw_privs_ok
    have hml : c.maxLocals = 4 := B.maxLocals_eq (hts0 _ List.mem_cons_self)
    have X₀ : Stand p l e room_1 s m #[Value.ref b] below meth c s₁ [] 0 0 := Stand.of_body B
    have hh0 : s₁.heap = s.heap := by rw [B.state]; rfl
    have hsz : scr.slots.size = xs.length := by rw [← Array.length_toList, hlist, List.length_map]
    have hval : ∀ j : Nat, j < xs.length → scr.slots[j]? = some (.int (xs.getD j 0)) := fun j hj => by
      rw [← Array.getElem?_toList, hlist]
      simp [hj]
    have hbl : b < s.heap.size := (Array.getElem?_eq_some_iff.mp hcb).1
    have hX : va_X b xs.length (fun j => xs.getD j 0) s s.heap := ⟨scr, hcb, hof, hkn, hsz, hval⟩
    have K : W p l e room_1 s m #[Value.ref b] below meth c s₁.heap [] 0 0 (lw_Z below #[Value.ref b] s) (entryFrame m ([Value.ref b] : List Value).toArray 4) := by
      rw [hh0]
      exact whole_start ok l hbd ⟨B.exec, B.bytes, B.returns, hml, hown, hts, hX, hbl, B.notSynchronized, hgv, (name_of_methodNamed B.named B.method).1⟩
    obtain ⟨t, a1, o, b1, b2, b3⟩ := K s₁ rfl X₀
    exact ⟨t, o, a1, b1, b2, b3⟩
theorem lw_pre_spec {args : Array Value} {s : State} (h : (Jvm.Cond.and given_1 narrow_1).before args s = true) (hr : rest_1_c.before args s = true) : ∃ (b : Addr) (xs : List Int32), lw_P b xs args s := by
  have hs := flat_of_before _ h
  have hq := flat_of_before _ hr
  have hc : (Cond.count 1).before args s = true := hs _ (by decide +kernel)
  have harr : (Cond.arrayOf (.arg 0) .int).before args s = true := hs _ (by decide +kernel)
  have hle : (Cond.le (.length (.arg 0)) (.int 3072)).before args s = true := hs _ (by decide +kernel)
  have hlen : (Cond.isInt (.length (.arg 0))).before args s = true := hq _ (by decide +kernel)
  have hall : (Cond.all (.arg 0) (.isInt (.elem (.arg 0) (.index 0)))).before args s = true := hq _ (by decide +kernel)
  obtain ⟨b, xs, hb, hx⟩ := State.ints_of_pre rfl harr hlen hall
  have hsm : xs.length < 2 ^ 31 := hx.choose_spec.2.2.2
  have hev : (Term.length (.arg 0)).eval args s none [] s = some (.int xs.length.toInt32) := hx.length_eval hb
  have hv := Cond.le_ints hev (show (Term.int 3072).eval args s none [] s = some (.int 3072) from rfl)
  have hd : xs.length.toInt32 ≤ 3072 := by
    simpa [Cond.before, Cond.holds, hv] using hle
  have hN : xs.length ≤ 3072 := (Int32.ofNat_le_ofNat hsm (by decide)).mp (show Int32.ofNat xs.length ≤ Int32.ofNat 3072 from hd)
  exact ⟨b, xs, Cond.one_arg hc (show args[0]? = some (.ref b) from hb), hx, hN, h⟩
theorem lw_comes (ok : LawOk) (l : Launch) (hflags : l.flags = flags0) : Comes l x (Jvm.Cond.code x code maxLocals ret :: tables_1) room_1 (fun tb e args s => Calls_1 tb e args s ∧ rest_1 tb e args s ∧ Pre_1 tb e args s)
    (fun _ _ args s o t => lw_Q args s o t) := by
  intro p e ha hc hk s m args below hf hfit hheap happ hpre
  obtain ⟨b, xs, hP⟩ := lw_pre_spec hpre.2.2 hpre.2.1
  obtain ⟨k, o, h1, h2, h3, hQ⟩ := lw_walk ok l hflags b xs p e ha hc hk s m args below hf ((Spec.applies_iff_loose hf).mp happ).1 hP trivial
  exact ⟨k, o, h1, h2, h3, hQ⟩
theorem lw_frame {s t : State} {o : Outcome} {args : Array Value} (h : Framed s o t [] 600000 7302250) :
    Framed s o t (fieldLocs frame_1_writes args s ++ arrayLocs frame_1_arrays args s ++ staticLocs frame_1_statics s) 600000 7302250 := h
theorem lw_limb (ok : LawOk) (L : Cond) (hL : ∀ (args : Array Value) (s t : State), L.after args s (.returned (some (.int 1))) t = true) :
    ArmFor flags0 classFile x code maxLocals ret World_1 tables_1 room_1 Calls_1 rest_1 Pre_1
      (fun tb e a s o t => postC L tb e a s o t ∧ Framed s o t (fieldLocs frame_1_writes a s ++ arrayLocs frame_1_arrays a s ++ staticLocs frame_1_statics s) 600000 7302250) := by
  intro l hflags _ _ p e ha hc hk s m args below hf hfit hheap happ hpre
  obtain ⟨k, o, h1, h2, h3, rfl, hF⟩ := lw_comes ok l hflags p e ha hc hk s m args below hf hfit hheap happ hpre
  exact ⟨k, _, h1, h2, h3, hL args s _, lw_frame hF⟩
theorem i_vc_of (ok : LawOk) : Claimed_1_1 ∧ Claimed_1_2 := ⟨lw_limb ok limb_1_1 (fun args s t => by simp [limb_1_1, Cond.after, Cond.holds, Cond.value]), lw_limb ok limb_1_2 (fun args s t => Cond.after_iff.mpr (by
  first | (rw [show limb_1_2 = Cond.eq .result (.int 1) from rfl, Cond.eq_ints (x := 1) (y := 1) rfl rfl]; simp; done) | (simp [limb_1_2, Cond.value, Term.eval]; done)))⟩
