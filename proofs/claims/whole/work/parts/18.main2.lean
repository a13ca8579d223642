/-! SOUNDNESS: the step, the call, the whole -/
theorem aO_moved {u U : State} (hvm : u.vm.Alike U.vm) (h : (Cond.arrayOver (.array .int)).before #[] u = true) : (Cond.arrayOver (.array .int)).before #[] U = true := by
  obtain ⟨comp, c, k, h1, h2, h3, h4, h5⟩ := arrayOverA_spec h
  obtain ⟨k', hk', he⟩ := hvm.2.2 _ _ h3
  have hi : (U.vm.classes.findIdx? fun (x : Class) => match x.kind with | .array component _ => component == comp | _ => false) = some c := by
    rw [← va_idx_bare]
    first | rw [hvm.bare_eq] | rw [← hvm.bare_eq]
    rw [va_idx_bare]
    exact h2
  have hkind : k'.kind = .array comp (.array .int) := by rw [he]; exact h4
  have f1 : U.vm.findClass (FieldType.array .int).toString = some comp := by rw [hvm.findClass]; exact h1
  have f2 : U.vm.findClass ("[" ++ (FieldType.array .int).toString) = some c := by rw [hvm.findClass]; exact h5
  unfold Cond.before Cond.holds
  simp only [Cond.value]
  rw [f1, Option.bind_some]
  refine (congrArg (fun o : Option Nat => (o.bind (fun c => (U.vm.classes[c]?).map fun (k : Class) => match k.kind with | .array _ ty => decide (ty = FieldType.array .int) && decide (U.vm.findClass ("[" ++ (FieldType.array .int).toString) = some c) | _ => false) == some true)) hi).trans ?_
  simp [hk', hkind, f2]
theorem KS.to {G : gX} {s U : State} {H : Heap} {locs : List Loc} (h : KS G s s.heap) (hW : s.WarmedH U.vm) (hS : va_S (AA G) s.heap H locs) (hU : U.heap = H) : KS G U U.heap := by
  obtain ⟨k1, k2, k3, k4, k5, k6, k7, k8, k9, k10, k11, k12, k13, k14⟩ := h
  have al := hW.alike
  subst hU
  refine ⟨k1.moved al, (k2.moved al).kept hS.2.1, (k3.moved al).kept hS.2.1, k4, (k5.moved al).kept hS.2.1, k6.warm hW, k7.warm hW, (k8.moved al).kept ?_, k9, fun q hq => (k10 q hq).warmM hW, k11.moved al, aO_moved al k12, k13, Nat.le_trans k14 hS.1⟩
  have := k9 0 (by omega)
  exact hS.2.1 _ (Nat.lt_of_lt_of_le this k14) (Nat.not_le.mpr this)
theorem KS.calling {G : gX} {U : State} {g : JFrame} {mk : MethodId} {a : Array Value} (h : KS G U U.heap) : KS G (U.calling g mk a) (U.calling g mk a).heap := by
  obtain ⟨k1, k2, k3, k4, k5, k6, k7, k8, k9, k10, k11, k12, k13, k14⟩ := h
  have al : U.vm.Alike (U.calling g mk a).vm := Vm.Alike.refl U.vm
  refine ⟨va_K.moved al k1, va_Z.moved al k2, va_Z.moved al k3, k4, vk_S.moved al k5, vk_R.same (u := U) rfl k6, vk_R.same (u := U) rfl k7, va_X.moved al k8, k9, fun q hq => va_Nw.same (u := U) rfl rfl (k10 q hq), va_AO.moved al k11, aO_moved al k12, k13, k14⟩
def PcD (G : gX) (as : List Value) (h : aH) : Array Value → State → Prop := va_Pc (as.map (cv G)) (fun U => KS G U U.heap ∧ WD G h U.heap)
def QcD (G : gX) (hE : aH) (r : Option Value) : Array Value → State → Outcome → State → Prop := fun _ st oc t => oc = .returned (r.map (cv G)) ∧ WD G hE t.heap ∧ st.heap.size ≤ t.heap.size ∧ ∀ q : Nat, q < st.heap.size → ¬ AA G q → t.heap[q]? = st.heap[q]?
theorem PcD_blind (G : gX) (as : List Value) (h : aH) : FrameBlind (PcD G as h) := fun a U g mk q => ⟨q.1, KS.calling q.2.1, q.2.2⟩
theorem wAll_good {w : Cond} (h : w ∈ wAll) : goodWord w = true := (List.mem_filter.mp h).2
theorem mW_good {y : Nat} (h0 : 0 < y) (h1 : y < 265) : GoodIn wAll (mW y) := by
  intro w hw
  rcases List.mem_cons.mp hw with e | e
  · subst e
    exact ⟨wAll_in (m_ok y h0 h1).1 rfl, good_of_word rfl⟩
  · exact ⟨e, good_of_word (wAll_good e)⟩
theorem y_desc {y : Nat} (h1 : y < 265) : (mnm y).cls ≠ "java/lang/invoke/MethodHandle" ∧ (mnm y).cls ≠ "java/lang/invoke/VarHandle" ∧ (parseMethodDescriptor (mnm y).desc).map (fun d => d.parameters.length) = some (mnp y) := by
  obtain ⟨a, b⟩ := my_lt y h1
  obtain ⟨-, c1, c2⟩ := o_ok _ b
  exact ⟨c1, c2, d_ok _ a⟩
section SND7
variable {G : gX} {p : Program} {l : Launch} {e : Env} {R : Room} {s : State} {m : MethodId} {args : Array Value} {below : List Frame} {meth : Method} {c : Code} {Q : State → Prop} {y n0 z0 : Nat}
variable {pc nx a b pc2 : Nat} {v : Int} {ts : List (Int × Nat)} {ls ls2 st st2 : List Value} {h h2 : aH}
theorem A_step {i : aI} (C : Cx G p R s m args meth c y) (h0 : n0 ≤ gN h ∧ z0 ≤ gZ h) (hR : gN h2 - n0 ≤ R.cells ∧ gZ h2 - z0 ≤ R.slots) (hk : ckI y pc i = true) (hs : sem i (pc, ls, st) h = some (.inl ((pc2, ls2, st2), h2))) (k : At G p l e R s m args below meth c Q y n0 z0 h2 pc2 ls2 st2) : At G p l e R s m args below meth c Q y n0 z0 h pc ls st := by
  have hm := sem_mono hs
  have hR0 : gN h - n0 ≤ R.cells ∧ gZ h - z0 ≤ R.slots := by omega
  obtain ⟨op, nx, a, b, v, ts⟩ := i
  have hk0 := hk
  unfold ckI at hk
  split at hk
  all_goals first
    | (rename_i e; simp only at e; subst e; first
        | exact A_1 C hk0 hs k
        | exact A_2 C hk0 hs k
        | exact A_3 C hk0 hs k
        | exact A_4 C hk0 hs k
        | exact A_18 C hk0 hs k
        | exact A_19 C hk0 hs k
        | exact A_20 C hk0 hs k
        | exact A_21 C hk0 hs k
        | exact A_22 C hk0 hs k
        | exact A_25 C hk0 hs k
        | exact A_46 C hk0 hs k
        | exact A_47 C hk0 hs k
        | exact A_50 C hk0 hs k
        | exact A_51 C hk0 hs k
        | exact A_54 C hk0 hs k
        | exact A_55 C hk0 hs k
        | exact A_58 C hk0 hs k
        | exact A_79 C hk0 hs k
        | exact A_80 C hk0 hs k
        | exact A_83 C hk0 hs k
        | exact A_84 C hk0 hs k
        | exact A_85 C hk0 hs k
        | exact A_87 C hk0 hs k
        | exact A_89 C hk0 hs k
        | exact A_92 C hk0 hs k
        | exact A_117 C hk0 hs k
        | exact A_132 C hk0 hs k
        | exact A_133 C hk0 hs k
        | exact A_136 C hk0 hs k
        | exact A_148 C hk0 hs k
        | exact A_153 C hk0 hs k
        | exact A_159 C hk0 hs k
        | exact A_167 C hk0 hs k
        | exact A_170 C hk0 hs k
        | exact A_178 C hk0 hs k
        | exact A_179 C hk0 hs k
        | exact A_180 C hk0 hs k
        | exact A_1180 C hk0 hs k
        | exact A_2180 C hk0 hs k
        | exact A_3180 C hk0 hs k
        | exact A_4180 C hk0 hs k
        | exact A_181 C hk0 hs k
        | exact A_5181 C hk0 hs k
        | exact A_1181 C hk0 hs k
        | exact A_2181 C hk0 hs k
        | exact A_183 C hk0 hs k
        | exact A_184 C hk0 hs k
        | exact A_187 C h0 hR hk0 hs k
        | exact A_188 C h0 hR hk0 hs k
        | exact A_189 C h0 hR hk0 hs k
        | exact A_190 C hk0 hs k
        | exact A_197 C h0 hR hk0 hs k
        | exact A_198 C hk0 hs k
        | exact A_201 C hR0 hk0 hs k
        | exact A_202 C hR0 hk0 hs k
        | exact A_203 C hR0 hk0 hs k
        | exact A_204 C hR0 hk0 hs k)
    | (exfalso; rename_i e; simp only at e; subst e; simp only [sem] at hs; (repeat' split at hs) <;> cases hs; done)
    | (cases hk; done)
/-- behind a call -/
theorem A_back {mc ms : Nat} {st3 : List Value} {r2 : Option Value} {pc3 : Nat} (h0 : n0 ≤ gN h ∧ z0 ≤ gZ h) (hc : gN h ≤ gN h2 ∧ gZ h ≤ gZ h2) (emc : mc = gN h2 - gN h) (ems : ms = gZ h2 - gZ h) (k : At G p l e R s m args below meth c Q y n0 z0 h2 pc3 ls (r2.toList ++ st3)) {H : Heap} {locs : List Loc} {lc : Array Slot} {stc : List Value} (hw : WD G h H) (hS : va_S (AA G) s.heap H locs) (hL : LR G ls lc (mml y)) (hp3 : pc3 = pc + 3) {aa : Array Value}
    (hrun : va_Run p l e R s m args below meth c H locs (gN h - n0) (gZ h - z0) mc ms (F0 m pc lc stc) (st3.map (cv G)) (QcD G h2 r2 aa) (AA G)) : W p l e R s m args below meth c H locs (gN h - n0) (gZ h - z0) Q (F0 m pc lc stc) := by
  intro T hT X
  obtain ⟨v, st₀, t, T', L, g0, X', hLo, e1, e2, ⟨hv, hWD, hz, hq⟩, step⟩ := hrun T hT X
  cases hv
  subst emc
  subst ems
  subst hp3
  have q1 : gN h - n0 + (gN h2 - gN h) = gN h2 - n0 := by omega
  have q2 : gZ h - z0 + (gZ h2 - gZ h) = gZ h2 - z0 := by omega
  rw [q1, q2] at X'
  rw [g0] at hz hq
  have hS1 : va_S (AA G) s.heap T'.heap (locs ++ L) := ⟨by rw [e1]; exact Nat.le_trans hS.1 hz, fun q h1 h2 => by rw [e1, hq q (Nat.lt_of_lt_of_le h1 hS.1) h2]; exact hS.2.1 q h1 h2, fun q hq => by
    rcases List.mem_append.mp hq with z | z
    · exact hS.2.2 q z
    · exact hLo q z⟩
  obtain ⟨t2, a1, b1⟩ := k T'.heap (locs ++ L) lc (by rw [e1]; exact hWD) hS1 hL T' rfl X'
  refine ⟨t2, step t2 ?_, b1⟩
  have e : (r2.map (cv G)).toList ++ st3.map (cv G) = (r2.toList ++ st3).map (cv G) := by cases r2 <;> rfl
  show Steps p.tables e below (T'.setTop { F0 m pc lc stc with pc := pc + 3, stack := (r2.map (cv G)).toList ++ st3.map (cv G) }) t2
  rw [e]
  exact a1
theorem tkA_s {n : Nat} {st as r : List Value} (h : tkA n st = some (as, r)) : st = as.reverse ++ r ∧ as.length = n := by
  unfold tkA at h
  split at h
  · cases h
  · rename_i hl
    cases h
    refine ⟨?_, ?_⟩
    · rw [List.reverse_reverse, List.take_append_drop]
    · rw [List.length_reverse, List.length_take]
      omega
end SND7
