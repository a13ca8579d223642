/-! SOUNDNESS: the step, the call, the whole -/
theorem KS.to {G : gX} {s U : State} {H : Heap} {locs : List Loc} (h : KS G s s.heap) (hW : s.WarmedH U.vm) (hS : va_S (AA G) s.heap H locs) (hU : U.heap = H) : KS G U U.heap := by
  obtain ⟨k1, k2, k3, k4, k5, k6, k7, k8, k9, k10, k11, k12, k13, k14⟩ := h
  have al := hW.alike
  subst hU
  refine ⟨k1.moved al, (k2.moved al).kept hS.2.1, (k3.moved al).kept hS.2.1, k4, (k5.moved al).kept hS.2.1, k6.warm hW, k7.warm hW, (k8.moved al).kept ?_, k9, fun q hq => (k10 q hq).warmM hW, k11.moved al, over_moved al k12, k13, Nat.le_trans k14 hS.1⟩
  have := k9 0 (by omega)
  exact hS.2.1 _ (Nat.lt_of_lt_of_le this k14) (Nat.not_le.mpr this)
theorem KS.calling {G : gX} {U : State} {g : JFrame} {mk : MethodId} {a : Array Value} (h : KS G U U.heap) : KS G (U.calling g mk a) (U.calling g mk a).heap := by
  obtain ⟨k1, k2, k3, k4, k5, k6, k7, k8, k9, k10, k11, k12, k13, k14⟩ := h
  have al : U.vm.Alike (U.calling g mk a).vm := Vm.Alike.refl U.vm
  refine ⟨va_K.moved al k1, va_Z.moved al k2, va_Z.moved al k3, k4, vk_S.moved al k5, vk_R.same (u := U) rfl k6, vk_R.same (u := U) rfl k7, va_X.moved al k8, k9, fun q hq => va_Nw.same (u := U) rfl rfl (k10 q hq), va_AO.moved al k11, over_moved al k12, k13, k14⟩
def PcD (G : gX) (as : List Value) (h : aH) : Array Value → State → Prop := va_Pc (as.map (cv G)) (fun U => KS G U U.heap ∧ WD G h U.heap)
def QcD (G : gX) (hE : aH) (r : Option Value) : Array Value → State → Outcome → State → Prop := fun _ st oc t => oc = .returned (r.map (cv G)) ∧ WD G hE t.heap ∧ st.heap.size ≤ t.heap.size ∧ ∀ q : Nat, q < st.heap.size → ¬ AA G q → t.heap[q]? = st.heap[q]?
theorem PcD_blind (G : gX) (as : List Value) (h : aH) : FrameBlind (PcD G as h) := fun a U g mk q => ⟨q.1, KS.calling q.2.1, q.2.2⟩
theorem wAll_good {w : Cond} (h : w ∈ wAll) : goodWord w = true := (List.mem_filter.mp h).2
theorem mW_good {y : Nat} (h0 : 0 < y) (h1 : y < 270) : GoodIn wAll (mW y) := by
  intro w hw
  rcases List.mem_cons.mp hw with e | e
  · subst e
    exact ⟨wAll_in (m_ok y h0 h1).1 rfl, good_of_word rfl⟩
  · exact ⟨e, good_of_word (wAll_good e)⟩
theorem y_desc {y : Nat} (h1 : y < 270) : (mnm y).cls ≠ "java/lang/invoke/MethodHandle" ∧ (mnm y).cls ≠ "java/lang/invoke/VarHandle" ∧ (parseMethodDescriptor (mnm y).desc).map (fun d => d.parameters.length) = some (mnp y) := by
  obtain ⟨a, b⟩ := my_lt y h1
  obtain ⟨-, c1, c2⟩ := o_ok _ b
  exact ⟨c1, c2, d_ok _ a⟩
def ckOps : List Nat := [1, 2, 3, 4, 18, 19, 20, 21, 22, 25, 46, 47, 50, 51, 54, 55, 58, 79, 80, 83, 84, 85, 87, 89, 92, 117, 132, 133, 136, 148, 153, 159, 167, 170, 172, 173, 176, 177, 178, 179, 180, 1180, 2180, 3180, 4180, 181, 5181, 1181, 2181, 182, 1182, 2182, 3182, 183, 184, 187, 188, 189, 190, 197, 198, 201, 202, 203, 204]
theorem ckI_ops {y pc : Nat} {i : aI} (h : ckI y pc i = true) : ckOps.contains i.1 = true := by
  unfold ckI at h
  split at h
  all_goals first
    | (rename_i e; rw [e]; rfl)
    | cases h
section SND7
variable {G : gX} {p : Program} {l : Launch} {e : Env} {R : Room} {s : State} {m : MethodId} {args : Array Value} {below : List Frame} {meth : Method} {c : Code} {Q : State → Prop} {y n0 z0 : Nat}
variable {pc nx a b pc2 : Nat} {v : Int} {ts : List (Int × Nat)} {ls ls2 st st2 : List Value} {h h2 : aH}
theorem A_step {i : aI} (C : Cx G p R s m args meth c y) (h0 : n0 ≤ gN h ∧ z0 ≤ gZ h) (hR : gN h2 - n0 ≤ R.cells ∧ gZ h2 - z0 ≤ R.slots) (hk : ckI y pc i = true) (hs : sem i (pc, ls, st) h = some (.inl ((pc2, ls2, st2), h2))) (k : Atx G p l e R s m args below meth c Q y n0 z0 h2 pc2 ls2 st2) : Atx G p l e R s m args below meth c Q y n0 z0 h pc ls st := by
  have hm := sem_mono hs
  have hR0 : gN h - n0 ≤ R.cells ∧ gZ h - z0 ≤ R.slots := by omega
  have ho := ckI_ops hk
  obtain ⟨op, nx, a, b, v, ts⟩ := i
  by_cases q1 : op = 1
  · subst q1
    exact A_1 C  hk hs k
  by_cases q2 : op = 2
  · subst q2
    exact A_2 C  hk hs k
  by_cases q3 : op = 3
  · subst q3
    exact A_3 C  hk hs k
  by_cases q4 : op = 4
  · subst q4
    exact A_4 C  hk hs k
  by_cases q18 : op = 18
  · subst q18
    exact A_18 C  hk hs k
  by_cases q19 : op = 19
  · subst q19
    exact A_19 C  hk hs k
  by_cases q20 : op = 20
  · subst q20
    exact A_20 C  hk hs k
  by_cases q21 : op = 21
  · subst q21
    exact A_21 C  hk hs k
  by_cases q22 : op = 22
  · subst q22
    exact A_22 C  hk hs k
  by_cases q25 : op = 25
  · subst q25
    exact A_25 C  hk hs k
  by_cases q46 : op = 46
  · subst q46
    exact A_46 C  hk hs k
  by_cases q47 : op = 47
  · subst q47
    exact A_47 C  hk hs k
  by_cases q50 : op = 50
  · subst q50
    exact A_50 C  hk hs k
  by_cases q51 : op = 51
  · subst q51
    exact A_51 C  hk hs k
  by_cases q54 : op = 54
  · subst q54
    exact A_54 C  hk hs k
  by_cases q55 : op = 55
  · subst q55
    exact A_55 C  hk hs k
  by_cases q58 : op = 58
  · subst q58
    exact A_58 C  hk hs k
  by_cases q79 : op = 79
  · subst q79
    exact A_79 C  hk hs k
  by_cases q80 : op = 80
  · subst q80
    exact A_80 C  hk hs k
  by_cases q83 : op = 83
  · subst q83
    exact A_83 C  hk hs k
  by_cases q84 : op = 84
  · subst q84
    exact A_84 C  hk hs k
  by_cases q85 : op = 85
  · subst q85
    exact A_85 C  hk hs k
  by_cases q87 : op = 87
  · subst q87
    exact A_87 C  hk hs k
  by_cases q89 : op = 89
  · subst q89
    exact A_89 C  hk hs k
  by_cases q92 : op = 92
  · subst q92
    exact A_92 C  hk hs k
  by_cases q117 : op = 117
  · subst q117
    exact A_117 C  hk hs k
  by_cases q132 : op = 132
  · subst q132
    exact A_132 C  hk hs k
  by_cases q133 : op = 133
  · subst q133
    exact A_133 C  hk hs k
  by_cases q136 : op = 136
  · subst q136
    exact A_136 C  hk hs k
  by_cases q148 : op = 148
  · subst q148
    exact A_148 C  hk hs k
  by_cases q153 : op = 153
  · subst q153
    exact A_153 C  hk hs k
  by_cases q159 : op = 159
  · subst q159
    exact A_159 C  hk hs k
  by_cases q167 : op = 167
  · subst q167
    exact A_167 C  hk hs k
  by_cases q170 : op = 170
  · subst q170
    exact A_170 C  hk hs k
  by_cases q172 : op = 172
  · subst q172
    exact absurd hs (by simp only [sem]; (repeat' split) <;> (intro z; cases z))
  by_cases q173 : op = 173
  · subst q173
    exact absurd hs (by simp only [sem]; (repeat' split) <;> (intro z; cases z))
  by_cases q176 : op = 176
  · subst q176
    exact absurd hs (by simp only [sem]; (repeat' split) <;> (intro z; cases z))
  by_cases q177 : op = 177
  · subst q177
    exact absurd hs (by simp only [sem]; (repeat' split) <;> (intro z; cases z))
  by_cases q178 : op = 178
  · subst q178
    exact A_178 C  hk hs k
  by_cases q179 : op = 179
  · subst q179
    exact A_179 C  hk hs k
  by_cases q180 : op = 180
  · subst q180
    exact A_180 C  hk hs k
  by_cases q1180 : op = 1180
  · subst q1180
    exact A_1180 C  hk hs k
  by_cases q2180 : op = 2180
  · subst q2180
    exact A_2180 C  hk hs k
  by_cases q3180 : op = 3180
  · subst q3180
    exact A_3180 C  hk hs k
  by_cases q4180 : op = 4180
  · subst q4180
    exact A_4180 C  hk hs k
  by_cases q181 : op = 181
  · subst q181
    exact A_181 C  hk hs k
  by_cases q5181 : op = 5181
  · subst q5181
    exact A_5181 C  hk hs k
  by_cases q1181 : op = 1181
  · subst q1181
    exact A_1181 C  hk hs k
  by_cases q2181 : op = 2181
  · subst q2181
    exact A_2181 C  hk hs k
  by_cases q182 : op = 182
  · subst q182
    exact absurd hs (by simp only [sem]; (repeat' split) <;> (intro z; cases z))
  by_cases q1182 : op = 1182
  · subst q1182
    exact absurd hs (by simp only [sem]; (repeat' split) <;> (intro z; cases z))
  by_cases q2182 : op = 2182
  · subst q2182
    exact absurd hs (by simp only [sem]; (repeat' split) <;> (intro z; cases z))
  by_cases q3182 : op = 3182
  · subst q3182
    exact absurd hs (by simp only [sem]; (repeat' split) <;> (intro z; cases z))
  by_cases q183 : op = 183
  · subst q183
    exact A_183 C  hk hs k
  by_cases q184 : op = 184
  · subst q184
    exact A_184 C  hk hs k
  by_cases q187 : op = 187
  · subst q187
    exact A_187 C h0 hR hk hs k
  by_cases q188 : op = 188
  · subst q188
    exact A_188 C h0 hR hk hs k
  by_cases q189 : op = 189
  · subst q189
    exact A_189 C h0 hR hk hs k
  by_cases q190 : op = 190
  · subst q190
    exact A_190 C  hk hs k
  by_cases q197 : op = 197
  · subst q197
    exact A_197 C h0 hR hk hs k
  by_cases q198 : op = 198
  · subst q198
    exact A_198 C  hk hs k
  by_cases q201 : op = 201
  · subst q201
    exact A_201 C hR0 hk hs k
  by_cases q202 : op = 202
  · subst q202
    exact A_202 C hR0 hk hs k
  by_cases q203 : op = 203
  · subst q203
    exact A_203 C hR0 hk hs k
  by_cases q204 : op = 204
  · subst q204
    exact A_204 C hR0 hk hs k
  have ho : ckOps.contains op = true := ho
  simp only [ckOps, List.contains_cons, List.contains_nil, Bool.or_eq_true, beq_iff_eq, Bool.or_false, q1, q2, q3, q4, q18, q19, q20, q21, q22, q25, q46, q47, q50, q51, q54, q55, q58, q79, q80, q83, q84, q85, q87, q89, q92, q117, q132, q133, q136, q148, q153, q159, q167, q170, q172, q173, q176, q177, q178, q179, q180, q1180, q2180, q3180, q4180, q181, q5181, q1181, q2181, q182, q1182, q2182, q3182, q183, q184, q187, q188, q189, q190, q197, q198, q201, q202, q203, q204, or_self, false_or, or_false, Bool.false_eq_true] at ho
/-- behind a call -/
theorem A_back {mc ms : Nat} {st3 : List Value} {r2 : Option Value} {pc3 : Nat} (h0 : n0 ≤ gN h ∧ z0 ≤ gZ h) (hc : gN h ≤ gN h2 ∧ gZ h ≤ gZ h2) (emc : mc = gN h2 - gN h) (ems : ms = gZ h2 - gZ h) (k : Atx G p l e R s m args below meth c Q y n0 z0 h2 pc3 ls (r2.toList ++ st3)) {H : Heap} {locs : List Loc} {lc : Array Slot} {stc : List Value} (hw : WD G h H) (hS : va_S (AA G) s.heap H locs) (hL : LRx G ls lc (mml y)) (hp3 : pc3 = pc + 3) {aa : Array Value}
    (hrun : va_Run p l e R s m args below meth c H locs (gN h - n0) (gZ h - z0) mc ms (F0 m pc lc stc) (st3.map (cv G)) (QcD G h2 r2 aa) (AA G)) : W p l e R s m args below meth c H locs (gN h - n0) (gZ h - z0) Q (F0 m pc lc stc) := by
  intro T hT X
  obtain ⟨v, st₀, t, T', L, g0, X', hLo, e1, e2, ⟨hv, hWD, hz, hq⟩, step⟩ := hrun T hT X
  cases hv
  subst emc
  subst ems
  subst hp3
  have q1 : gN h - n0 + (gN h2 - gN h) = gN h2 - n0 := by omega
  have q2 : gZ h - z0 + (gZ h2 - gZ h) = gZ h2 - z0 := by omega
  rw [q1, q2] at X'
  rw [g0] at hz hq
  have hS1 : va_S (AA G) s.heap T'.heap (locs ++ L) := ⟨by rw [e1]; exact Nat.le_trans hS.1 hz, fun q h1 h2 => by rw [e1, hq q (Nat.lt_of_lt_of_le h1 hS.1) h2]; exact hS.2.1 q h1 h2, fun q hq => by
    rcases List.mem_append.mp hq with z | z
    · exact hS.2.2 q z
    · exact hLo q z⟩
  obtain ⟨t2, a1, b1⟩ := k T'.heap (locs ++ L) lc (by rw [e1]; exact hWD) hS1 hL T' rfl X'
  refine ⟨t2, step t2 ?_, b1⟩
  have e9 : (r2.map (cv G)).toList ++ st3.map (cv G) = (r2.toList ++ st3).map (cv G) := by cases r2 <;> rfl
  show Steps p.tables e below (T'.setTop { F0 m pc lc stc with pc := pc + 3, stack := (r2.map (cv G)).toList ++ st3.map (cv G) }) t2
  rw [e9]
  exact a1
theorem tkA_s {n : Nat} {st as r : List Value} (h : tkA n st = some (as, r)) : st = as.reverse ++ r ∧ as.length = n := by
  unfold tkA at h
  split at h
  · cases h
  · rename_i hl
    cases h
    refine ⟨?_, ?_⟩
    · rw [List.reverse_reverse, List.take_append_drop]
    · rw [List.length_reverse, List.length_take]
      omega
end SND7
