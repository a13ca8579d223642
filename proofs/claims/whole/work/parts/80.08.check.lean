/-! THE CHECK of the data against the bytes and the tables' words -/
def hasW (i : Nat) (w : Cond) : Bool := decide (tables_1[i]? = some w)
theorem hasW_in {i : Nat} {w : Cond} (h : hasW i w = true) : w ∈ lw_tbl := List.mem_append_right _ (List.mem_of_getElem? (of_decide_eq_true h))
def kcl (ci : Nat) : vw_C := kclL.getD ci ("", kT_0, 0)
def kC (ci : Nat) : String := (kcl ci).1
def kT (ci : Nat) : u_T := (kcl ci).2.1
def kN (ci : Nat) : Nat := (kcl ci).2.2
def fk (ci j : Nat) : Nat := (kfk.getD ci []).getD j 9
def kyt (ci : Nat) : Nat → FieldType := kty.getD ci kt_0
def flW (o idx ci j : Nat) : Cond := .fieldLink (onm o) idx (kT ci j).1 (kT ci j).2.1 (kT ci j).2.2.1
theorem FL_ok : FLd.all (fun q => hasW q.2.2.2.2 (flW q.1 q.2.1 q.2.2.1 q.2.2.2.1)) = true := by decide +kernel
def inFL (o idx ci j : Nat) : Bool := FLd.any (fun q => Nat.beq q.1 o && (Nat.beq q.2.1 idx && (Nat.beq q.2.2.1 ci && Nat.beq q.2.2.2.1 j)))
theorem inFL_w {o idx ci j : Nat} (h : inFL o idx ci j = true) : flW o idx ci j ∈ lw_tbl := by
  obtain ⟨q, hq, e⟩ := List.any_eq_true.mp h
  simp only [Bool.and_eq_true] at e
  have := hasW_in (List.all_eq_true.mp FL_ok q hq)
  rw [Nat.eq_of_beq_eq_true e.1, Nat.eq_of_beq_eq_true e.2.1, Nat.eq_of_beq_eq_true e.2.2.1, Nat.eq_of_beq_eq_true e.2.2.2] at this
  exact this
theorem ML_ok : MLd.all (fun q => hasW q.2.2.2 (.methodLink (onm q.1) q.2.1 (mnm q.2.2.1))) = true := by decide +kernel
def inML (o idx y : Nat) : Bool := MLd.any (fun q => Nat.beq q.1 o && (Nat.beq q.2.1 idx && Nat.beq q.2.2.1 y))
theorem inML_w {o idx y : Nat} (h : inML o idx y = true) : Cond.methodLink (onm o) idx (mnm y) ∈ lw_tbl := by
  obtain ⟨q, hq, e⟩ := List.any_eq_true.mp h
  simp only [Bool.and_eq_true] at e
  have := hasW_in (List.all_eq_true.mp ML_ok q hq)
  rw [Nat.eq_of_beq_eq_true e.1, Nat.eq_of_beq_eq_true e.2.1, Nat.eq_of_beq_eq_true e.2.2] at this
  exact this
def inMN (o idx y : Nat) : Bool := MNd.any (fun q => Nat.beq q.1 o && (Nat.beq q.2.1 idx && Nat.beq q.2.2.1 y))
theorem MN_ok : MNd.all (fun q => hasW q.2.2.2 (.methodLinkNest (onm q.1) q.2.1 (mnm q.2.2.1) "ByThePound")) = true := by decide +kernel
theorem CL_ok : CLd.all (fun q => hasW q.2.2.2 (.classLink (onm q.1) q.2.1 (kC q.2.2.1))) = true := by decide +kernel
def inCL (o idx ci : Nat) : Bool := CLd.any (fun q => Nat.beq q.1 o && (Nat.beq q.2.1 idx && Nat.beq q.2.2.1 ci))
theorem inCL_w {o idx ci : Nat} (h : inCL o idx ci = true) : Cond.classLink (onm o) idx (kC ci) ∈ lw_tbl := by
  obtain ⟨q, hq, e⟩ := List.any_eq_true.mp h
  simp only [Bool.and_eq_true] at e
  have := hasW_in (List.all_eq_true.mp CL_ok q hq)
  rw [Nat.eq_of_beq_eq_true e.1, Nat.eq_of_beq_eq_true e.2.1, Nat.eq_of_beq_eq_true e.2.2] at this
  exact this
theorem KI_ok : KId.all (fun q => hasW q.2.2.2 (.constant (onm q.1) q.2.1 (iI q.2.2.1))) = true := by decide +kernel
def inKI (o idx : Nat) (v : Int) : Bool := KId.any (fun q => Nat.beq q.1 o && (Nat.beq q.2.1 idx && decide (q.2.2.1 = v)))
theorem inKI_w {o idx : Nat} {v : Int} (h : inKI o idx v = true) : Cond.constant (onm o) idx (iI v) ∈ lw_tbl := by
  obtain ⟨q, hq, e⟩ := List.any_eq_true.mp h
  simp only [Bool.and_eq_true, decide_eq_true_eq] at e
  have := hasW_in (List.all_eq_true.mp KI_ok q hq)
  rw [Nat.eq_of_beq_eq_true e.1, Nat.eq_of_beq_eq_true e.2.1, e.2.2] at this
  exact this
theorem KL_ok : KLd.all (fun q => hasW q.2.2.2 (.constantLong (onm q.1) q.2.1 (lI q.2.2.1))) = true := by decide +kernel
def inKL (o idx : Nat) (v : Int) : Bool := KLd.any (fun q => Nat.beq q.1 o && (Nat.beq q.2.1 idx && decide (q.2.2.1 = v)))
theorem inKL_w {o idx : Nat} {v : Int} (h : inKL o idx v = true) : Cond.constantLong (onm o) idx (lI v) ∈ lw_tbl := by
  obtain ⟨q, hq, e⟩ := List.any_eq_true.mp h
  simp only [Bool.and_eq_true, decide_eq_true_eq] at e
  have := hasW_in (List.all_eq_true.mp KL_ok q hq)
  rw [Nat.eq_of_beq_eq_true e.1, Nat.eq_of_beq_eq_true e.2.1, e.2.2] at this
  exact this
/-- the classes' field words -/
theorem in_u : ∀ ci, ci < 12 → ∀ w ∈ u_ws (kC ci) (kT ci) (kN ci), w ∈ lw_tbl := by
  have h : (List.range 12).all (fun ci => (u_ws (kC ci) (kT ci) (kN ci)).all (fun w => decide (w ∈ lw_tbl))) = true := by decide +kernel
  intro ci hci w hw
  exact of_decide_eq_true (List.all_eq_true.mp (List.all_eq_true.mp h ci (List.mem_range.mpr hci)) w hw)
theorem in_inst : ∀ ci, ci < 12 → Cond.instantiable (kC ci) (kN ci) ∈ lw_tbl ∧ Cond.initialized (kC ci) ∈ lw_tbl := by
  have h : (List.range 12).all (fun ci => decide (Cond.instantiable (kC ci) (kN ci) ∈ lw_tbl ∧ Cond.initialized (kC ci) ∈ lw_tbl)) = true := by decide +kernel
  intro ci hci
  exact of_decide_eq_true (List.all_eq_true.mp h ci (List.mem_range.mpr hci))
theorem kcl_eq : ∀ ci, ci < 12 → kclL[ci]? = some (kC ci, kT ci, kN ci) := by
  intro ci hci
  rcases (show ci = 0 ∨ ci = 1 ∨ ci = 2 ∨ ci = 3 ∨ ci = 4 ∨ ci = 5 ∨ ci = 6 ∨ ci = 7 ∨ ci = 8 ∨ ci = 9 ∨ ci = 10 ∨ ci = 11 by omega) with rfl | rfl | rfl | rfl | rfl | rfl | rfl | rfl | rfl | rfl | rfl | rfl <;> rfl
def fOk (ci j : Nat) : Bool := decide (parseFieldDescriptor (kT ci j).2.2.1 = some (kyt ci j)) && (match fk ci j with
  | 0 => decide (kyt ci j = .int)
  | 1 => decide (kyt ci j = .boolean)
  | 2 => (kT ci j).2.2.2 && (kyt ci j).isReference
  | 3 => !(kT ci j).2.2.2 && (kyt ci j).isReference
  | _ => false)
theorem f_ok : ∀ ci, ci < 12 → ∀ j, j < kN ci → fOk ci j = true := by
  have h : (List.range 12).all (fun ci => (List.range (kN ci)).all (fun j => fOk ci j)) = true := by decide +kernel
  intro ci hci j hj
  exact List.all_eq_true.mp (List.all_eq_true.mp h ci (List.mem_range.mpr hci)) j (List.mem_range.mpr hj)
theorem f_nm : ∀ ci, ci < 12 → ∀ a, a < kN ci → ∀ b, b < kN ci → a ≠ b → (kT ci a).2.1 ≠ (kT ci b).2.1 := by
  have h : (List.range 12).all (fun ci => (List.range (kN ci)).all (fun a => (List.range (kN ci)).all (fun b => Nat.beq a b || decide ((kT ci a).2.1 ≠ (kT ci b).2.1)))) = true := by decide +kernel
  intro ci hci a ha b hb hne
  have := List.all_eq_true.mp (List.all_eq_true.mp (List.all_eq_true.mp h ci (List.mem_range.mpr hci)) a (List.mem_range.mpr ha)) b (List.mem_range.mpr hb)
  rcases Bool.or_eq_true_iff.mp this with q | q
  · exact absurd (Nat.eq_of_beq_eq_true q) hne
  · exact of_decide_eq_true q
theorem f_decl : ∀ ci, ci < 12 → ∀ j, j < kN ci → (kT ci j).1 = kC ci := by
  have h : (List.range 12).all (fun ci => (List.range (kN ci)).all (fun j => decide ((kT ci j).1 = kC ci))) = true := by decide +kernel
  intro ci hci j hj
  exact of_decide_eq_true (List.all_eq_true.mp (List.all_eq_true.mp h ci (List.mem_range.mpr hci)) j (List.mem_range.mpr hj))
/-- the words that every method is given -/
def wAll : List Cond := lw_tbl.filter goodWord
theorem wAll_in {w : Cond} (h : w ∈ lw_tbl) (hg : goodWord w = true) : w ∈ wAll := List.mem_filter.mpr ⟨h, hg⟩
/-- a method's own words -/
def mW (y : Nat) : List Cond := .code (mnm y) (mby y) (mml y) (mrt y) :: wAll
theorem d_ok : ∀ k, k < dscL.length → (parseMethodDescriptor (dsc k)).map (fun d => d.parameters.length) = some (dnpL.getD k 0) := by
  have h : (List.range dscL.length).all (fun k => decide ((parseMethodDescriptor (dsc k)).map (fun d => d.parameters.length) = some (dnpL.getD k 0))) = true := by decide +kernel
  intro k hk
  exact of_decide_eq_true (List.all_eq_true.mp h k (List.mem_range.mpr hk))
theorem o_ok : ∀ k, k < onmL.length → plainName (onm k) = true ∧ onm k ≠ "java/lang/invoke/MethodHandle" ∧ onm k ≠ "java/lang/invoke/VarHandle" := by
  have h : (List.range onmL.length).all (fun k => decide (plainName (onm k) = true ∧ onm k ≠ "java/lang/invoke/MethodHandle" ∧ onm k ≠ "java/lang/invoke/VarHandle")) = true := by decide +kernel
  intro k hk
  exact of_decide_eq_true (List.all_eq_true.mp h k (List.mem_range.mpr hk))
theorem my_lt : ∀ y, y < 270 → mds y < dscL.length ∧ mow y < onmL.length := by
  have h : (List.range 270).all (fun y => Nat.ble (mds y + 1) dscL.length && Nat.ble (mow y + 1) onmL.length) = true := by decide +kernel
  intro y hy
  have := List.all_eq_true.mp h y (List.mem_range.mpr hy)
  simp only [Bool.and_eq_true] at this
  exact ⟨Nat.le_of_ble_eq_true this.1, Nat.le_of_ble_eq_true this.2⟩
