/-! an instruction of the data is checked -/
theorem codes_len : codes.length = 270 := by decide +kernel
theorem ins_lt {y pc : Nat} {i : aI} (h : ins y pc = some i) : y < 270 := by
  rcases Nat.lt_or_ge y 270 with q | q
  · exact q
  · exfalso
    unfold ins at h
    rw [List.getD_eq_getElem?_getD, List.getElem?_eq_none (by rw [codes_len]; exact q)] at h
    simp at h
theorem lookup_mem : ∀ (l : List (Nat × aI)) (k : Nat) (i : aI), l.lookup k = some i → (k, i) ∈ l
  | [], _, _, h => by simp at h
  | (a, b) :: r, k, i, h => by
    rw [List.lookup_cons] at h
    by_cases e : k = a
    · subst e
      simp at h
      subst h
      exact List.mem_cons_self
    · rw [show (k == a) = false by simp [e]] at h
      exact List.mem_cons_of_mem _ (lookup_mem r k i h)
theorem ins_ck {y pc : Nat} {i : aI} (h : ins y pc = some i) : ckI y pc i = true :=
  List.all_eq_true.mp (ck_all y (ins_lt h)) (pc, i) (lookup_mem _ _ _ h)
