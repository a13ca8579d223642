/-! THE LAW -/
theorem h0_hz {L : Nat} {xs : Nat → Int32} : h_0 L xs = hz L xs 5 0 [] [] [] := by
  have f1 : (h_0 L xs).1 = (hz L xs 5 0 [] [] []).1 := by
    funext k
    match k with
    | 0 => rfl
    | 1 => rfl
    | 2 => rfl
    | 3 => rfl
    | 4 => rfl
    | k + 5 =>
      show ((99, 0) : Nat × Nat) = if k + 5 < 5 then sS L (k + 5) else (99, 0)
      rw [if_neg (by omega)]
  have f2 : (h_0 L xs).2.1 = (hz L xs 5 0 [] [] []).2.1 := by
    funext k j
    match k with
    | 0 => rfl
    | 1 => rfl
    | 2 => rfl
    | 3 => rfl
    | 4 => rfl
    | k + 5 =>
      show (0 : Int32) = b0 xs (k + 5) j
      rw [b0_no (by omega)]
  exact Prod.ext f1 (Prod.ext f2 rfl)
theorem law_ok : LawOk := by
  intro L xs hL
  rw [h0_hz]
  refine made (d := 939) ?_
  rw [S_0_16, S_0_17 rfl]
  refine law_loop (d := 939) (X := (L, xs)) hL (fun s g => ⟨rfl, (by show 156 ≤ 600005; omega), (by show 13756 ≤ 7302250; omega)⟩) L 0 s0F GI_0 (by omega) (by show (L : Int) - 0 ≤ L; omega)
theorem i_vc : Claimed_1_1 ∧ Claimed_1_2 := i_vc_of law_ok
