section PS
variable {my : Nat → Int32} {n : Nat} {r : List Int32}
theorem fol6 {bh c : Int32} : fol 6 bh c = if c = 43 then 7 else -1 := rfl
theorem fol7 {bh c : Int32} : fol 7 bh c = if c < 97 then -1 else if 115 < c then -1 else 11 := rfl
theorem fol8 {bh c : Int32} : fol 8 bh c = folL c := rfl
theorem fol0 {bh c : Int32} : fol 0 bh c = folS bh c := rfl
theorem fol1 {bh c : Int32} : fol 1 bh c = folU c 2 := rfl
theorem fol2 {bh c : Int32} : fol 2 bh c = folC bh c := rfl
theorem fol3 {bh c : Int32} : fol 3 bh c = if c = 45 then 8 else folC bh c := rfl
theorem fol4 {bh c : Int32} : fol 4 bh c = if c = 45 then 8 else -1 := rfl
theorem fol5 {bh c : Int32} : fol 5 bh c = if c = 38 then 0 else -1 := rfl
theorem fol9 {bh c : Int32} : fol 9 bh c = folU c 10 := rfl
theorem fol10 {bh c : Int32} : fol 10 bh c = if c = 83 then 11 else -1 := rfl
theorem fol11 {bh c : Int32} : fol 11 bh c = -1 := rfl
theorem uni_yes {c a : Int32} (h1 : ¬ c < 98) (h2 : c ≤ 115) : folU c a = a := by
  unfold folU
  rw [if_neg h1, if_neg (fun q => (Int32.not_le.mpr q) h2)]
/-- a letter is none of the signs -/
theorem not_sign {c : Int32} (h1 : ¬ c < 97) : c ≠ 38 ∧ c ≠ 43 ∧ c ≠ 45 ∧ c ≠ 71 ∧ c ≠ 72 ∧ c ≠ 83 := by
  refine ⟨?_, ?_, ?_, ?_, ?_, ?_⟩ <;> (rintro rfl; exact h1 (by decide))
theorem stepS_unit0 {e0 e2 c st bh hv ls ct gr ba un : Int32} (h1 : ¬ c < 97) (h2 : st = 0 ∨ st = 7) : stepS e0 e2 c st bh hv ls ct gr ba un = (fol st bh c, bh, hv, ls, ct, gr, ba, c - 97 + 1) := by
  obtain ⟨a1, a2, a3, a4, a5, a6⟩ := not_sign h1
  unfold stepS
  rw [if_neg a1, if_neg a2, if_neg a3, if_neg a4, if_neg a5, if_neg a6, if_pos h2]
theorem stepS_unit1 {e0 e2 c st bh hv ls ct gr ba un : Int32} (h1 : ¬ c < 97) (h2 : st ≠ 0) (h3 : st ≠ 7) : stepS e0 e2 c st bh hv ls ct gr ba un = (fol st bh c, bh, hv, ls, c - 97 + 1, gr, ba, un) := by
  obtain ⟨a1, a2, a3, a4, a5, a6⟩ := not_sign h1
  unfold stepS
  rw [if_neg a1, if_neg a2, if_neg a3, if_neg a4, if_neg a5, if_neg a6, if_neg (fun q => q.elim h2 h3)]
theorem ge98_97 {c : Int32} (h : ¬ c < 98) : ¬ c < 97 := fun q => h (lt97_98 q)
theorem not_compl1 : ¬ compl 1 := by unfold compl; decide
theorem not_compl2 : ¬ compl 2 := by unfold compl; decide
theorem not_compl0 : ¬ compl 0 := by unfold compl; decide
theorem not_compl7 : ¬ compl 7 := by unfold compl; decide
theorem not_compl8 : ¬ compl 8 := by unfold compl; decide
theorem not_compl9 : ¬ compl 9 := by unfold compl; decide
theorem not_compl10 : ¬ compl 10 := by unfold compl; decide
end PS
