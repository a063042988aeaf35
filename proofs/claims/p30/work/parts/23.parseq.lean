section PS
variable {my : Nat → Int32} {n : Nat} {r : List Int32}
def stU (c : Int32) : Int32 := if c = 97 then 4 else 3
theorem folU_dash (c bh : Int32) : fol (stU c) bh 45 = 8 := by
  unfold stU
  by_cases q : c = 97
  · rw [if_pos q]; rfl
  · rw [if_neg q]; rfl
theorem fol0_unit {c bh : Int32} (h1 : ¬ c < 97) (h2 : c ≤ 115) : fol 0 bh c = stU c := by
  obtain ⟨a1, a2, a3, a4, a5, a6⟩ := not_sign h1
  rw [fol0]
  unfold folS stU
  rw [if_neg a4, if_neg a5, if_neg a6]
  by_cases q : c = 97
  · rw [if_pos q, if_pos q]
  · rw [if_neg q, if_neg q, if_neg (fun q2 => q (unit_one h1 q2)), if_neg (fun q2 => (Int32.not_le.mpr q2) h2)]
end PS
