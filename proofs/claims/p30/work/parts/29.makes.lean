theorem nar_char {q : Nat} (h : q < 65536) : vp_nar .char (nI q) = nI q := by
  unfold vp_nar
  rw [(pk_charN h).1]
theorem i2c_nI {q : Nat} (h : q < 65536) : ((nI q).toUInt32 % 65536).toInt32 = nI q := by
  rw [pk_char, pk_tn (by omega), Nat.mod_eq_of_lt h]
theorem getD_mem {L : List (List Nat)} {k : Nat} (h : k < L.length) : L.getD k [] ∈ L := by
  rw [List.getD_eq_getElem?_getD, List.getElem?_eq_getElem h]
  exact List.getElem_mem _
theorem getD_app {α : Type} (a b : List α) (x : α) (k : Nat) (h : k < a.length) : (a ++ b).getD k x = a.getD k x := by
  rw [List.getD_eq_getElem?_getD, List.getD_eq_getElem?_getD, List.getElem?_append_left h]
theorem getD_end {α : Type} (a : List α) (y x : α) : (a ++ [y]).getD a.length x = y := by
  rw [List.getD_eq_getElem?_getD, List.getElem?_append_right (Nat.le_refl _), Nat.sub_self]
  rfl
section PUT
variable {mw ml : Nat → Int32} {L : List (List Nat)} {w : List Nat} {Q : (Nat → Int32) → (Nat → Int32) → Prop}
end PUT
