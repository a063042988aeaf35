theorem getD_append {α : Type} (L : List α) (d : α) (j : Nat) (hj : j < L.length) : L.take (j + 1) = L.take j ++ [L.getD j d] := by
  rw [List.take_succ, List.getD_eq_getElem?_getD, List.getElem?_eq_getElem hj]
  rfl
