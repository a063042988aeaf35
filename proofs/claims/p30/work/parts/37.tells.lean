/-! PURE 15: the reference tells; both together -/
/-- the buffer holds w -/
def SAY (my : Nat → Int32) (w : List Nat) : Prop := ∀ i, i < w.length → my i = nI (w.getD i 0)
