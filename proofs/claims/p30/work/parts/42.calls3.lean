/-! PURE 20: telling ways, and the text -/
/-- n steps from i on: how many numbers have no understood way -/
def unS (g : Nat → Int32) : Nat → Nat → Int32 → Int32
  | _, 0, a => a
  | i, n + 1, a => unS g (i + 1) n (if g i = -5 then a + 1 else a)
theorem unS_congr {g g' : Nat → Int32} (h : ∀ i, g i = g' i) : ∀ (n i : Nat) (a : Int32), unS g i n a = unS g' i n a
  | 0, _, _ => rfl
  | n + 1, i, a => by
    unfold unS
    rw [h i, unS_congr h n]
section CALLS
variable {T : Nat} {tl fr hd gn gt : Int32} {tx nw kp pt ms mb mt : Nat → Int32} {hr lr : Nat → Nat → Int32} {v v1 v2 v3 : Int32}
variable {mn e0 e1 e2 e3 e4 e5 e6 e7 e8 e9 e10 gm gs ga gg gb gu gh gk gl : Int32} {sd : Nat → Int64} {my mw ml mo : Nat → Int32}
theorem sp_orNone {Q : Int32 → Prop} (h1 : v = 0 → Q (-5)) (h2 : ¬ v = 0 → Q v) : F_X5_orNone v Q := ⟨h1, h2⟩
end CALLS
