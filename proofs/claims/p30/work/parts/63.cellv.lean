/-! what the law's cell answers -/
def cellV (L : Nat) (xs : Nat → Int32) (k : Int32) : Int32 := (if nI L ≤ k then (15485959 : Int32) * k + 8688 else xs k.toNatClampNeg) &&& 2147483647
