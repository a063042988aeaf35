/-! PURE 10b: which greats -/
def mH (n h : Nat) : List (List Nat) := if h ≠ 1 ∧ 200 * h ≤ n ∧ n < 200 * h + 400 then (if h = 0 then smL n else grL h (n - 200 * h)) else []
theorem hs_eq : ∀ q, q < 40 → (List.range' 1 38).filter (fun h => decide (h ≠ 1 ∧ h ≤ q ∧ q < h + 2)) = List.range' (max 2 (q - 1)) (min 38 q + 1 - max 2 (q - 1)) := by decide +kernel
theorem flatMap_if {p : Nat → Prop} [DecidablePred p] {g : Nat → List (List Nat)} : ∀ l : List Nat, l.flatMap (fun h => if p h then g h else []) = (l.filter (fun h => decide (p h))).flatMap g
  | [] => rfl
  | x :: l => by
    rw [List.flatMap_cons, flatMap_if l, List.filter_cons]
    by_cases q : p x
    · rw [if_pos q, if_pos (by simpa using q), List.flatMap_cons]
    · rw [if_neg q, if_neg (by simpa using q)]; rfl
theorem raw_mH {n : Nat} (h1 : 1 ≤ n) (hn : n < 8000) : (List.range' 0 39).flatMap (mH n) = rawW n := by
  have e0 : List.range' 0 39 = 0 :: List.range' 1 38 := rfl
  rw [e0, List.flatMap_cons]
  unfold rawW
  congr 1
  · unfold mH
    by_cases q : n < 400
    · rw [if_pos ⟨by decide, by omega, by omega⟩, if_pos q, if_pos rfl]
    · rw [if_neg (by omega), if_neg q]
  · have e1 : (List.range' 1 38).flatMap (mH n) = (List.range' 1 38).flatMap (fun h => if h ≠ 1 ∧ h ≤ n / 200 ∧ n / 200 < h + 2 then grL h (n - 200 * h) else []) := by
      have : ∀ l : List Nat, (∀ h ∈ l, h ≠ 0) → l.flatMap (mH n) = l.flatMap (fun h => if h ≠ 1 ∧ h ≤ n / 200 ∧ n / 200 < h + 2 then grL h (n - 200 * h) else []) := by
        intro l
        induction l with
        | nil => intro _; rfl
        | cons x l ih =>
          intro hl
          rw [List.flatMap_cons, List.flatMap_cons, ih (fun h hh => hl h (List.mem_cons_of_mem _ hh))]
          congr 1
          have hx := hl x List.mem_cons_self
          unfold mH
          by_cases q : x ≠ 1 ∧ 200 * x ≤ n ∧ n < 200 * x + 400
          · rw [if_pos q, if_neg hx, if_pos (by omega)]
          · rw [if_neg q, if_neg (by omega)]
      refine this _ (fun h hh => ?_)
      rw [List.mem_range'_1] at hh
      omega
    rw [e1, flatMap_if, hs_eq (n / 200) (by omega)]
    rfl
