section CALLS
variable {T : Nat} {tl fr hd gn gt : Int32} {tx nw kp pt ms mb mt : Nat → Int32} {hr lr : Nat → Nat → Int32} {v v1 v2 v3 : Int32}
/-! arguments -/
theorem rng (v : Int32) (n : Nat) (hn : n < 2147483647) : (v < 0 ∨ nI n < v) ∨ ∃ j, j ≤ n ∧ v = nI j := by
  rcases pk_ix v (n := n + 1) (by omega) with h | h | ⟨j, hj, e⟩
  · exact Or.inl (Or.inl h)
  · refine Or.inl (Or.inr ?_)
    rw [i_le, nI_toInt (by omega)] at h
    rw [i_lt, nI_toInt (by omega)]
    omega
  · exact Or.inr ⟨j, by omega, e⟩
theorem lt_le {v : Int32} {n : Nat} (hn : n + 1 < 2147483648) : nI n < v ↔ nI (n + 1) ≤ v := by
  rw [i_lt, i_le, nI_toInt (by omega), nI_toInt (by omega)]
  omega
theorem hX_no {Q : Int32 → Prop} (h : v < 0 ∨ (5 : Int32) < v) (q : Q 0) : F_X5_isHearer v Q := by
  refine ⟨fun _ => ⟨isBo0, q⟩, fun a => ⟨fun _ => ⟨isBo0, q⟩, fun b => ?_⟩⟩
  exact (h.elim a (fun c => b ((lt_le (n := 5) (by omega)).mp c))).elim
theorem hX_yes {h : Nat} {Q : Int32 → Prop} (hh : h ≤ 5) (q : Q 1) : F_X5_isHearer (nI h) Q := ⟨fun a => absurd a (nI_pos (by omega)), fun _ => ⟨fun b => absurd b (nI_ge (b := 6) (by omega) (by omega)), fun _ => ⟨isBo1, q⟩⟩⟩
theorem wX_yes {h : Nat} {Q : Int32 → Prop} (hh : h ≤ 2) (q : Q 1) : F_X5_isWord (nI h) Q := ⟨fun a => absurd a (nI_pos (by omega)), fun _ => ⟨fun b => absurd b (nI_ge (b := 3) (by omega) (by omega)), fun _ => ⟨isBo1, q⟩⟩⟩
theorem sX_yes {h : Nat} {Q : Int32 → Prop} (hh : h ≤ 3) (q : Q 1) : F_X5_isStyle (nI h) Q := ⟨fun a => absurd a (nI_pos (by omega)), fun _ => ⟨fun b => absurd b (nI_ge (b := 4) (by omega) (by omega)), fun _ => ⟨isBo1, q⟩⟩⟩
theorem nX_no {Q : Int32 → Prop} (h : v < 1 ∨ (7999 : Int32) < v) (q : Q 0) : F_X5_isNumber v Q := by
  refine ⟨fun _ => ⟨isBo0, q⟩, fun a => ⟨fun _ => ⟨isBo0, q⟩, fun b => (h.elim a b).elim⟩⟩
theorem nX_yes {n : Nat} {Q : Int32 → Prop} (h1 : 1 ≤ n) (h2 : n < 8000) (q : Q 1) : F_X5_isNumber (nI n) Q := ⟨fun a => absurd a (nI_nlt (b := 1) h1 (by omega)), fun _ => ⟨fun b => absurd b (nI_nlt (a := 7999) (by omega) (by omega)), fun _ => ⟨isBo1, q⟩⟩⟩
theorem num_rng (v : Int32) : (v < 1 ∨ (7999 : Int32) < v) ∨ ∃ n, 1 ≤ n ∧ n < 8000 ∧ v = nI n := by
  rcases rng v 7999 (by omega) with h | ⟨n, hn, e⟩
  · rcases h with h | h
    · refine Or.inl (Or.inl ?_)
      rw [i_lt] at h ⊢
      have e0 : (0 : Int32).toInt = 0 := rfl
      have e1 : (1 : Int32).toInt = 1 := rfl
      omega
    · exact Or.inl (Or.inr h)
  · rcases Nat.eq_zero_or_pos n with z | z
    · rw [e, z]; exact Or.inl (Or.inl (by decide))
    · exact Or.inr ⟨n, z, by omega, e⟩
theorem br0 {A B : Prop} (a : A) : ((0 : Int32) = 0 → A) ∧ (¬ (0 : Int32) = 0 → B) := ⟨fun _ => a, fun n => absurd rfl n⟩
theorem br1 {A B : Prop} (b : B) : ((1 : Int32) = 0 → A) ∧ (¬ (1 : Int32) = 0 → B) := ⟨fun n => absurd n (by decide), fun _ => b⟩
end CALLS
