/-! PURE 0: ints as numbers -/
def zI (z : Int) : Int32 := Int32.ofInt z
theorem zI_add (a b : Int) : zI a + zI b = zI (a + b) := (Int32.ofInt_add a b).symm
theorem zI_sub (a b : Int) : zI a - zI b = zI (a - b) := (Int32.ofInt_sub a b).symm
theorem zI_mul (a b : Int) : zI a * zI b = zI (a * b) := (Int32.ofInt_mul a b).symm
theorem zI_neg (a : Int) : -zI a = zI (-a) := (Int32.ofInt_neg a).symm
theorem zI_nat (n : Nat) : zI (n : Int) = nI n := Int32.ofInt_eq_ofNat
theorem zI_toInt {a : Int} (h1 : -2147483648 ≤ a) (h2 : a < 2147483648) : (zI a).toInt = a := Int32.toInt_ofInt_of_le h1 h2
theorem zI_of (x : Int32) : x = zI x.toInt := (Int32.ofInt_toInt x).symm
theorem zI_lt {a b : Int} (h1 : -2147483648 ≤ a) (h2 : a < 2147483648) (h3 : -2147483648 ≤ b) (h4 : b < 2147483648) : zI a < zI b ↔ a < b := by
  rw [Int32.lt_iff_toInt_lt, zI_toInt h1 h2, zI_toInt h3 h4]
theorem zI_le {a b : Int} (h1 : -2147483648 ≤ a) (h2 : a < 2147483648) (h3 : -2147483648 ≤ b) (h4 : b < 2147483648) : zI a ≤ zI b ↔ a ≤ b := by
  rw [Int32.le_iff_toInt_le, zI_toInt h1 h2, zI_toInt h3 h4]
theorem zI_eq {a b : Int} (h1 : -2147483648 ≤ a) (h2 : a < 2147483648) (h3 : -2147483648 ≤ b) (h4 : b < 2147483648) : zI a = zI b ↔ a = b := by
  rw [← Int32.toInt_inj, zI_toInt h1 h2, zI_toInt h3 h4]
theorem zI_tnc {a : Int} (h1 : 0 ≤ a) (h2 : a < 2147483648) : (zI a).toNatClampNeg = a.toNat := by
  show (zI a).toInt.toNat = _
  rw [zI_toInt (by omega) h2]
theorem zI_in {a : Int} {N : Nat} (h1 : 0 ≤ a) (h2 : a < N) (hN : N < 2147483648) : vp_in (zI a) N := by
  rw [vp_in_iff, zI_toInt (by omega) (by omega)]
  exact ⟨h1, h2⟩
theorem zI_div {a b : Int} (h1 : -2147483648 ≤ a) (h2 : a < 2147483648) (h3 : 0 < b) (h4 : b < 2147483648) : zI a / zI b = zI (a.tdiv b) := by
  apply Int32.toInt_inj.1
  have hb : zI b ≠ -1 := by
    intro h
    have h9 := congrArg Int32.toInt h
    rw [zI_toInt (by omega) h4] at h9
    have : (-1 : Int32).toInt = -1 := by decide
    omega
  rw [Int32.toInt_div_of_ne_right _ _ hb, zI_toInt h1 h2, zI_toInt (by omega) h4]
  have hq : -2147483648 ≤ a.tdiv b ∧ a.tdiv b < 2147483648 := by
    rcases Int.le_total 0 a with h | h
    · have h5 := Int.tdiv_nonneg h (Int.le_of_lt h3)
      have h6 := Int.tdiv_le_self (b := b) h
      omega
    · have e : a = -(-a) := by omega
      rw [e, Int.neg_tdiv]
      have h5 := Int.tdiv_nonneg (a := -a) (b := b) (by omega) (Int.le_of_lt h3)
      have h6 := Int.tdiv_le_self (a := -a) (b := b) (by omega)
      omega
  rw [zI_toInt hq.1 hq.2]
theorem i_lt {a b : Int32} : a < b ↔ a.toInt < b.toInt := Int32.lt_iff_toInt_lt
theorem i_le {a b : Int32} : a ≤ b ↔ a.toInt ≤ b.toInt := Int32.le_iff_toInt_le
theorem i_eq {a b : Int32} : a = b ↔ a.toInt = b.toInt := Int32.toInt_inj.symm
theorem i_nat {x : Int32} {n : Nat} (hn : n < 2147483648) (h0 : ¬ x < 0) (h1 : x < nI n) : ∃ j : Nat, j < n ∧ x = nI j := by
  rw [i_lt] at h0 h1
  have e0 : (0 : Int32).toInt = 0 := rfl
  rw [nI_toInt hn] at h1
  refine ⟨x.toInt.toNat, by omega, ?_⟩
  rw [← zI_nat, zI_of x]
  congr 1
  rw [← zI_of x]
  omega
theorem wif {c A B : Prop} [Decidable c] : ((c → A) ∧ (¬ c → B)) ↔ if c then A else B := by
  by_cases h : c
  · rw [if_pos h]; exact ⟨fun q => q.1 h, fun q => ⟨fun _ => q, fun n => absurd h n⟩⟩
  · rw [if_neg h]; exact ⟨fun q => q.2 h, fun q => ⟨fun n => absurd n h, fun _ => q⟩⟩
theorem isBo0 : isBo 0 := Or.inl rfl
theorem isBo1 : isBo 1 := Or.inr rfl
/-- a character a to s and its number -/
theorem unit_of {c : Int32} (h1 : ¬ c < 97) (h2 : c ≤ 115) : ∃ j : Nat, j < 19 ∧ c = nI (97 + j) := by
  rw [i_lt] at h1
  rw [i_le] at h2
  have e1 : (97 : Int32).toInt = 97 := rfl
  have e2 : (115 : Int32).toInt = 115 := rfl
  refine ⟨(c.toInt - 97).toNat, by omega, ?_⟩
  rw [← zI_nat, zI_of c]
  congr 1
  rw [← zI_of c]
  omega
theorem unit_num (j : Nat) : nI (97 + j) - 97 + 1 = nI (j + 1) := by
  show nI (97 + j) - nI 97 + nI 1 = _
  rw [pk_sub (by omega), nI_add]
  congr 1
  omega
theorem unit_one {c : Int32} (h1 : ¬ c < 97) (h2 : c < 98) : c = 97 := by
  rw [i_lt] at h1 h2
  rw [i_eq]
  have e1 : (97 : Int32).toInt = 97 := rfl
  have e2 : (98 : Int32).toInt = 98 := rfl
  omega
theorem lt97_98 {c : Int32} (h : c < 97) : c < 98 := by
  rw [i_lt] at *
  have e1 : (97 : Int32).toInt = 97 := rfl
  have e2 : (98 : Int32).toInt = 98 := rfl
  omega
