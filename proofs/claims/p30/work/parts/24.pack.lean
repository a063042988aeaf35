/-! PURE 4: a spoken number as one long -/
/-- the last character first -/
def pkr : List Nat → Nat
  | [] => 0
  | c :: r => c + 128 * pkr r
/-- a text of characters 1 to 127 -/
def okc (w : List Nat) : Prop := ∀ c ∈ w, 0 < c ∧ c < 128
def pkL (w : List Nat) : Int64 := lN (pkr w.reverse)
theorem okc_cons {c : Nat} {r : List Nat} (h : okc (c :: r)) : (0 < c ∧ c < 128) ∧ okc r := ⟨h c List.mem_cons_self, fun d hd => h d (List.mem_cons_of_mem _ hd)⟩
theorem pkr_lt : ∀ r : List Nat, okc r → pkr r < 128 ^ r.length
  | [], _ => by decide
  | c :: r, h => by
    obtain ⟨h1, h2⟩ := okc_cons h
    have ih := pkr_lt r h2
    show c + 128 * pkr r < 128 ^ (r.length + 1)
    rw [Nat.pow_succ]
    omega
theorem pkr_pos : ∀ {r : List Nat}, okc r → r ≠ [] → 0 < pkr r
  | [], _, n => absurd rfl n
  | c :: r, h, _ => by
    have h1 := (okc_cons h).1
    show 0 < c + 128 * pkr r
    omega
theorem pkr_drop : ∀ (r : List Nat) (j : Nat), okc r → pkr r / 128 ^ j = pkr (r.drop j)
  | r, 0, _ => by rw [Nat.pow_zero, Nat.div_one]; rfl
  | [], j + 1, _ => by show 0 / _ = 0; exact Nat.zero_div _
  | c :: r, j + 1, h => by
    obtain ⟨h1, h2⟩ := okc_cons h
    show (c + 128 * pkr r) / 128 ^ (j + 1) = pkr (r.drop j)
    rw [← pkr_drop r j h2, Nat.pow_succ, Nat.mul_comm (128 ^ j) 128, ← Nat.div_div_eq_div_mul]
    congr 1
    omega
theorem pkr_lim {r : List Nat} (h : okc r) (hl : r.length ≤ 9) : pkr r < 9223372036854775808 := by
  have h1 := pkr_lt r h
  have h2 : 128 ^ r.length ≤ 128 ^ 9 := Nat.pow_le_pow_right (by decide) hl
  have e : (128 : Nat) ^ 9 = 9223372036854775808 := by decide
  omega
theorem lN_zero_iff {a : Nat} (h : a < 9223372036854775808) : lN a = 0 ↔ a = 0 := by
  constructor
  · intro q
    have h2 := congrArg Int64.toNatClampNeg q
    have h3 : (lN a).toNatClampNeg = a := Int64.toNatClampNeg_ofNat_of_lt h
    rw [h3] at h2
    exact h2
  · rintro rfl; rfl
theorem lN_inj {a b : Nat} (ha : a < 9223372036854775808) (hb : b < 9223372036854775808) (q : lN a = lN b) : a = b := by
  have h2 := congrArg Int64.toNatClampNeg q
  have h3 : (lN a).toNatClampNeg = a := Int64.toNatClampNeg_ofNat_of_lt ha
  have h4 : (lN b).toNatClampNeg = b := Int64.toNatClampNeg_ofNat_of_lt hb
  rw [h3, h4] at h2
  exact h2
theorem lN_leB {a b : Nat} (ha : a < 9223372036854775808) (hb : b < 9223372036854775808) : lN a ≤ lN b ↔ a ≤ b := by
  have h3 : (lN a).toInt = a := Int64.toInt_ofNat_of_lt ha
  have h4 : (lN b).toInt = b := Int64.toInt_ofNat_of_lt hb
  rw [Int64.le_iff_toInt_le, h3, h4]
  omega
theorem ushr_at {a b : Nat} (ha : a < 9223372036854775808) (hb : b < 9) : ((lN a).toUInt64 >>> (((7 : Int32) * nI b).toInt64.toUInt64 &&& Int64.toUInt64 63)).toInt64 = lN (a / 128 ^ b) := by
  have key : ∀ (t : UInt64) (k : Nat), t.toNat = k → k < 64 → ((lN a).toUInt64 >>> t).toInt64 = lN (a / 2 ^ k) := fun t k ht hk => by
    apply Int64.toBitVec_inj.1
    apply BitVec.eq_of_toNat_eq
    have e1 : ((lN a).toUInt64 >>> t).toInt64.toBitVec.toNat = ((lN a).toUInt64 >>> t).toNat := rfl
    have e2 : (lN a).toUInt64.toNat = a := by
      show (BitVec.ofNat 64 a).toNat = a
      rw [BitVec.toNat_ofNat]
      exact Nat.mod_eq_of_lt (by omega)
    have e3 : (lN (a / 2 ^ k)).toBitVec.toNat = a / 2 ^ k := by
      show (BitVec.ofNat 64 (a / 2 ^ k)).toNat = _
      rw [BitVec.toNat_ofNat]
      exact Nat.mod_eq_of_lt (Nat.lt_of_le_of_lt (Nat.div_le_self _ _) (by omega))
    rw [e1, e3, UInt64.toNat_shiftRight, e2, ht, Nat.mod_eq_of_lt hk, Nat.shiftRight_eq_div_pow]
  have h : ∀ b : Fin 9, (((7 : Int32) * nI b.val).toInt64.toUInt64 &&& Int64.toUInt64 63).toNat = 7 * b.val := by decide
  rw [key _ (7 * b) (h ⟨b, hb⟩) (by omega), Nat.pow_mul]
theorem lN_and127 {a : Nat} (ha : a < 9223372036854775808) : (lN a).toInt32 &&& 127 = nI (a % 128) := by
  rw [lN_i]
  have e : (127 : Int32) = nI (2 ^ 7 - 1) := rfl
  rw [e]
  apply Int32.toBitVec_inj.1
  show BitVec.ofNat 32 a &&& BitVec.ofNat 32 (2 ^ 7 - 1) = BitVec.ofNat 32 (a % 128)
  apply BitVec.eq_of_toNat_eq
  rw [BitVec.toNat_and, BitVec.toNat_ofNat, BitVec.toNat_ofNat, BitVec.toNat_ofNat]
  have e2 : (2 ^ 7 - 1) % 2 ^ 32 = 2 ^ 7 - 1 := by decide
  rw [e2, Nat.and_two_pow_sub_one_eq_mod]
  omega
theorem sp_then {w : List Nat} {c : Nat} {Q : Int64 → Prop} (h : Q (pkL (w ++ [c]))) (hc : c < 128) : F_X2_then (pkL w) (nI c) Q := by
  show Q ((pkL w <<< ((7 : Int32).toInt64 &&& 63)) ||| (nI c).toInt64)
  have e : (pkL w <<< ((7 : Int32).toInt64 &&& 63)) ||| (nI c).toInt64 = pkL (w ++ [c]) := by
    unfold pkL
    rw [nI_l (by omega), List.reverse_append]
    show _ = lN (c + 128 * pkr w.reverse)
    generalize pkr w.reverse = a
    apply Int64.toBitVec_inj.1
    have e1 : ((lN a <<< ((7 : Int32).toInt64 &&& 63)) ||| lN c).toBitVec = (BitVec.ofNat 64 a <<< 7) ||| BitVec.ofNat 64 c := by
      rw [Int64.toBitVec_or]
      congr 1
    rw [e1]
    show _ = BitVec.ofNat 64 (c + 128 * a)
    apply BitVec.eq_of_toNat_eq
    rw [BitVec.toNat_or, BitVec.toNat_shiftLeft, BitVec.toNat_ofNat, BitVec.toNat_ofNat, BitVec.toNat_ofNat, Nat.shiftLeft_eq]
    have h1 : a % 2 ^ 64 * 2 ^ 7 % 2 ^ 64 = 2 ^ 7 * (a % 2 ^ 57) := by omega
    rw [h1, Nat.mod_eq_of_lt (show c < 2 ^ 64 by omega), ← Nat.two_pow_add_eq_or_of_lt (show c < 2 ^ 7 by omega)]
    omega
  rw [e]; exact h
section LOOPS
theorem sp_length {w : List Nat} {Q : Int32 → Prop} (hw : okc w) (hl : w.length ≤ 9) (h : Q (nI w.length)) : F_X2_length (pkL w) Q := by
  have hok : okc w.reverse := fun c hc => hw c (List.mem_reverse.mp hc)
  have hlim := pkr_lim hok (by rw [List.length_reverse]; exact hl)
  have key : ∀ k j, j + k = w.length → L_X2_length_2 Q (k + 1) (pkL w) (nI j) := by
    intro k
    induction k with
    | zero =>
      intro j hj
      have hj : j = w.length := by omega
      subst hj
      refine ⟨fun _ => h, fun q => ⟨fun _ => h, fun q2 => ?_⟩⟩
      exfalso
      rcases Nat.lt_or_ge w.length 9 with h9 | h9
      · refine q2 ?_
        rw [lg_cmp_eq]
        unfold pkL
        rw [ushr_at hlim h9, pkr_drop _ _ hok, List.drop_eq_nil_of_le (by rw [List.length_reverse]; exact Nat.le_refl _)]
        rfl
      · exact q (nI_le (a := 9) h9 (by omega))
    | succ k ih =>
      intro j hj
      have h9 : j < 9 := by omega
      refine ⟨fun q => absurd q (nI_ge (a := j) (b := 9) h9 (by omega)), fun _ => ⟨fun q => ?_, fun _ => ?_⟩⟩
      · exfalso
        rw [lg_cmp_eq] at q
        unfold pkL at q
        rw [ushr_at hlim h9, lN_zero_iff (Nat.lt_of_le_of_lt (Nat.div_le_self _ _) hlim), pkr_drop _ _ hok] at q
        have hp := pkr_pos (r := w.reverse.drop j) (fun c hc => hok c (List.mem_of_mem_drop hc)) (fun e => by
          have := congrArg List.length e
          rw [List.length_drop, List.length_reverse] at this
          simp at this
          omega)
        omega
      · have h1 := ih (j + 1) (by omega)
        rw [← nI_1] at h1
        exact h1
  exact ⟨w.length + 1, key w.length 0 (by omega)⟩
theorem pk_at {w : List Nat} (hw : okc w) {b : Nat} (hb : b < w.length) : pkr (w.reverse.drop b) % 128 = w.getD (w.length - 1 - b) 0 := by
  have hok : okc w.reverse := fun c hc => hw c (List.mem_reverse.mp hc)
  have hb2 : b < w.reverse.length := by rw [List.length_reverse]; exact hb
  rw [List.drop_eq_getElem_cons hb2]
  have hc := hok _ (List.getElem_mem hb2)
  show (w.reverse[b] + 128 * _) % 128 = _
  have e1 : w.reverse[b] = w.getD (w.length - 1 - b) 0 := by
    rw [List.getElem_reverse, List.getD_eq_getElem?_getD, List.getElem?_eq_getElem (by omega)]
    rfl
  rw [← e1]
  omega
theorem sp_character {w : List Nat} {b : Nat} {Q : Int32 → Prop} (hw : okc w) (hl : w.length ≤ 9) (hb : b < w.length) (h : Q (nI (w.getD (w.length - 1 - b) 0))) : F_X2_character (pkL w) (nI b) Q := by
  have hok : okc w.reverse := fun c hc => hw c (List.mem_reverse.mp hc)
  have hlim := pkr_lim hok (by rw [List.length_reverse]; exact hl)
  refine ⟨fun q => absurd q (nI_pos (by omega)), fun _ => ⟨fun q => absurd q (nI_ge (a := b) (b := 9) (by omega) (by omega)), fun _ => ?_⟩⟩
  show Q _
  unfold pkL
  rw [ushr_at hlim (by omega), lN_and127 (Nat.lt_of_le_of_lt (Nat.div_le_self _ _) hlim), pkr_drop _ _ hok, pk_at hw hb]
  exact h
/-- beyond the first character there is 0 -/
theorem sp_character0 {w : List Nat} {b : Nat} {Q : Int32 → Prop} (hw : okc w) (hl : w.length ≤ 9) (hb : ¬ b < w.length) (hb9 : b < 9) (h : Q 0) : F_X2_character (pkL w) (nI b) Q := by
  have hok : okc w.reverse := fun c hc => hw c (List.mem_reverse.mp hc)
  have hlim := pkr_lim hok (by rw [List.length_reverse]; exact hl)
  refine ⟨fun q => absurd q (nI_pos (by omega)), fun _ => ⟨fun q => absurd q (nI_ge (a := b) (b := 9) (by omega) (by omega)), fun _ => ?_⟩⟩
  show Q _
  unfold pkL
  rw [ushr_at hlim (by omega), pkr_drop _ _ hok, List.drop_eq_nil_of_le (by rw [List.length_reverse]; omega)]
  exact h
def hasC (w : List Nat) (c : Nat) : Int32 := if c ∈ w then 1 else 0
theorem hasC_bo (w : List Nat) (c : Nat) : isBo (hasC w c) := by
  unfold hasC
  by_cases q : c ∈ w
  · rw [if_pos q]; exact isBo1
  · rw [if_neg q]; exact isBo0
theorem sp_hasX {w : List Nat} {c : Nat} {Q : Int32 → Prop} (hw : okc w) (hl : w.length ≤ 9) (hc : 0 < c) (hc2 : c < 128) (h : Q (hasC w c)) : F_X2_has (pkL w) (nI c) Q := by
  have key : ∀ k j, j + k = 9 → (∀ i, i < j → i < w.length → w.getD (w.length - 1 - i) 0 ≠ c) → L_X2_has_2 Q (k + 1) (pkL w) (nI c) (nI j) := by
    intro k
    induction k with
    | zero =>
      intro j hj hn
      have hj : j = 9 := by omega
      subst hj
      refine ⟨fun _ => ?_, fun q => absurd (nI_le (a := 9) (Nat.le_refl 9) (by omega)) q⟩
      have hm : c ∉ w := fun hm => by
        obtain ⟨i, hi, e⟩ := List.getElem_of_mem hm
        refine hn (w.length - 1 - i) (by omega) (by omega) ?_
        rw [show w.length - 1 - (w.length - 1 - i) = i by omega, List.getD_eq_getElem?_getD, List.getElem?_eq_getElem hi]
        exact e
      unfold hasC at h
      rw [if_neg hm] at h
      exact h
    | succ k ih =>
      intro j hj hn
      have h9 : j < 9 := by omega
      have step : (¬ (j < w.length ∧ w.getD (w.length - 1 - j) 0 = c)) → L_X2_has_2 Q (k + 1) (pkL w) (nI c) (nI j + 1) := fun hne => by
        rw [nI_1]
        refine ih (j + 1) (by omega) (fun i hi hi2 => ?_)
        by_cases e : i = j
        · subst e
          exact fun q => hne ⟨hi2, q⟩
        · exact hn i (by omega) hi2
      refine ⟨fun q => absurd q (nI_ge (a := j) (b := 9) h9 (by omega)), fun _ => ?_⟩
      by_cases hj2 : j < w.length
      · refine sp_character hw hl hj2 ⟨fun q => ?_, fun q => ?_⟩
        · have hlt : w.getD (w.length - 1 - j) 0 < 128 := by
            rw [List.getD_eq_getElem?_getD, List.getElem?_eq_getElem (by omega)]
            exact (hw _ (List.getElem_mem _)).2
          have e := (nI_eq (by omega) (by omega)).mp q
          have hm : c ∈ w := by
            rw [← e, List.getD_eq_getElem?_getD, List.getElem?_eq_getElem (by omega)]
            exact List.getElem_mem _
          unfold hasC at h
          rw [if_pos hm] at h
          exact h
        · exact step (fun q2 => q (by rw [q2.2]))
      · refine sp_character0 hw hl hj2 h9 ⟨fun q => ?_, fun _ => step (fun q2 => hj2 q2.1)⟩
        exact absurd q.symm (nI_ne0 hc (by omega))
  exact ⟨10, key 9 0 (by omega) (fun i hi => absurd hi (Nat.not_lt_zero i))⟩
end LOOPS
