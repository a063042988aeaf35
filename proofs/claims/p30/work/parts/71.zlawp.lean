/-! PURE H: the law comes out true -/
theorem cellV_nat (L : Nat) (xs : Nat → Int32) (k : Int32) : ∃ t : Nat, t < 2147483648 ∧ cellV L xs k = nI t := by
  unfold cellV
  generalize (if nI L ≤ k then (15485959 : Int32) * k + 8688 else xs k.toNatClampNeg) = y
  refine ⟨y.toBitVec.toNat % 2147483648, by omega, ?_⟩
  apply Int32.toBitVec_inj.mp
  show y.toBitVec &&& BitVec.ofNat 32 (2 ^ 31 - 1) = BitVec.ofNat 32 (y.toBitVec.toNat % 2147483648)
  apply BitVec.eq_of_toNat_eq
  rw [BitVec.toNat_and, BitVec.toNat_ofNat, BitVec.toNat_ofNat]
  rw [show (2 ^ 31 - 1) % 2 ^ 32 = 2 ^ 31 - 1 by decide, Nat.and_two_pow_sub_one_eq_mod]
  omega
theorem fstN_some {b : Nat → Int32} : ∀ (n k p : Nat), fstN b k n = some p → k ≤ p ∧ p < k + n ∧ b p ≠ 0 ∧ ∀ i, k ≤ i → i < p → b i = 0
  | 0, _, _, h => by cases h
  | n + 1, k, p, h => by
    unfold fstN at h
    by_cases q : b k = 0
    · rw [if_pos q] at h
      obtain ⟨h1, h2, h3, h4⟩ := fstN_some n (k + 1) p h
      refine ⟨by omega, by omega, h3, fun i i1 i2 => ?_⟩
      by_cases e : i = k
      · rw [e]; exact q
      · exact h4 i (by omega) i2
    · rw [if_neg q] at h
      cases h
      exact ⟨Nat.le_refl _, by omega, q, fun i i1 i2 => by omega⟩
theorem bst_cases (row : Nat → Int32) (n : Nat) : (∃ p, p < (Ws n).length ∧ bst row n = nI p ∧ hrd row ((Ws n).getD p []) = nI n ∧ (p = 0 ∨ hrd row ((Ws n).getD 0 []) ≠ nI n)) ∨ bst row n = -5 := by
  unfold bst
  cases hf : fstN (bI row n (Ws n)) 0 (Ws n).length with
  | none => exact Or.inr rfl
  | some p =>
    obtain ⟨h1, h2, h3, h4⟩ := fstN_some _ _ _ hf
    refine Or.inl ⟨p, by omega, rfl, ?_, ?_⟩
    · refine Classical.byContradiction fun q => h3 ?_
      unfold bI
      rw [if_neg q]
    · rcases Nat.eq_zero_or_pos p with z | z
      · exact Or.inl z
      · refine Or.inr (fun e => ?_)
        have := h4 0 (Nat.le_refl 0) z
        unfold bI at this
        rw [if_pos e] at this
        exact absurd this (by decide)
theorem SC_first : SC 0 0 2 (fun _ => 0) (fun _ => 0) (fun _ => 2) (fun _ => hrow0) (fun _ _ => 0) := by
  refine ⟨by omega, rfl, rfl, by omega, by omega, rfl, fun h hh => ⟨fun j hj => ⟨1, 0, by omega, by omega, ?_, ?_, fun _ => rfl⟩, ⟨12, by omega, by omega, rfl⟩, 0, 0, by omega, by omega, rfl, rfl⟩, by decide, fun q => absurd q (Nat.lt_irrefl 0)⟩
  · rcases (show j = 0 ∨ j = 1 ∨ j = 2 by omega) with e | e | e <;> subst e <;> rfl
  · rcases (show j = 0 ∨ j = 1 ∨ j = 2 by omega) with e | e | e <;> subst e <;> rfl
section LAWP
variable {L9 : Nat} {xs : Nat → Int32} {M N P F H : Nat} {nw kp pt tx : Nat → Int32} {hr lr : Nat → Nat → Int32} {tl mn e0 e1 e2 e3 e4 e5 e6 e7 e8 e9 e10 : Int32} {sd : Nat → Int64} {Q : Int32 → Prop}
theorem ok_284 {n : Nat} (hQ : Q 1) (hF : F < 4) (hH : H ≤ 4) (hM : M ≤ 900) (hs : SC M N P nw kp pt hr lr) (h1 : 1 ≤ n) (hn : n < 8000) :
    B_L_law_284 Q L9 xs (nI M) (nI n) 1 tl tx mn sd e0 e1 e2 e3 e4 e5 e6 e7 e8 e9 e10 (nI F) (nI H) nw kp pt hr lr := by
  unfold B_L_law_284 B_L_law_339
  refine br1 (dx_tell (h := 1) (st := 3) hF hH (by omega) h1 hn (by omega) hs (fun _ _ _ _ _ _ _ _ _ _ _ _ _ nw2 kp2 pt2 hr2 lr2 k1 k2 => ⟨fun q => ?_, fun _ => dx_sum0 ⟨fun _ => dx_undo hF hH k2.2.2.2.2.2.2.2 (fun nw3 kp3 pt3 hr3 lr3 k3 => ⟨fun q => ?_, fun _ => dx_sum0 ⟨fun _ => ok_areSums (SC_eq hs k3) (by omega) (br1 hQ), fun n => absurd ?_ n⟩⟩), fun n => absurd ?_ n⟩⟩))
  · exfalso
    split at q
    · exact absurd q (by decide)
    · exact absurd q (by decide)
  · exact absurd q (nI_pos (by omega))
  · exact (SC_eq hs k3).2.2.2.2.2.2.2.1
  · have := k1.2.2.2.2.2.2.2.1
    rw [this, nI_1]
theorem ok_145 (hQ : Q 1) (hF : F < 4) (hH : H ≤ 4) (hM : M ≤ 900) (hs : SC M N P nw kp pt hr lr) : B_L_law_145 Q L9 xs 1 tl tx mn sd e0 e1 e2 e3 e4 e5 e6 e7 e8 e9 e10 (nI F) (nI H) nw kp pt hr lr := by
  obtain ⟨t, t1, t2⟩ := cellV_nat L9 xs 45
  have zn : nI t - nI t / (7999 : Int32) * (7999 : Int32) = nI (t % 7999) := pk_rem (d := 7999) t1 (by omega) (by omega)
  have yn : (1 : Int32) + nI (t % 7999) = nI (1 + t % 7999) := nI_add 1 _
  have m1 := Nat.mod_lt t (show 0 < 7999 by omega)
  unfold B_L_law_145
  rw [t2, zn, yn]
  have h1 : 1 ≤ 1 + t % 7999 := by omega
  have hn : 1 + t % 7999 < 8000 := by omega
  generalize 1 + t % 7999 = n at h1 hn
  obtain ⟨f1, f2, f3⟩ := Ws_facts h1 hn
  obtain ⟨a, a1, a2, a3⟩ := SC_att hs (show 1 < 6 by omega)
  have k263 : ∀ (r : Nat), r < (Ws n).length → ∀ mn sd e0 e1 e2 e3 e4 e5 e6 e7 e8 e9 e10, B_L_law_263 Q L9 xs (nI M) (nI n) (nI r) tl tx mn sd e0 e1 e2 e3 e4 e5 e6 e7 e8 e9 e10 (nI F) (nI H) nw kp pt hr lr := fun r hr9 mn sd e0 e1 e2 e3 e4 e5 e6 e7 e8 e9 e10 => by
    unfold B_L_law_263
    exact ⟨fun q => absurd q (nI_pos (by omega)), fun _ => dx_ways h1 hn (fun _ _ => ⟨fun q => absurd q (nI_ge hr9 (by omega)), fun _ => ok_284 hQ hF hH hM hs h1 hn⟩)⟩
  refine dx_sum0 ?_
  have b8 : sumH (fun h => hr h 7) 6 = nI M := hs.2.2.2.2.2.2.2.1
  rw [b8]
  refine ⟨by decide, dx_bestWay (h := 1) (by omega) h1 hn a3 a2 (fun _ _ _ _ _ _ _ _ _ _ _ _ _ => dx_commonWay h1 hn (SC_atts hs) (fun r r1 _ _ _ _ _ _ _ _ _ _ _ _ _ => br1 (ok_areSums hs (by omega) (br1 ?_))))⟩
  rcases bst_cases (hr 1) n with ⟨p, p1, p2, p3, p4⟩ | p2
  · rw [p2]
    refine ⟨fun _ => ?_, fun q => absurd (nI_pos' (by omega)) q⟩
    refine dx_understood (h := 1) (by omega) h1 hn p1 a3 a2 (fun _ _ _ _ _ _ _ _ _ _ _ _ _ => ⟨fun _ => ?_, fun q => absurd ((und_num h1 hn).mpr p3) q⟩)
    refine dx_untellable1 (h := 1) (by omega) h1 hn a3 a2 (fun _ _ _ _ _ _ _ _ _ _ _ _ _ => ?_)
    rw [p2, if_neg (nI_ne5 (by omega))]
    refine br0 ⟨fun _ => k263 r r1 _ _ _ _ _ _ _ _ _ _ _ _ _, fun q => ?_⟩
    refine dx_understood (h := 1) (p := 0) (by omega) h1 hn (by omega) a3 a2 (fun _ _ _ _ _ _ _ _ _ _ _ _ _ => ⟨fun q2 => ?_, fun _ => k263 r r1 _ _ _ _ _ _ _ _ _ _ _ _ _⟩)
    exfalso
    rcases p4 with z | z
    · exact q (by rw [z]; rfl)
    · exact z ((und_num h1 hn).mp q2)
  · rw [p2]
    refine ⟨fun q => absurd q (by decide), fun _ => ⟨fun _ => ?_, fun q => absurd rfl q⟩⟩
    refine dx_untellable1 (h := 1) (by omega) h1 hn a3 a2 (fun _ _ _ _ _ _ _ _ _ _ _ _ _ => ?_)
    rw [p2, if_pos rfl]
    exact ⟨fun _ => k263 r r1 _ _ _ _ _ _ _ _ _ _ _ _ _, fun q => absurd rfl q⟩
theorem ok_97 (hQ : Q 1) : ∀ (m k M N P F H : Nat) tl tx mn sd e0 e1 e2 e3 e4 e5 e6 e7 e8 e9 e10 nw kp pt hr lr, k + m = 44 → M ≤ k → F < 4 → H ≤ 4 → TT tl → SC M N P nw kp pt hr lr →
    L_L_law_97 Q L9 xs (m + 1) 1 (nI k) tl tx mn sd e0 e1 e2 e3 e4 e5 e6 e7 e8 e9 e10 (nI F) (nI H) nw kp pt hr lr := by
  intro m
  induction m with
  | zero =>
    intro k M N P F H tl tx mn sd e0 e1 e2 e3 e4 e5 e6 e7 e8 e9 e10 nw kp pt hr lr hk hM hF hH ht hs
    have hk : k = 44 := by omega
    subst hk
    exact ⟨fun _ => ok_145 hQ hF hH (by omega) hs, fun q => absurd (by decide) q⟩
  | succ m ih =>
    intro k M N P F H tl tx mn sd e0 e1 e2 e3 e4 e5 e6 e7 e8 e9 e10 nw kp pt hr lr hk hM hF hH ht hs
    obtain ⟨t, t1, t2⟩ := cellV_nat L9 xs (nI k)
    refine ⟨fun q => absurd q (nI_ge (b := 44) (by omega) (by omega)), fun _ => ⟨fun q => absurd q (by decide), fun _ => ⟨nI_pos (by omega), ?_⟩⟩⟩
    rw [t2]
    refine ok_acts ?_ hF hH ht (by omega) hs t1
    unfold ACT
    intro M' N' P' F' H' tl tx mn sd e0 e1 e2 e3 e4 e5 e6 e7 e8 e9 e10 nw kp pt hr lr m1 m2 m3 m4 m5
    have hb : B_L_law_133 (L_L_law_97 Q L9 xs (m + 1)) Q L9 xs (nI k) tl tx mn sd e0 e1 e2 e3 e4 e5 e6 e7 e8 e9 e10 (nI F') (nI H') nw kp pt hr lr := by
      unfold B_L_law_133 B_L_law_138
      rw [nI_1]
      exact ih (k + 1) M' N' P' F' H' tl tx mn sd e0 e1 e2 e3 e4 e5 e6 e7 e8 e9 e10 nw kp pt hr lr (by omega) (by omega) m2 m3 m4 m5
    exact br1 ⟨fun _ => hb, fun _ => ok_areSums m5 (by omega) (br1 hb)⟩
theorem ok_law (hQ : Q 1) : B_L_law_8 Q L9 xs 0 tx mn sd e0 e1 e2 e3 e4 e5 e6 e7 e8 e9 e10 0 0 (fun _ => 0) (fun _ => 0) (fun _ => 2) (fun _ => hrow0) (fun _ _ => 0) := by
  unfold B_L_law_8 B_L_law_94
  have h18 : sumH (fun h => (fun (_ : Nat) => hrow0) h 0 + (fun (_ : Nat) => hrow0) h 1 + (fun (_ : Nat) => hrow0) h 2) 6 = 18 := by decide
  refine dx_undo0 (F := 0) (by omega) ⟨fun _ => dx_fault0 (fun _ _ _ _ _ _ _ _ _ _ _ => ⟨fun _ => dx_meaning0 (fun _ _ _ _ _ _ _ _ _ _ _ => ⟨fun _ => dx_tellText0 (h := 0) (by omega) (fun _ _ _ _ _ _ _ _ _ _ _ => ⟨fun _ => dx_placeOfText0 (fun _ _ _ _ _ _ _ _ _ _ _ _ _ => ⟨fun _ => dx_understoodText0 (h := 5) (by omega) (fun _ _ _ _ _ _ _ _ _ _ _ => ⟨fun _ => ?_, fun n => absurd rfl n⟩), fun n => absurd rfl n⟩), fun n => absurd rfl n⟩), fun n => absurd rfl n⟩), fun n => absurd rfl n⟩), fun n => absurd rfl n⟩
  refine dx_share (s := 0) SC_first.2.2.2.2.2.2.2.1 (by omega) (fun _ => ⟨fun _ => dx_sum2 ⟨fun _ => dx_patience ⟨fun _ => ⟨45, ?_⟩, fun n => absurd rfl n⟩, fun n => absurd h18 n⟩, fun n => absurd (share_eq share_one _) n⟩) (fun z => absurd rfl z)
  exact ok_97 hQ 44 0 0 0 2 0 0 _ _ _ _ _ _ _ _ _ _ _ _ _ _ _ _ _ _ _ _ (by omega) (by omega) (by omega) (by omega) ⟨0, by omega, rfl⟩ SC_first
end LAWP
