/-! PURE 17: text, looks at hearers, log and sums -/
section CALLS
variable {T : Nat} {tl fr hd gn gt : Int32} {tx nw kp pt ms mb mt : Nat → Int32} {hr lr : Nat → Nat → Int32} {v v1 v2 v3 : Int32}
theorem eq_append (hR : RR T tl tx fr hd nw kp pt hr lr ms mb mt gn gt) : F_X5_append v1 tl tx (fun r tl' tx' => F_X6_append v1 mt gn (fun q mt' gn' => q = r ∧ RR (T + 1) tl' tx' fr hd nw kp pt hr lr ms mb mt' gn' gt)) := by
  have hR0 := RR_1 hR
  by_cases n2 : v1 < 32 ∨ (126 : Int32) < v1
  · have hm : F_X6_append v1 mt gn (fun q mt' gn' => q = (-2) ∧ RR (T + 1) tl tx fr hd nw kp pt hr lr ms mb mt' gn' gt) := in_no n2 (br0 ⟨rfl, hR0⟩)
    refine ⟨fun _ => hm, fun a => ⟨fun b => ?_, fun _ => hm⟩⟩
    exact (n2.elim a (fun c => (Int32.not_le.mpr c) b)).elim
  have n3 : ¬ v1 < 32 := fun q => n2 (Or.inl q)
  have n4 : ¬ (126 : Int32) < v1 := fun q => n2 (Or.inr q)
  obtain ⟨c, c1, c2, rfl⟩ : ∃ c : Nat, 32 ≤ c ∧ c ≤ 126 ∧ v1 = nI c := by
    rw [i_lt] at n3 n4
    have e1 : (32 : Int32).toInt = 32 := rfl
    have e2 : (126 : Int32).toInt = 126 := rfl
    refine ⟨v1.toInt.toNat, by omega, by omega, ?_⟩
    rw [← zI_nat, zI_of v1]
    congr 1
    rw [← zI_of v1]
    omega
  obtain ⟨w, F, H, ⟨w1, w2, rfl, rfl, w5, w6⟩, x1, x2, x3, hH, hS⟩ := hR
  have ei : vp_nar .char (((nI c).toUInt32 % 65536).toInt32) = nI c := by rw [i2c_nI (by omega), nar_char (by omega)]
  have hin : ∀ Q : Int32 → Prop, Q 1 → F_X6_in (nI c) 32 126 Q := fun Q q => in_yes n3 n4 q
  refine ⟨fun q => absurd q n3, fun _ => ⟨fun _ => ⟨fun q => absurd q (nI_pos (by omega)), fun _ => ⟨fun q => ?_, fun q => ?_⟩⟩, fun q => absurd (Int32.not_lt.mp n4) q⟩⟩
  · have hl : w.length < 20 := (nI_ltI (b := 20) (by omega) (by omega)).mp q
    rw [ei, nI_clamp (show w.length < 2147483648 by omega), nI_1]
    refine ⟨vp_in_nI hl (by decide), hin _ (br1 ⟨fun q2 => absurd ((nI_eq (b := 20) (by omega) (by omega)).mp q2) (by omega), fun _ => ?_⟩)⟩
    rw [ei, nI_clamp (show w.length < 2147483648 by omega), nI_1]
    have hsay : ∀ f : Nat → Int32, SAY f w → SAY (upd f w.length (nI c)) (w ++ [c]) := fun f hf i hi => by
      rw [List.length_append] at hi
      have hi : i < w.length + 1 := hi
      by_cases e : i < w.length
      · rw [pk_un (by omega), getD_app _ _ _ _ e]; exact hf i e
      · have e2 : i = w.length := by omega
        subst e2
        rw [pk_us, getD_end]
    refine ⟨vp_in_nI hl (by decide), rfl, w ++ [c], F, H, ⟨?_, fun d hd9 => ?_, ?_, ?_, hsay _ w5, hsay _ w6⟩, x1, x2, x3, HR_mono (Nat.le_succ T) hH, SR_mono (Nat.le_succ T) hS⟩
    · rw [List.length_append]; exact hl
    · rcases List.mem_append.mp hd9 with e | e
      · exact w2 d e
      · rw [List.mem_singleton.mp e]; exact ⟨c1, c2⟩
    · rw [List.length_append]; rfl
    · rw [List.length_append]; rfl
  · have hl : w.length = 20 := by
      have : ¬ w.length < 20 := fun n => q (nI_lt (b := 20) n (by omega))
      omega
    exact hin _ (br1 ⟨fun _ => ⟨rfl, hR0⟩, fun q2 => absurd (by rw [hl]; rfl) q2⟩)
theorem eq_clearText (hR : RR T tl tx fr hd nw kp pt hr lr ms mb mt gn gt) : F_X5_clearText tl (fun r tl' => F_X6_clearText gn (fun q gn' => q = r ∧ RR (T + 1) tl' tx fr hd nw kp pt hr lr ms mb mt gn' gt)) := by
  obtain ⟨w, F, H, ⟨w1, w2, w3, w4, w5, w6⟩, x1, x2, x3, hH, hS⟩ := hR
  refine ⟨w4.trans w3.symm, [], F, H, ⟨Nat.zero_le _, fun d hd9 => (by cases hd9), rfl, rfl, fun i hi => absurd hi (Nat.not_lt_zero i), fun i hi => absurd hi (Nat.not_lt_zero i)⟩, x1, x2, x3, HR_mono (Nat.le_succ T) hH, SR_mono (Nat.le_succ T) hS⟩
theorem eq_hearer (hR : RR T tl tx fr hd nw kp pt hr lr ms mb mt gn gt) : F_X5_hearer v1 v2 hr (fun r => F_X6_hearer v1 v2 ms (fun q => q = r ∧ RR (T + 1) tl tx fr hd nw kp pt hr lr ms mb mt gn gt)) := by
  have hR0 := RR_1 hR
  rcases rng v1 5 (by omega) with n1 | ⟨h, hh, rfl⟩
  · exact hX_no n1 (br0 (hM_no n1 (br0 ⟨rfl, hR0⟩)))
  rcases rng v2 8 (by omega) with n2 | ⟨c, hc, rfl⟩
  · have hm : F_X6_hearer (nI h) v2 ms (fun q => q = (-2) ∧ RR (T + 1) tl tx fr hd nw kp pt hr lr ms mb mt gn gt) := hM_yes hh (br1 (in_no n2 (br0 ⟨rfl, hR0⟩)))
    refine hX_yes hh (br1 ⟨fun _ => hm, fun a => ⟨fun b => ?_, fun _ => hm⟩⟩)
    exact (n2.elim a (fun d => (Int32.not_le.mpr b) ((lt_le (n := 8) (by omega)).mp d))).elim
  obtain ⟨w, F, H, hw, x1, x2, x3, hH, hS⟩ := hR
  have hcl : 6 * 0 + (nI h).toNatClampNeg = h := by rw [nI_clamp (by omega)]; omega
  refine hX_yes hh (br1 ⟨fun q => absurd q (nI_pos (by omega)), fun _ => ⟨fun _ => ⟨vp_in_nI (by omega) (by decide), vp_in_nI (by omega) (by decide), ?_⟩, fun q => absurd (nI_lt (b := 9) (by omega) (by omega)) q⟩⟩)
  rw [hcl, nI_clamp (show c < 2147483648 by omega)]
  refine hM_yes hh (br1 (in_yes (nI_pos (by omega)) (nI_nlt (a := 8) hc (by omega)) (br1 ?_)))
  have e1 : (9 : Int32) * nI h + nI c = nI (9 * h + c) := by rw [show (9 : Int32) = nI 9 from rfl, pk_mul, nI_add]
  rw [e1, nI_clamp (show 9 * h + c < 2147483648 by omega)]
  exact ⟨vp_in_nI (by omega) (by decide), (SR_at hS (by omega) (by omega)).symm, hR0⟩
theorem eq_log (hR : RR T tl tx fr hd nw kp pt hr lr ms mb mt gn gt) : F_X5_log v1 v2 nw kp lr (fun r => F_X6_log v1 v2 ms (fun q => q = r ∧ RR (T + 1) tl tx fr hd nw kp pt hr lr ms mb mt gn gt)) := by
  have hR0 := RR_1 hR
  by_cases n1 : v1 < 0
  · exact ⟨fun _ => ⟨fun _ => ⟨rfl, hR0⟩, fun q => absurd n1 q⟩, fun q => absurd n1 q⟩
  rcases rng v2 4 (by omega) with n2 | ⟨c, hc, rfl⟩
  · have hm : F_X6_log v1 v2 ms (fun q => q = (-2) ∧ RR (T + 1) tl tx fr hd nw kp pt hr lr ms mb mt gn gt) := ⟨fun q => absurd q n1, fun _ => in_no n2 (br0 ⟨rfl, hR0⟩)⟩
    refine ⟨fun q => absurd q n1, fun _ => ⟨fun _ => hm, fun a => ⟨fun b => ?_, fun _ => hm⟩⟩⟩
    exact (n2.elim a (fun d => (Int32.not_le.mpr b) ((lt_le (n := 4) (by omega)).mp d))).elim
  obtain ⟨w, F, H, hw, x1, x2, x3, hH, hS⟩ := hR
  obtain ⟨a1, a2, ⟨K, N, b1, b2, b3, b4, b5, b6⟩, -⟩ := hS
  rw [Nat.zero_add] at b5
  obtain ⟨a, ha, rfl⟩ := nI_of n1
  have i55 : vp_in (55 : Int32) 106 := vp_in_nI (n := 55) (by omega) (by decide)
  unfold F_X5_log B_X5_log_0 B_X5_log_41
  rw [b3]
  have hm : ∀ r : Int32, (K ≤ a → r = (-5)) → (a < K → r = ms (56 + 5 * (K - 1 - a) + c)) → F_X6_log (nI a) (nI c) ms (fun q => q = r ∧ RR (T + 1) tl tx fr hd nw kp pt hr lr ms mb mt gn gt) := fun r h1 h2 => by
    refine ⟨fun q => absurd q n1, fun _ => in_yes (nI_pos (by omega)) (nI_nlt (a := 4) hc (by omega)) (br1 ⟨i55, ?_⟩)⟩
    rw [show (55 : Int32).toNatClampNeg = 55 from rfl, b5]
    refine ⟨fun q => ?_, fun q => ⟨i55, ?_⟩⟩
    · exact ⟨(h1 ((nI_leI (by omega) ha).mp q)).symm, hR0⟩
    · have hlt : a < K := Classical.byContradiction fun n => q (nI_le (by omega) ha)
      have e1 : (56 : Int32) + 5 * (nI K - 1 - nI a) + nI c = nI (56 + 5 * (K - 1 - a) + c) := by
        rw [nI_m1 (by omega), pk_sub (by omega), show (5 : Int32) = nI 5 from rfl, pk_mul, show (56 : Int32) = nI 56 from rfl, nI_add, nI_add]
      rw [e1, nI_clamp (show 56 + 5 * (K - 1 - a) + c < 2147483648 by omega)]
      exact ⟨vp_in_nI (by omega) (by decide), (h2 hlt).symm, hR0⟩
  refine ⟨fun q => absurd q n1, fun _ => ⟨fun q => absurd q (nI_pos (by omega)), fun _ => ⟨fun _ => ⟨fun q => ?_, fun q => ?_⟩, fun q => absurd (nI_lt (b := 5) (by omega) (by omega)) q⟩⟩⟩
  · have hle : K ≤ a := (nI_leI (by omega) ha).mp q
    exact hm _ (fun _ => rfl) (fun n => absurd n (by omega))
  · have hlt : a < K := Classical.byContradiction fun n => q (nI_le (by omega) ha)
    have hval := b6 a hlt c (by omega)
    rw [Nat.mul_zero, Nat.zero_add, Nat.zero_add] at hval
    have h14 : ∀ m : Nat, m = (N + 10 - a) % 10 → B_X3_told_14 (fun r => F_X6_log (nI a) (nI c) ms (fun q => q = r ∧ RR (T + 1) tl tx fr hd nw kp pt hr lr ms mb mt gn gt)) nw lr 0 (nI c) (nI m) := fun m hme => by
      refine ⟨fun q => absurd q (nI_pos (by omega)), fun _ => ⟨fun q => absurd q (nI_ge (b := 10) (by omega) (by omega)), fun _ => ⟨vp_in_nI (by omega) (by decide), vp_in_nI (by omega) (by decide), ?_⟩⟩⟩
      rw [nI_clamp (show m < 2147483648 by omega), nI_clamp (show c < 2147483648 by omega), Nat.mul_zero, Nat.zero_add, hme, hval]
      exact hm _ (fun n => absurd n (by omega)) (fun _ => rfl)
    unfold F_X3_told B_X3_told_0
    rw [b4]
    have ez : nI N - nI a = zI ((N : Int) - a) := by rw [← zI_nat, ← zI_nat, zI_sub]
    rw [ez]
    refine ⟨fun q => ?_, fun q => ?_⟩
    · rw [show (0 : Int32) = zI 0 from rfl, zI_le (by omega) (by omega) (by omega) (by omega)] at q
      have e : zI ((N : Int) - a) = nI (N - a) := by rw [← zI_nat]; congr 1; omega
      rw [e]; exact h14 _ (by omega)
    · rw [show (0 : Int32) = zI 0 from rfl, zI_le (by omega) (by omega) (by omega) (by omega)] at q
      have e : zI ((N : Int) - a) + 10 = nI (N + 10 - a) := by
        rw [show (10 : Int32) = zI 10 from rfl, zI_add, ← zI_nat]; congr 1; omega
      rw [e]; exact h14 _ (by omega)
/-! sums over the hearers -/
def sumH (g : Nat → Int32) : Nat → Int32
  | 0 => 0
  | n + 1 => sumH g n + g n
theorem sumH_congr {g g' : Nat → Int32} : ∀ n, (∀ h, h < n → g h = g' h) → sumH g n = sumH g' n
  | 0, _ => rfl
  | n + 1, h => by
    show sumH g n + g n = sumH g' n + g' n
    rw [sumH_congr n (fun k hk => h k (by omega)), h n (by omega)]
theorem sp_total {c0 cn : Nat} {g : Nat → Int32} {Q : Int32 → Prop} (hc : c0 + cn ≤ 9)
    (hg : ∀ (h : Nat) (s : Int32) (kh : Nat → Int32 → Int32 → Int32 → Int32 → Prop), h < 6 → kh 0 (nI c0) (nI cn) (s + g h) (nI h + 1) → ∃ n9 : Nat, L_X3_total_15 kh Q hr n9 0 (nI c0) (nI cn) s (nI h) (nI c0)) (hQ : Q (sumH g 6)) : F_X3_total 0 (nI c0) (nI cn) hr Q := by
  have key : ∀ m h, h + m = 6 → L_X3_total_5 Q hr (m + 1) 0 (nI c0) (nI cn) (sumH g h) (nI h) := by
    intro m
    induction m with
    | zero =>
      intro h hh
      have hh : h = 6 := by omega
      subst hh
      exact ⟨fun _ => hQ, fun q => absurd (nI_le (a := 6) (by omega) (by omega)) q⟩
    | succ m ih =>
      intro h hh
      refine ⟨fun q => absurd q (nI_ge (b := 6) (by omega) (by omega)), fun _ => hg h _ _ (by omega) ?_⟩
      rw [nI_1]
      exact ih (h + 1) (by omega)
  exact ⟨6 + 1, key 6 0 (by omega)⟩
theorem row_in {h c : Nat} (hh : h < 6) (hc : c < 9) : vp_in (nI h) 6 ∧ vp_in (nI c) 9 ∧ hr (6 * 0 + (nI h).toNatClampNeg) (nI c).toNatClampNeg = hr h c := by
  refine ⟨vp_in_nI hh (by decide), vp_in_nI hc (by decide), ?_⟩
  rw [nI_clamp (show h < 2147483648 by omega), nI_clamp (show c < 2147483648 by omega), Nat.mul_zero, Nat.zero_add]
theorem sp_total1 {c : Nat} {Q : Int32 → Prop} (hc : c < 9) (hQ : Q (sumH (fun h => hr h c) 6)) : F_X3_total 0 (nI c) 1 hr Q := by
  refine sp_total (cn := 1) (by omega) (fun h s kh hh hk => ?_) hQ
  obtain ⟨i1, i2, i3⟩ := row_in (hr := hr) hh hc
  have e1 : nI c + nI 1 = nI (c + 1) := nI_add c 1
  refine ⟨2, ⟨fun q => ?_, fun _ => ⟨fun q => absurd q (nI_ge (b := 9) hc (by omega)), fun _ => ⟨i1, i2, ⟨fun _ => ?_, fun q => ?_⟩⟩⟩⟩⟩
  · rw [e1] at q; exact absurd q (nI_ge (by omega) (by omega))
  · unfold B_X3_total_49
    rw [i3]; exact hk
  · rw [e1, nI_1] at q; exact absurd (nI_le (Nat.le_refl _) (by omega)) q
theorem sp_total3 {c : Nat} {Q : Int32 → Prop} (hc : c + 2 < 9) (hQ : Q (sumH (fun h => hr h c + hr h (c + 1) + hr h (c + 2)) 6)) : F_X3_total 0 (nI c) 3 hr Q := by
  refine sp_total (cn := 3) (by omega) (fun h s kh hh hk => ?_) hQ
  obtain ⟨i1, i2, i3⟩ := row_in (hr := hr) hh (show c < 9 by omega)
  obtain ⟨-, j2, j3⟩ := row_in (hr := hr) hh (show c + 1 < 9 by omega)
  obtain ⟨-, k2, k3⟩ := row_in (hr := hr) hh hc
  have e3 : nI c + nI 3 = nI (c + 3) := nI_add c 3
  have e1 : nI c + 1 = nI (c + 1) := nI_1 c
  have e2 : nI (c + 1) + 1 = nI (c + 2) := nI_1 (c + 1)
  have e4 : nI (c + 2) + 1 = nI (c + 3) := nI_1 (c + 2)
  refine ⟨4, ⟨fun q => ?_, fun _ => ⟨fun q => absurd q (nI_ge (b := 9) (by omega) (by omega)), fun _ => ⟨i1, i2, ?_⟩⟩⟩⟩
  · rw [e3] at q; exact absurd q (nI_ge (by omega) (by omega))
  rw [i3, e1]
  refine ⟨fun q => ?_, fun _ => ⟨fun q => absurd q (nI_ge (b := 9) (by omega) (by omega)), fun _ => ⟨i1, j2, ?_⟩⟩⟩
  · rw [e3] at q; exact absurd q (nI_ge (by omega) (by omega))
  rw [j3, e2]
  refine ⟨fun q => ?_, fun _ => ⟨fun q => absurd q (nI_ge (b := 9) (by omega) (by omega)), fun _ => ⟨i1, k2, ?_⟩⟩⟩
  · rw [e3] at q; exact absurd q (nI_ge (by omega) (by omega))
  rw [k3, e4]
  refine ⟨fun _ => ?_, fun q => ?_⟩
  · unfold B_X3_total_49
    have e9 : s + hr h c + hr h (c + 1) + hr h (c + 2) = s + (hr h c + hr h (c + 1) + hr h (c + 2)) := by
      rw [Int32.add_assoc, Int32.add_assoc, Int32.add_assoc]
    rw [e9]; exact hk
  · rw [e3] at q; exact absurd (nI_le (Nat.le_refl _) (by omega)) q
def rowV (ms : Nat → Int32) (v : Int32) (h : Nat) : Int32 := if v = 0 then ms (9 * h + 7) else if v = 1 then ms (9 * h + 8) else if v = 2 then ms (9 * h + 0) + ms (9 * h + 1) + ms (9 * h + 2) else ms (9 * h + 3) + ms (9 * h + 4) + ms (9 * h + 5)
theorem sp_sumOf {Q : Int32 → Prop} (hQ : Q (sumH (rowV ms v) 6)) : F_X6_sumOf v ms Q := by
  have key : ∀ m h, h + m = 6 → L_X6_sumOf_4 Q ms (m + 1) v (sumH (rowV ms v) h) (nI h) := by
    intro m
    induction m with
    | zero =>
      intro h hh
      have hh : h = 6 := by omega
      subst hh
      exact ⟨fun _ => hQ, fun q => absurd (nI_le (a := 6) (by omega) (by omega)) q⟩
    | succ m ih =>
      intro h hh
      have h5 := ih (h + 1) (by omega)
      have e9 : ∀ c : Nat, c < 9 → (9 : Int32) * nI h + nI c = nI (9 * h + c) := fun c _ => by rw [show (9 : Int32) = nI 9 from rfl, pk_mul, nI_add]
      have i9 : ∀ c : Nat, c < 9 → vp_in (nI (9 * h + c)) 106 := fun c hc => vp_in_nI (by omega) (by decide)
      have c9 : ∀ c : Nat, c < 9 → (nI (9 * h + c)).toNatClampNeg = 9 * h + c := fun c hc => nI_clamp (by omega)
      have e7 : (9 : Int32) * nI h + 7 = nI (9 * h + 7) := e9 7 (by omega)
      have e8 : (9 : Int32) * nI h + 8 = nI (9 * h + 8) := e9 8 (by omega)
      have e3 : (9 : Int32) * nI h + 3 = nI (9 * h + 3) := e9 3 (by omega)
      have e4 : nI (9 * h + 3) + 1 = nI (9 * h + 4) := nI_1 _
      have e5 : nI (9 * h + 3) + 2 = nI (9 * h + 5) := nI_add _ 2
      have fin : ∀ x : Int32, x = rowV ms v h → B_X6_sumOf_98 (L_X6_sumOf_4 Q ms (m + 1)) Q ms v (nI h) (sumH (rowV ms v) h) x := fun x hx => by
        unfold B_X6_sumOf_98
        rw [nI_1, hx]; exact h5
      refine ⟨fun q => absurd q (nI_ge (b := 6) (by omega) (by omega)), fun _ => ⟨fun q => ?_, fun q => ⟨fun q1 => ?_, fun q1 => ⟨fun q2 => ?_, fun q2 => ?_⟩⟩⟩⟩
      · rw [e7, c9 7 (by omega)]
        exact ⟨i9 7 (by omega), fin _ (by unfold rowV; rw [if_pos q])⟩
      · rw [e8, c9 8 (by omega)]
        exact ⟨i9 8 (by omega), fin _ (by unfold rowV; rw [if_neg q, if_pos q1])⟩
      · have e0 : (9 : Int32) * nI h = nI (9 * h + 0) := by rw [show (9 : Int32) = nI 9 from rfl, pk_mul, Nat.add_zero]
        have e10 : nI (9 * h + 0) + 1 = nI (9 * h + 1) := nI_1 _
        have e20 : nI (9 * h + 0) + 2 = nI (9 * h + 2) := nI_add _ 2
        unfold F_X6_known B_X6_known_0
        rw [e0, e10, e20, c9 0 (by omega), c9 1 (by omega), c9 2 (by omega)]
        exact ⟨i9 0 (by omega), i9 1 (by omega), i9 2 (by omega), fin _ (by unfold rowV; rw [if_neg q, if_neg q1, if_pos q2])⟩
      · rw [e3, e4, e5, c9 3 (by omega), c9 4 (by omega), c9 5 (by omega)]
        exact ⟨i9 3 (by omega), i9 4 (by omega), i9 5 (by omega), fin _ (by unfold rowV; rw [if_neg q, if_neg q1, if_neg q2])⟩
  exact ⟨6 + 1, key 6 0 (by omega)⟩
theorem eq_sum (hR : RR T tl tx fr hd nw kp pt hr lr ms mb mt gn gt) : F_X5_sum v1 hr (fun r => F_X6_sum v1 ms (fun q => q = r ∧ RR (T + 1) tl tx fr hd nw kp pt hr lr ms mb mt gn gt)) := by
  have hR0 := RR_1 hR
  obtain ⟨w, F, H, hw, x1, x2, x3, hH, hS⟩ := hR
  have hm : ∀ c : Nat, c ≤ 3 → v1 = nI c → ∀ r : Int32, sumH (rowV ms v1) 6 = r → F_X6_sum v1 ms (fun q => q = r ∧ RR (T + 1) tl tx fr hd nw kp pt hr lr ms mb mt gn gt) := fun c hc e r hr9 => by
    subst e
    exact in_yes (nI_pos (by omega)) (nI_nlt (a := 3) hc (by omega)) (br1 (sp_sumOf ⟨hr9, hR0⟩))
  have at9 : ∀ h c, h < 6 → c < 9 → ms (9 * h + c) = hr h c := fun h c a b => (SR_at hS a b).symm
  refine ⟨fun q => ?_, fun q0 => ⟨fun q => ?_, fun q1 => ⟨fun q => ?_, fun q2 => ⟨fun q => ?_, fun q3 => ?_⟩⟩⟩⟩
  · refine sp_total1 (c := 7) (by omega) (hm 0 (by omega) q _ (sumH_congr 6 (fun h hh => ?_)))
    unfold rowV
    rw [if_pos q]; exact at9 h 7 hh (by omega)
  · refine sp_total1 (c := 8) (by omega) (hm 1 (by omega) q _ (sumH_congr 6 (fun h hh => ?_)))
    unfold rowV
    rw [if_neg q0, if_pos q]; exact at9 h 8 hh (by omega)
  · refine sp_total3 (c := 0) (by omega) (hm 2 (by omega) q _ (sumH_congr 6 (fun h hh => ?_)))
    unfold rowV
    rw [if_neg q0, if_neg q1, if_pos q, at9 h 0 hh (by omega), at9 h 1 hh (by omega), at9 h 2 hh (by omega)]
  · refine sp_total3 (c := 3) (by omega) (hm 3 (by omega) q _ (sumH_congr 6 (fun h hh => ?_)))
    unfold rowV
    rw [if_neg q0, if_neg q1, if_neg q2, at9 h 3 hh (by omega), at9 h 4 hh (by omega), at9 h 5 hh (by omega)]
  · rcases rng v1 3 (by omega) with n | ⟨c, hc, e⟩
    · exact in_no n (br0 ⟨rfl, hR0⟩)
    · exfalso
      have hc4 : c = 0 ∨ c = 1 ∨ c = 2 ∨ c = 3 := by omega
      rcases hc4 with z | z | z | z <;> subst z
      · exact q0 e
      · exact q1 e
      · exact q2 e
      · exact q3 e
theorem eq_patience (hR : RR T tl tx fr hd nw kp pt hr lr ms mb mt gn gt) : F_X5_patience pt (fun r => F_X6_patience ms (fun q => q = r ∧ RR (T + 1) tl tx fr hd nw kp pt hr lr ms mb mt gn gt)) := by
  have hR0 := RR_1 hR
  obtain ⟨w, F, H, hw, x1, x2, x3, hH, hS⟩ := hR
  exact ⟨vp_in_nI (n := 54) (by omega) (by decide), (SR_pt hS).symm, hR0⟩
/-! the share -/
theorem n32_core {x : UInt32} (h : FP.Core.fIsNaN x = false) : vf_n32 x := by
  unfold vf_n32
  rw [UInt32.le_iff_toNat_le, UInt32.toNat_and]
  have h1 : (0x7fffffff : UInt32).toNat = 2 ^ 31 - 1 := by decide
  have h2 : (0x7f800000 : UInt32).toNat = 2139095040 := by decide
  rw [h1, h2, Nat.and_two_pow_sub_one_eq_mod]
  rw [← Bool.not_eq_true, FP.Core.isNaN_bits32] at h
  omega
theorem share_core {a b : Int32} (hb : b ≠ 0) : FP.Core.fIsNaN (FP.fdiv (FP.i2f a) (FP.i2f b)) = false := by
  refine FP.Core.fdiv_out (FP.Core.i2f_fin a).notNaN (FP.Core.i2f_fin b) (fun hz => ?_)
  exact FP.Core.i2f_ne_zero hb ((FP.Core.zero_bits232 _).mp hz)
theorem sum_told (hS : SR T nw kp pt hr lr 0 ms 0) (hT : T ≤ 100000) : ∃ s : Nat, s ≤ 6 * T ∧ sumH (fun h => hr h 7) 6 = nI s := by
  have key : ∀ n, n ≤ 6 → ∃ s : Nat, s ≤ n * T ∧ sumH (fun h => hr h 7) n = nI s := by
    intro n
    induction n with
    | zero => intro _; exact ⟨0, by omega, rfl⟩
    | succ n ih =>
      intro hn
      obtain ⟨s, h1, h2⟩ := ih (by omega)
      obtain ⟨e, t, y1, y2, y3, y4⟩ := SR_te hS (show n < 6 by omega)
      refine ⟨s + t, ?_, ?_⟩
      · rw [Nat.add_mul, Nat.one_mul]; omega
      · show sumH (fun h => hr h 7) n + hr n 7 = _
        rw [h2, SR_at hS (by omega) (by omega), y3, nI_add]
  exact key 6 (Nat.le_refl 6)
/-- what share answers is no NaN -/
theorem eq_share (hT : T ≤ 100000) (hR : RR T tl tx fr hd nw kp pt hr lr ms mb mt gn gt) : F_X5_share hr (fun r => F_X6_share ms (fun q => q = r ∧ FP.Core.fIsNaN r = false ∧ RR (T + 1) tl tx fr hd nw kp pt hr lr ms mb mt gn gt)) := by
  have hR0 := RR_1 hR
  obtain ⟨w, F, H, hw, x1, x2, x3, hH, hS⟩ := hR
  obtain ⟨s, s1, s2⟩ := sum_told hS hT
  have at9 : ∀ h c, h < 6 → c < 9 → ms (9 * h + c) = hr h c := fun h c a b => (SR_at hS a b).symm
  have t7 : sumH (rowV ms 0) 6 = sumH (fun h => hr h 7) 6 := sumH_congr 6 (fun h hh => by unfold rowV; rw [if_pos rfl]; exact at9 h 7 hh (by omega))
  have t8 : sumH (rowV ms 1) 6 = sumH (fun h => hr h 8) 6 := sumH_congr 6 (fun h hh => by unfold rowV; rw [if_neg (by decide), if_pos rfl]; exact at9 h 8 hh (by omega))
  unfold F_X5_share B_X5_share_0
  refine sp_total1 (c := 7) (by omega) ⟨fun q => sp_total1 (c := 8) (by omega) ?_, fun q => ?_⟩
  · have hne : sumH (fun h => hr h 7) 6 ≠ 0 := fun e => by rw [e] at q; exact absurd q (by decide)
    have hn := share_core (a := sumH (fun h => hr h 7) 6 - sumH (fun h => hr h 8) 6) hne
    refine ⟨n32_core hn, sp_sumOf ?_⟩
    rw [t7]
    refine ⟨fun q2 => absurd q2 hne, fun _ => sp_sumOf ?_⟩
    rw [t8]
    exact ⟨n32_core hn, rfl, hn, hR0⟩
  · have e : sumH (fun h => hr h 7) 6 = 0 := by
      rw [s2] at q ⊢
      rcases Nat.eq_zero_or_pos s with z | z
      · rw [z]; rfl
      · exact absurd (nI_lt (a := 0) z (by omega)) q
    refine sp_sumOf ?_
    rw [t7]
    exact ⟨fun _ => ⟨rfl, by decide, hR0⟩, fun q2 => absurd e q2⟩
end CALLS
