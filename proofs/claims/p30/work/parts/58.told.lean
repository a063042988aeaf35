/-! PURE F: a number is told -/
theorem sumH_bits1 {P : Nat → Prop} [DecidablePred P] {h : Nat} (hP : P h) : ∀ n, n ≤ 6 → h < n → ∃ s : Nat, 1 ≤ s ∧ s ≤ n ∧ sumH (fun h => if P h then (1 : Int32) else 0) n = nI s
  | 0, _, q => absurd q (Nat.not_lt_zero _)
  | n + 1, hn, q => by
    show ∃ s : Nat, 1 ≤ s ∧ s ≤ n + 1 ∧ sumH (fun h => if P h then (1 : Int32) else 0) n + (if P n then (1 : Int32) else 0) = nI s
    by_cases e : h = n
    · obtain ⟨s, h1, h2⟩ := sumH_bits (P := P) n (by omega)
      rw [h2, if_pos (e ▸ hP), nI_1]
      exact ⟨s + 1, by omega, by omega, rfl⟩
    · obtain ⟨s, h0, h1, h2⟩ := sumH_bits1 (P := P) hP n (by omega) (by omega)
      rw [h2]
      by_cases z : P n
      · rw [if_pos z, nI_1]; exact ⟨s + 1, by omega, by omega, rfl⟩
      · rw [if_neg z, Int32.add_zero]; exact ⟨s, h0, by omega, rfl⟩
theorem und_ne {x : Int32} (hx : x ≠ -5) : ((if x = 0 then (-5 : Int32) else x) = -5 → x = 0) ∧ ((if x = 0 then (-5 : Int32) else x) ≠ -5 → (if x = 0 then (-5 : Int32) else x) = x) := by
  by_cases q : x = 0
  · rw [if_pos q]; exact ⟨fun _ => q, fun n => absurd rfl n⟩
  · rw [if_neg q]; exact ⟨fun n => absurd n hx, fun _ => rfl⟩
theorem und_num {x : Int32} {n : Nat} (h1 : 1 ≤ n) (hn : n < 8000) : (if x = 0 then (-5 : Int32) else x) = nI n ↔ x = nI n := by
  by_cases q : x = 0
  · rw [if_pos q, q]
    refine ⟨fun e => absurd e.symm (nI_ne5 (by omega)), fun e => ?_⟩
    have := (nI_eq (a := 0) (by omega) (by omega)).mp e
    omega
  · rw [if_neg q]
section TOLDS
variable {M N P F H : Nat} {nw kp pt : Nat → Int32} {hr lr : Nat → Nat → Int32} {mn fr hd e0 e1 e2 e3 e4 e5 e6 e7 e8 e9 e10 : Int32} {sd : Nat → Int64}
theorem lg_now {c : Nat} {Q : Int32 → Prop} (hs : SC M N P nw kp pt hr lr) (hM : 0 < M) (hc : c < 5) (hQ : Q (lr N c)) : F_X5_log (nI 0) (nI c) nw kp lr Q := by
  obtain ⟨b1, b2, b3, b4, b5, b6, b7, b8, b9⟩ := hs
  refine dx_log b3 b2 (by omega) b1 (by omega) hc (fun n => absurd n (by omega)) (fun _ => ?_)
  rw [show (N + 10 - 0) % 10 = N by omega]
  exact hQ
theorem ok_184 {h n p x y : Nat} {w : List Nat} {v9 v11 : Int32} {U : Int32} {Q : Int32 → Int32 → (Nat → Int64) → Int32 → Int32 → Int32 → Int32 → Int32 → Int32 → Int32 → Int32 → Int32 → Int32 → Int32 → Int32 → Int32 → (Nat → Int32) → (Nat → Int32) → (Nat → Int32) → (Nat → Nat → Int32) → (Nat → Nat → Int32) → Prop}
    (hs : SC (M + 1) N P nw kp pt hr lr) (h1 : 1 ≤ n) (hn : n < 8000) (hp : p < (Ws n).length) (hw : (Ws n).getD p [] = w) (hx : x ≤ 3) (hy : y ≤ 3) (l0 : lr N 0 = nI h) (l1 : lr N 1 = nI n) (l2 : lr N 2 = nI w.length) (l3 : U = (if lr N 3 = 0 then -5 else lr N 3)) (l3b : lr N 3 ≠ -5) (l4 : lr N 4 = (if x < y then 1 else 0)) (h9 : v11 ≠ 0 → 0 < v9)
    (hQ : ∀ mn sd, Q 1 mn sd e0 e1 e2 e3 e4 e5 e6 e7 e8 e9 e10 fr hd nw kp pt hr lr) : B_L_isTold_184 Q (nI h) (nI n) (nI p) U (nI x) v9 v11 (nI y) mn sd e0 e1 e2 e3 e4 e5 e6 e7 e8 e9 e10 fr hd nw kp pt hr lr := by
  have k239 : ∀ (s1 : Int32) mn sd, lr N 3 = s1 → B_L_isTold_239 Q (nI x) v9 v11 (nI y) (lr N 3) s1 mn sd e0 e1 e2 e3 e4 e5 e6 e7 e8 e9 e10 fr hd nw kp pt hr lr := fun s1 mn sd es => by
    unfold B_L_isTold_239 B_L_isTold_260 B_L_isTold_273 B_L_isTold_278
    have kend : ∀ s : Int32, lr N 4 = s → ((lr N 4 = s → ((0 < v9 → (isBo 1 ∧ Q 1 mn sd e0 e1 e2 e3 e4 e5 e6 e7 e8 e9 e10 fr hd nw kp pt hr lr)) ∧ (¬ 0 < v9 → ((v11 = 0 → (isBo 1 ∧ Q 1 mn sd e0 e1 e2 e3 e4 e5 e6 e7 e8 e9 e10 fr hd nw kp pt hr lr)) ∧ (¬ v11 = 0 → (B_L_isTold_277 Q mn sd e0 e1 e2 e3 e4 e5 e6 e7 e8 e9 e10 fr hd nw kp pt hr lr)))))) ∧ (¬ lr N 4 = s → (B_L_isTold_277 Q mn sd e0 e1 e2 e3 e4 e5 e6 e7 e8 e9 e10 fr hd nw kp pt hr lr))) := fun s hs9 =>
      ⟨fun _ => ⟨fun _ => ⟨isBo1, hQ _ _⟩, fun q => ⟨fun _ => ⟨isBo1, hQ _ _⟩, fun q2 => absurd (h9 q2) q⟩⟩, fun n => absurd hs9 n⟩
    refine ⟨fun _ => lg_now (c := 4) hs (by omega) (by omega) ⟨fun q => kend 0 ?_, fun q => kend 1 ?_⟩, fun n => absurd es n⟩
    · have : y ≤ x := (nI_leI (by omega) (by omega)).mp q
      rw [l4, if_neg (by omega)]
    · have : ¬ y ≤ x := fun n => q (nI_le n (by omega))
      rw [l4, if_pos (by omega)]
  unfold B_L_isTold_184
  refine lg_now (c := 0) hs (by omega) (by omega) ⟨fun _ => lg_now (c := 1) hs (by omega) (by omega) ⟨fun _ => lg_now (c := 2) hs (by omega) (by omega) (dx_wayLength h1 hn hp (fun mn' sd' => ⟨fun _ => lg_now (c := 3) hs (by omega) (by omega) ⟨fun q => ?_, fun q => ?_⟩, fun n => absurd ?_ n⟩)), fun n => absurd l1 n⟩, fun n => absurd l0 n⟩
  · rw [l3] at q
    exact k239 _ _ _ ((und_ne l3b).1 q)
  · rw [l3] at q
    exact k239 _ _ _ (by rw [l3]; exact ((und_ne l3b).2 q).symm)
  · rw [l2, hw]
theorem ok_isTold {h n st : Nat} {Q : Int32 → Int32 → (Nat → Int64) → Int32 → Int32 → Int32 → Int32 → Int32 → Int32 → Int32 → Int32 → Int32 → Int32 → Int32 → Int32 → Int32 → (Nat → Int32) → (Nat → Int32) → (Nat → Int32) → (Nat → Nat → Int32) → (Nat → Nat → Int32) → Prop}
    (hF : F < 4) (hH : H ≤ 4) (hs : SC M N P nw kp pt hr lr) (hM : M ≤ 1000) (hh : h < 6) (h1 : 1 ≤ n) (hn : n < 8000) (hst : st ≤ 3)
    (hQ : ∀ mn sd e0 e1 e2 e3 e4 e5 e6 e7 e8 e9 e10 nw2 kp2 pt2 hr2 lr2, SC (M + 1) ((N + 1) % 10) P nw2 kp2 pt2 hr2 lr2 → Q 1 mn sd e0 e1 e2 e3 e4 e5 e6 e7 e8 e9 e10 (nI ((F + 1) % 4)) (nI (min (H + 1) 4)) nw2 kp2 pt2 hr2 lr2) :
    F_L_isTold (nI h) (nI n) (nI st) mn sd e0 e1 e2 e3 e4 e5 e6 e7 e8 e9 e10 (nI F) (nI H) nw kp pt hr lr Q := by
  obtain ⟨f1, f2, f3⟩ := Ws_facts h1 hn
  have hp := stP_lt (st := st) f2
  obtain ⟨a, a1, a2, a3⟩ := SC_att hs hh
  generalize hpe : stP (Ws n) st = p at hp
  generalize hw : (Ws n).getD p [] = w
  unfold F_L_isTold B_L_isTold_0
  refine dx_styled h1 hn hst (fun _ _ => ?_)
  rw [hpe]
  refine dx_understood hh h1 hn hp a3 a2 (fun _ _ _ _ _ _ _ _ _ _ _ _ _ => ?_)
  rw [hw]
  refine dx_hearer hh (c := 7) (by omega) (dx_hearer hh (c := 8) (by omega) (dx_hearer hh (c := 0) (by omega) (dx_hearer hh (c := 1) (by omega) (dx_hearer hh (c := 2) (by omega) (dx_reach h1 hn hst (SC_atts hs) (fun _ _ _ _ _ _ _ _ _ _ _ _ _ => ?_))))))
  refine dx_tell hF hH hh h1 hn hst hs (fun mn' sd' c0 c1 c2 c3 c4 c5 c6 c7 c8 c9 c10 nw2 kp2 pt2 hr2 lr2 k1 k2 => ?_)
  rw [hpe, hw] at k2 ⊢
  obtain ⟨t7, t8, ⟨x, y, y1, y2, y3, y4, y5, y6⟩, l0, l1, l2, l3, -⟩ := k2
  have hfin := hQ
  have hU : hrd (hr h) w ≠ -5 := hrd_ne5 _ _
  have k86 : ∀ (s0 v9 : Int32), isBo s0 → (s0 ≠ 0 → hrd (hr h) w = nI n ∧ 0 < v9) → (s0 = 0 → hrd (hr h) w ≠ nI n) →
      B_L_isTold_86 Q (nI h) (nI n) (nI p) (if hrd (hr h) w = 0 then -5 else hrd (hr h) w) (hr h 7) (hr h 8) (hr h 0 + hr h 1 + hr h 2) v9 (if hrd (hr h) w = nI n then 1 else 0) s0 mn' sd' c0 c1 c2 c3 c4 c5 c6 c7 c8 c9 c10 (nI ((F + 1) % 4)) (nI (min (H + 1) 4)) nw2 kp2 pt2 hr2 lr2 := fun s0 v9 hb z1 z0 => by
    have k184 : B_L_isTold_184 Q (nI h) (nI n) (nI p) (if hrd (hr h) w = 0 then -5 else hrd (hr h) w) (nI x) v9 s0 (nI y) mn' sd' c0 c1 c2 c3 c4 c5 c6 c7 c8 c9 c10 (nI ((F + 1) % 4)) (nI (min (H + 1) 4)) nw2 kp2 pt2 hr2 lr2 :=
      ok_184 k1 h1 hn hp hw (by omega) y2 l0 l1 l2 (by rw [l3]) (by rw [l3]; exact hU) y6 (fun q => (z1 q).2) (fun _ _ => hQ _ _ _ _ _ _ _ _ _ _ _ _ _ _ _ _ _ _ k1)
    unfold B_L_isTold_86
    refine dx_hearer hh (c := 0) (by omega) (dx_hearer hh (c := 1) (by omega) (dx_hearer hh (c := 2) (by omega) ?_))
    rw [y3, y4]
    unfold B_L_isTold_122 B_L_isTold_158
    refine ⟨fun q => ?_, fun q => ?_⟩
    · have hne := z0 q
      rw [if_neg hne]
      rw [if_neg hne] at t8
      subst q
      refine ⟨fun _ => dx_hearer hh (c := 7) (by omega) ⟨fun _ => dx_hearer hh (c := 8) (by omega) (br0 ⟨fun _ => br0 ⟨fun q2 => ?_, fun _ => k184⟩, fun n => absurd t8 n⟩), fun n => absurd t7 n⟩, fun n => absurd rfl n⟩
      exact absurd q2 (nI_nlt y1 (by omega))
    · have heq := (z1 q).1
      have hxy := y5 heq
      rw [if_pos heq]
      rw [if_pos heq] at t8
      refine ⟨fun _ => dx_hearer hh (c := 7) (by omega) ⟨fun _ => dx_hearer hh (c := 8) (by omega) ⟨fun n => absurd n q, fun _ => ⟨fun _ => ⟨fun n => absurd n q, fun _ => ⟨fun _ => k184, fun n => absurd (by rw [hxy]) n⟩⟩, fun n => absurd t8 n⟩⟩, fun n => absurd t7 n⟩, fun n => absurd rfl n⟩
  have hr9 : hrd (hr h) w = nI n → 0 < rcd hr w (nI n) := fun q => by
    obtain ⟨s, s1, s2, s3⟩ := sumH_bits1 (P := fun i => hrd (hr i) w = nI n) (h := h) q 6 (Nat.le_refl 6) hh
    have s3 : rcd hr w (nI n) = nI s := s3
    rw [s3]
    exact nI_lt (a := 0) (by omega) (by omega)
  refine ⟨fun q => ?_, fun q => ?_⟩
  · have e := (und_num h1 hn).mp q
    exact k86 1 _ isBo1 (fun _ => ⟨e, hr9 e⟩) (fun n => absurd n (by decide))
  · have e : hrd (hr h) w ≠ nI n := fun e => q ((und_num h1 hn).mpr e)
    exact k86 0 _ isBo0 (fun n => absurd rfl n) (fun _ => e)
end TOLDS
