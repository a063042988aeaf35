/-! PURE G: an act of the law -/
theorem shm {k s d : Nat} {sI : Int32} (hk : k < 2147483648) (hs : ((sI &&& 31).toBitVec.smod 32).toNat = s) (d1 : 0 < d) (d2 : d < 2147483648) : (nI k >>> (sI &&& 31)) - (nI k >>> (sI &&& 31)) / nI d * nI d = nI (k / 2 ^ s % d) := by
  rw [pk_shrN hk _ s hs]
  exact pk_rem (Nat.lt_of_le_of_lt (Nat.div_le_self _ _) hk) d1 d2
section ACTS
variable {M N P F H : Nat} {nw kp pt tx : Nat → Int32} {hr lr : Nat → Nat → Int32} {tl mn fr hd e0 e1 e2 e3 e4 e5 e6 e7 e8 e9 e10 : Int32} {sd : Nat → Int64}
theorem dx_learn {h j F H : Nat} {Q : Int32 → Int32 → Int32 → (Nat → Int32) → (Nat → Int32) → (Nat → Int32) → (Nat → Nat → Int32) → (Nat → Nat → Int32) → Prop} (hh : h < 6) (hj : j < 3) (hF : F < 4) (hH : H ≤ 4)
    (hQ : ∀ nw1 kp1 pt1 hr1 lr1 hr2, SnEq nw1 kp1 pt1 hr1 lr1 (1 + F) nw kp pt hr lr 0 → (∀ k, k ≠ 1 + F → SnEq nw1 kp1 pt1 hr1 lr1 k nw kp pt hr lr k) → hr2 h = upd (upd (hr1 h) j 1) (3 + j) 0 → (∀ i, i ≠ h → hr2 i = hr1 i) → Q (hr2 h 0 + hr2 h 1 + hr2 h 2) (nI ((F + 1) % 4)) (nI (min (H + 1) 4)) nw1 kp1 pt1 hr2 lr1) : F_X5_learn (nI h) (nI j) (nI F) (nI H) nw kp pt hr lr Q := dx_putWord hh hj hF hH hQ
theorem dx_unlearn {h j F H : Nat} {Q : Int32 → Int32 → Int32 → (Nat → Int32) → (Nat → Int32) → (Nat → Int32) → (Nat → Nat → Int32) → (Nat → Nat → Int32) → Prop} (hh : h < 6) (hj : j < 3) (hF : F < 4) (hH : H ≤ 4)
    (hQ : ∀ nw1 kp1 pt1 hr1 lr1 hr2, SnEq nw1 kp1 pt1 hr1 lr1 (1 + F) nw kp pt hr lr 0 → (∀ k, k ≠ 1 + F → SnEq nw1 kp1 pt1 hr1 lr1 k nw kp pt hr lr k) → hr2 h = upd (upd (hr1 h) j 0) (3 + j) 0 → (∀ i, i ≠ h → hr2 i = hr1 i) → Q (hr2 h 0 + hr2 h 1 + hr2 h 2) (nI ((F + 1) % 4)) (nI (min (H + 1) 4)) nw1 kp1 pt1 hr2 lr1) : F_X5_unlearn (nI h) (nI j) (nI F) (nI H) nw kp pt hr lr Q := dx_putWord hh hj hF hH hQ
theorem RW_one {M j : Nat} {r : Nat → Int32} (h : RW3 M r) (hj : j < 3) (e : r j = nI 1) : ∃ x : Nat, 1 ≤ x ∧ x ≤ 3 ∧ r 0 + r 1 + r 2 = nI x := by
  obtain ⟨x, x1, x2⟩ := RW_bit h (j := 0) (by omega)
  obtain ⟨y, y1, y2⟩ := RW_bit h (j := 1) (by omega)
  obtain ⟨z, z1, z2⟩ := RW_bit h (j := 2) (by omega)
  refine ⟨x + y + z, ?_, by omega, by rw [x2, y2, z2, nI_add, nI_add]⟩
  rcases (show j = 0 ∨ j = 1 ∨ j = 2 by omega) with q | q | q <;> subst q
  · have := (nI_eq (by omega) (by omega)).mp (x2.symm.trans e); omega
  · have := (nI_eq (by omega) (by omega)).mp (y2.symm.trans e); omega
  · have := (nI_eq (by omega) (by omega)).mp (z2.symm.trans e); omega
theorem RW_zero {M j : Nat} {r : Nat → Int32} (h : RW3 M r) (hj : j < 3) (e : r j = nI 0) : ∃ x : Nat, x ≤ 2 ∧ r 0 + r 1 + r 2 = nI x := by
  obtain ⟨x, x1, x2⟩ := RW_bit h (j := 0) (by omega)
  obtain ⟨y, y1, y2⟩ := RW_bit h (j := 1) (by omega)
  obtain ⟨z, z1, z2⟩ := RW_bit h (j := 2) (by omega)
  refine ⟨x + y + z, ?_, by rw [x2, y2, z2, nI_add, nI_add]⟩
  rcases (show j = 0 ∨ j = 1 ∨ j = 2 by omega) with q | q | q <;> subst q
  · have := (nI_eq (by omega) (by omega)).mp (x2.symm.trans e); omega
  · have := (nI_eq (by omega) (by omega)).mp (y2.symm.trans e); omega
  · have := (nI_eq (by omega) (by omega)).mp (z2.symm.trans e); omega
theorem SC_pt {a : Nat} (hs : SC M N P nw kp pt hr lr) (a1 : 1 ≤ a) (a2 : a ≤ 9) : SC M N a nw kp (va_up pt 0 (nI a)) hr lr := by
  obtain ⟨b1, b2, b3, b4, b5, b6, b7, b8, b9⟩ := hs
  exact ⟨b1, b2, b3, a1, a2, up_s, b7, b8, b9⟩
theorem SC_put {h j x : Nat} {nw1 kp1 pt1 : Nat → Int32} {hr1 lr1 hr2 : Nat → Nat → Int32} (hs : SC M N P nw kp pt hr lr) (hh : h < 6) (hj : j < 3) (hx : x ≤ 1) (s0 : SnEq nw1 kp1 pt1 hr1 lr1 0 nw kp pt hr lr 0) (g1 : hr2 h = upd (upd (hr1 h) j (nI x)) (3 + j) 0) (g2 : ∀ i, i ≠ h → hr2 i = hr1 i) : SC M N P nw1 kp1 pt1 hr2 lr1 := by
  have h1 := SC_eq hs s0
  refine SC_row h1 hh ?_ ?_ g2
  · rw [g1]; exact RW_put (h1.2.2.2.2.2.2.1 h hh) hj hx
  · rw [g1, pk_un (by omega), pk_un (by omega)]
abbrev QA : Type := Int32 → Int32 → (Nat → Int32) → Int32 → (Nat → Int64) → Int32 → Int32 → Int32 → Int32 → Int32 → Int32 → Int32 → Int32 → Int32 → Int32 → Int32 → Int32 → Int32 → (Nat → Int32) → (Nat → Int32) → (Nat → Int32) → (Nat → Nat → Int32) → (Nat → Nat → Int32) → Prop
/-- what an act may come to -/
def ACT (M : Nat) (Q : QA) : Prop := ∀ (M' N' P' F' H' : Nat) tl tx mn sd e0 e1 e2 e3 e4 e5 e6 e7 e8 e9 e10 nw kp pt hr lr, M' ≤ M + 1 → F' < 4 → H' ≤ 4 → TT tl → SC M' N' P' nw kp pt hr lr → Q 1 tl tx mn sd e0 e1 e2 e3 e4 e5 e6 e7 e8 e9 e10 (nI F') (nI H') nw kp pt hr lr
theorem ok_unlearn {h j : Nat} {Q : QA} (hQ : ACT M Q) (hF : F < 4) (hH : H ≤ 4) (ht : TT tl) (hs : SC M N P nw kp pt hr lr) (hh : h < 6) (hj : j < 3) : B_L_acts_125 Q (nI h) (nI j) tl tx mn sd e0 e1 e2 e3 e4 e5 e6 e7 e8 e9 e10 (nI F) (nI H) nw kp pt hr lr := by
  have e3' : (3 : Int32) + nI j = nI (3 + j) := nI_add 3 j
  unfold B_L_acts_125 B_L_acts_160
  rw [e3']
  refine dx_unlearn hh hj hF hH (fun nw1 kp1 pt1 hr1 lr1 hr2 s1 s2 g1 g2 => ?_)
  have hs2 := SC_put hs hh hj (x := 0) (by omega) (s2 0 (by omega)) g1 g2
  have hj0 : hr2 h j = nI 0 := by rw [g1, pk_un (by omega), pk_us]; rfl
  obtain ⟨x, x1, x2⟩ := RW_zero (hs2.2.2.2.2.2.2.1 h hh) hj hj0
  rw [x2]
  refine ⟨fun q => absurd q (nI_nlt (a := 2) x1 (by omega)), fun _ => dx_hearer hh (by omega) ⟨fun _ => dx_hearer hh (by omega) ⟨fun _ => ⟨isBo1, hQ M N P _ _ _ _ _ _ _ _ _ _ _ _ _ _ _ _ _ _ _ _ _ _ (by omega) (by omega) (by omega) ht hs2⟩, fun n => absurd ?_ n⟩, fun n => absurd hj0 n⟩⟩
  rw [g1, pk_us]
theorem ok_312 {n p : Nat} {w : List Nat} {s0 s1 U : Int32} {Q : QA} (hQ : ∀ mn sd, Q 1 tl tx mn sd e0 e1 e2 e3 e4 e5 e6 e7 e8 e9 e10 fr hd nw kp pt hr lr) (he : s0 = s1) (hs : SC (M + 1) N P nw kp pt hr lr) (h1 : 1 ≤ n) (hn : n < 8000) (hp : p < (Ws n).length) (hw : (Ws n).getD p [] = w) (l1 : lr N 1 = nI n) (l2 : lr N 2 = nI w.length) (l3 : U = (if lr N 3 = 0 then -5 else lr N 3)) (l3b : lr N 3 ≠ -5) :
    B_L_acts_312 Q (nI n) (nI p) U s0 s1 tl tx mn sd e0 e1 e2 e3 e4 e5 e6 e7 e8 e9 e10 fr hd nw kp pt hr lr := by
  have k362 : ∀ (s : Int32) mn sd, lr N 3 = s → B_L_acts_362 Q (lr N 3) s tl tx mn sd e0 e1 e2 e3 e4 e5 e6 e7 e8 e9 e10 fr hd nw kp pt hr lr := fun s mn sd es => by
    unfold B_L_acts_362 B_L_acts_370
    exact ⟨fun _ => ⟨isBo1, hQ _ _⟩, fun n => absurd es n⟩
  unfold B_L_acts_312
  refine ⟨fun _ => lg_now (c := 1) hs (by omega) (by omega) ⟨fun _ => lg_now (c := 2) hs (by omega) (by omega) (dx_wayLength h1 hn hp (fun mn' sd' => ⟨fun _ => lg_now (c := 3) hs (by omega) (by omega) ⟨fun q => ?_, fun q => ?_⟩, fun n => absurd ?_ n⟩)), fun n => absurd l1 n⟩, fun n => absurd he n⟩
  · rw [l3] at q
    exact k362 _ _ _ ((und_ne l3b).1 q)
  · rw [l3] at q
    exact k362 _ _ _ (by rw [l3]; exact ((und_ne l3b).2 q).symm)
  · rw [l2, hw]
theorem ok_45 {k h j n : Nat} {Q : QA} (hQ : ACT M Q) (hF : F < 4) (hH : H ≤ 4) (ht : TT tl) (hM : M ≤ 1000) (hs : SC M N P nw kp pt hr lr) (hk : k < 2147483648) (hh : h < 6) (hj : j < 3) (h1 : 1 ≤ n) (hn : n < 8000) :
    B_L_acts_45 Q (nI k) (nI h) (nI j) (nI n) tl tx mn sd e0 e1 e2 e3 e4 e5 e6 e7 e8 e9 e10 (nI F) (nI H) nw kp pt hr lr := by
  have e3' : (3 : Int32) + nI j = nI (3 + j) := nI_add 3 j
  have z12 : (nI k >>> ((9 : Int32) &&& 31)) - (nI k >>> ((9 : Int32) &&& 31)) / (12 : Int32) * (12 : Int32) = nI (k / 2 ^ 9 % 12) := shm (d := 12) hk (by decide) (by omega) (by omega)
  have z9 : (nI k >>> ((9 : Int32) &&& 31)) - (nI k >>> ((9 : Int32) &&& 31)) / (9 : Int32) * (9 : Int32) = nI (k / 2 ^ 9 % 9) := shm (d := 9) hk (by decide) (by omega) (by omega)
  have z4 : (nI k >>> ((24 : Int32) &&& 31)) - (nI k >>> ((24 : Int32) &&& 31)) / (4 : Int32) * (4 : Int32) = nI (k / 2 ^ 24 % 4) := shm (d := 4) hk (by decide) (by omega) (by omega)
  have y12 : (1 : Int32) + nI (k / 2 ^ 9 % 12) = nI (1 + k / 2 ^ 9 % 12) := nI_add 1 _
  have y9 : (1 : Int32) + nI (k / 2 ^ 9 % 9) = nI (1 + k / 2 ^ 9 % 9) := nI_add 1 _
  have m12 := Nat.mod_lt (k / 2 ^ 9) (show 0 < 12 by omega)
  have m9 := Nat.mod_lt (k / 2 ^ 9) (show 0 < 9 by omega)
  have m4 := Nat.mod_lt (k / 2 ^ 24) (show 0 < 4 by omega)
  obtain ⟨f1, f2, f3⟩ := Ws_facts h1 hn
  obtain ⟨at0, at1, at2, at3⟩ := SC_att hs hh
  unfold B_L_acts_45
  rw [e3', z12, z9, z4, y12, y9]
  have u1 : 1 ≤ 1 + k / 2 ^ 9 % 12 := by omega
  have u2 : 1 + k / 2 ^ 9 % 12 ≤ 12 := by omega
  generalize 1 + k / 2 ^ 9 % 12 = u at u1 u2
  refine ⟨fun _ => ?_, fun _ => ⟨fun _ => ok_unlearn hQ hF hH ht hs hh hj, fun _ => ⟨fun _ => ok_unlearn hQ hF hH ht hs hh hj, fun _ => ⟨fun _ => ?_, fun _ => ⟨fun _ => ?_, fun _ => ⟨fun _ => ?_, fun _ => ?_⟩⟩⟩⟩⟩⟩
  · -- learn
    unfold B_L_acts_124
    refine dx_learn hh hj hF hH (fun nw1 kp1 pt1 hr1 lr1 hr2 s1 s2 g1 g2 => ?_)
    have hs2 := SC_put hs hh hj (x := 1) (by omega) (s2 0 (by omega)) g1 g2
    have hj0 : hr2 h j = nI 1 := by rw [g1, pk_un (by omega), pk_us]; rfl
    obtain ⟨x, x1, x2, x3⟩ := RW_one (hs2.2.2.2.2.2.2.1 h hh) hj hj0
    rw [x3]
    refine ⟨fun q => absurd q (nI_nlt (b := 1) x1 (by omega)), fun _ => dx_hearer hh (by omega) ⟨fun _ => dx_hearer hh (by omega) ⟨fun _ => ⟨isBo1, hQ M N P _ _ _ _ _ _ _ _ _ _ _ _ _ _ _ _ _ _ _ _ _ _ (by omega) (by omega) (by omega) ht hs2⟩, fun n => absurd ?_ n⟩, fun n => absurd hj0 n⟩⟩
    rw [g1, pk_us]
  · -- attend
    unfold B_L_acts_213
    refine dx_hearer hh (c := 6) (by omega) (dx_attend hh (a := u) u1 u2 hF hH (fun nw1 kp1 pt1 hr1 lr1 s1 s2 => ?_))
    have s0 := s2 0 (by omega)
    have hs1 := SC_eq hs s0
    have hs2 : SC M N P nw1 kp1 pt1 (va_up hr1 h (upd (hr1 h) 6 (nI u))) lr1 := by
      refine SC_row hs1 hh ?_ ?_ (fun i hi => up_n hi)
      · rw [up_s]; exact RW_att (hs1.2.2.2.2.2.2.1 h hh) u1 u2
      · rw [up_s, pk_un (by omega)]
    refine ⟨fun _ => dx_hearer hh (c := 6) (by omega) ⟨fun _ => ⟨isBo1, hQ M N P _ _ _ _ _ _ _ _ _ _ _ _ _ _ _ _ _ _ _ _ _ _ (by omega) (by omega) (by omega) ht hs2⟩, fun n => absurd ?_ n⟩, fun n => absurd (Sn_row s0 hh (by omega)) n⟩
    rw [up_s, pk_us]
  · -- set
    unfold B_L_acts_259
    refine dx_patience (dx_set (a := 1 + k / 2 ^ 9 % 9) (by omega) (by omega) hF hH (fun nw1 kp1 pt1 hr1 lr1 s1 s2 => ?_))
    have s0 := s2 0 (by omega)
    have hs2 := SC_pt (SC_eq hs s0) (a := 1 + k / 2 ^ 9 % 9) (by omega) (by omega)
    exact ⟨fun _ => dx_patience ⟨fun _ => ⟨isBo1, hQ M N _ _ _ _ _ _ _ _ _ _ _ _ _ _ _ _ _ _ _ _ _ _ _ (by omega) (by omega) (by omega) ht hs2⟩, fun n => absurd up_s n⟩, fun n => absurd s0.2.2.1 n⟩
  · -- typed and told
    refine dx_ways h1 hn (fun mn' sd' => ?_)
    have zl : (nI k >>> ((24 : Int32) &&& 31)) - (nI k >>> ((24 : Int32) &&& 31)) / nI (Ws n).length * nI (Ws n).length = nI (k / 2 ^ 24 % (Ws n).length) := shm hk (by decide) (by omega) (by omega)
    rw [zl]
    have hp := Nat.mod_lt (k / 2 ^ 24) (show 0 < (Ws n).length by omega)
    generalize k / 2 ^ 24 % (Ws n).length = p at hp
    generalize hw : (Ws n).getD p [] = w
    obtain ⟨ok, hval, htx, hwk, hl1⟩ := raw_way h1 hn hp
    rw [hw] at ok hval htx hwk hl1
    have hw9 := hwk.2
    refine ⟨fun q => ?_, dx_understood hh h1 hn hp at3 at2 (fun _ _ _ _ _ _ _ _ _ _ _ _ _ => ?_)⟩
    · have := (nI_eq (b := 0) (by omega) (by omega)).mp q
      omega
    rw [hw]
    refine ok_isTyped hs h1 hn hp hw ht (fun tx' mn' sd' _ _ _ _ _ _ _ _ _ _ _ hsay => br1 ?_)
    refine dx_tellText hF hH hh hs (by omega) hsay hwk ok hval (fun c0 c1 c2 c3 c4 c5 c6 c7 c8 c9 c10 nw2 kp2 pt2 hr2 lr2 k1 k2 => ?_)
    obtain ⟨t7, t8, -, l0, l1, l2, l3, -⟩ := k2
    have hU : hrd (hr h) w ≠ -5 := hrd_ne5 _ _
    have hgo : ∀ s1 : Int32, (if hrd (hr h) w = nI n then (1 : Int32) else 0) = s1 → B_L_acts_312 Q (nI n) (nI p) (if hrd (hr h) w = 0 then -5 else hrd (hr h) w) (if hrd (hr h) w = nI n then 1 else 0) s1 (nI w.length) tx' mn' sd' c0 c1 c2 c3 c4 c5 c6 c7 c8 c9 c10 (nI ((F + 1) % 4)) (nI (min (H + 1) 4)) nw2 kp2 pt2 hr2 lr2 := fun s1 es =>
      ok_312 (fun _ _ => hQ (M + 1) _ _ _ _ _ _ _ _ _ _ _ _ _ _ _ _ _ _ _ _ _ _ _ _ (by omega) (by omega) (by omega) ⟨w.length, by omega, rfl⟩ k1) es k1 h1 hn hp hw l1 l2 (by rw [l3]) (by rw [l3]; exact hU)
    refine ⟨fun q => hgo 1 ?_, fun q => hgo 0 ?_⟩
    · rw [if_pos ((und_num h1 hn).mp q)]
    · rw [if_neg (fun e => q ((und_num h1 hn).mpr e))]
  · -- told
    exact ok_isTold hF hH hs hM hh h1 hn (by omega) (fun _ _ _ _ _ _ _ _ _ _ _ _ _ nw2 kp2 pt2 hr2 lr2 k1 => ⟨isBo1, hQ (M + 1) _ _ _ _ _ _ _ _ _ _ _ _ _ _ _ _ _ _ _ _ _ _ _ _ (by omega) (by omega) (by omega) ht k1⟩)
theorem ok_acts {k : Nat} {Q : QA} (hQ : ACT M Q) (hF : F < 4) (hH : H ≤ 4) (ht : TT tl) (hM : M ≤ 1000) (hs : SC M N P nw kp pt hr lr) (hk : k < 2147483648) :
    F_L_acts (nI k) tl tx mn sd e0 e1 e2 e3 e4 e5 e6 e7 e8 e9 e10 (nI F) (nI H) nw kp pt hr lr Q := by
  have z4 : (nI k >>> ((4 : Int32) &&& 31)) - (nI k >>> ((4 : Int32) &&& 31)) / (6 : Int32) * (6 : Int32) = nI (k / 2 ^ 4 % 6) := shm (d := 6) hk (by decide) (by omega) (by omega)
  have z7 : (nI k >>> ((7 : Int32) &&& 31)) - (nI k >>> ((7 : Int32) &&& 31)) / (3 : Int32) * (3 : Int32) = nI (k / 2 ^ 7 % 3) := shm (d := 3) hk (by decide) (by omega) (by omega)
  have za : (nI k >>> ((9 : Int32) &&& 31)) - (nI k >>> ((9 : Int32) &&& 31)) / (450 : Int32) * (450 : Int32) = nI (k / 2 ^ 9 % 450) := shm (d := 450) hk (by decide) (by omega) (by omega)
  have zb : (nI k >>> ((9 : Int32) &&& 31)) - (nI k >>> ((9 : Int32) &&& 31)) / (7999 : Int32) * (7999 : Int32) = nI (k / 2 ^ 9 % 7999) := shm (d := 7999) hk (by decide) (by omega) (by omega)
  have ya : (1 : Int32) + nI (k / 2 ^ 9 % 450) = nI (1 + k / 2 ^ 9 % 450) := nI_add 1 _
  have yb : (1 : Int32) + nI (k / 2 ^ 9 % 7999) = nI (1 + k / 2 ^ 9 % 7999) := nI_add 1 _
  have m6 := Nat.mod_lt (k / 2 ^ 4) (show 0 < 6 by omega)
  have m3 := Nat.mod_lt (k / 2 ^ 7) (show 0 < 3 by omega)
  have ma := Nat.mod_lt (k / 2 ^ 9) (show 0 < 450 by omega)
  have mb := Nat.mod_lt (k / 2 ^ 9) (show 0 < 7999 by omega)
  unfold F_L_acts B_L_acts_0
  rw [z4, z7, za, zb, ya, yb]
  exact ⟨fun _ => ok_45 hQ hF hH ht hM hs hk m6 m3 (by omega) (by omega), fun _ => ok_45 hQ hF hH ht hM hs hk m6 m3 (by omega) (by omega)⟩
end ACTS
