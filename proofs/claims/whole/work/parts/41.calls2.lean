/-! PURE 19: what hearers understand of the ways -/
def bI (row : Nat → Int32) (n : Nat) (W : List (List Nat)) (p : Nat) : Int32 := if hrd row (W.getD p []) = nI n then 1 else 0
/-- the first place that is understood as n; -5: none -/
def bst (row : Nat → Int32) (n : Nat) : Int32 := match fstN (bI row n (Ws n)) 0 (Ws n).length with
  | some p => nI p
  | none => -5
theorem bI_congr {r r' : Nat → Int32} {n : Nat} {W : List (List Nat)} (h : ∀ c, c < 9 → r c = r' c) : bI r n W = bI r' n W := by
  funext p
  unfold bI
  rw [hrd_congr h]
theorem bst_congr {r r' : Nat → Int32} {n : Nat} (h : ∀ c, c < 9 → r c = r' c) : bst r n = bst r' n := by
  unfold bst
  rw [bI_congr h]
theorem sp_firstU {h n a : Nat} {mn : Int32} {sd : Nat → Int64} {hr : Nat → Nat → Int32} {e0 e1 e2 e3 e4 e5 e6 e7 e8 e9 e10 : Int32} {Q : Int32 → Int32 → (Nat → Int64) → Int32 → Int32 → Int32 → Int32 → Int32 → Int32 → Int32 → Int32 → Int32 → Int32 → Int32 → Prop}
    (h1 : 1 ≤ n) (hn : n < 8000) (hh : h < 6) (ha : hr h 6 = nI a) (ha2 : a ≤ 12) (hQ : ∀ mn sd a0 a1 a2 a3 a4 a5 a6 a7 a8 a9 a10, Q (bst (hr h) n) mn sd a0 a1 a2 a3 a4 a5 a6 a7 a8 a9 a10) : F_X5_firstUnderstood (nI h) (nI n) hr mn sd e0 e1 e2 e3 e4 e5 e6 e7 e8 e9 e10 Q := by
  obtain ⟨f1, f2, f3⟩ := Ws_facts h1 hn
  unfold F_X5_firstUnderstood B_X5_firstUnderstood_0
  refine sp_find h1 hn (fun sd' hS => ?_)
  have key : ∀ m k, k + m = (Ws n).length → (match fstN (bI (hr h) n (Ws n)) k m with | some p => nI p | none => (-5)) = bst (hr h) n → ∀ e0 e1 e2 e3 e4 e5 e6 e7 e8 e9 e10, L_X5_firstUnderstood_10 Q hr (m + 1) (nI h) (nI n) (nI k) (nI (Ws n).length) sd' e0 e1 e2 e3 e4 e5 e6 e7 e8 e9 e10 := by
    intro m
    induction m with
    | zero =>
      intro k hk hb e0 e1 e2 e3 e4 e5 e6 e7 e8 e9 e10
      refine ⟨fun _ => ?_, fun q => absurd (nI_le (by omega) (by omega)) q⟩
      have hb : (-5 : Int32) = bst (hr h) n := hb
      rw [hb]; exact hQ _ _ _ _ _ _ _ _ _ _ _ _ _
    | succ m ih =>
      intro k hk hb e0 e1 e2 e3 e4 e5 e6 e7 e8 e9 e10
      have hk2 : k < (Ws n).length := by omega
      have hw := f1 _ (getD_mem hk2)
      unfold fstN at hb
      refine ⟨fun q => absurd q (nI_ge hk2 (by omega)), fun _ => sp_at hS (by omega) hk2 (sp_heard hw.1 hw.2 hh ha (by omega) (fun a0 a1 a2 a3 a4 a5 a6 a7 a8 a9 a10 => ⟨fun q => ?_, fun q => ?_⟩))⟩
      · have e : bI (hr h) n (Ws n) k = 1 := by unfold bI; rw [if_pos q]
        rw [e, if_neg (by decide)] at hb
        have hb : nI k = bst (hr h) n := hb
        rw [hb]; exact hQ _ _ _ _ _ _ _ _ _ _ _ _ _
      · have e : bI (hr h) n (Ws n) k = 0 := by unfold bI; rw [if_neg q]
        rw [e, if_pos rfl] at hb
        rw [nI_1]
        exact ih (k + 1) (by omega) hb _ _ _ _ _ _ _ _ _ _ _
  exact ⟨(Ws n).length + 1, key (Ws n).length 0 (by omega) rfl _ _ _ _ _ _ _ _ _ _ _⟩
theorem sp_best {h n a : Nat} {ms my mw ml mo : Nat → Int32} {gm gs ga gg gb gu gh gk gl : Int32} {Q : Int32 → (Nat → Int32) → (Nat → Int32) → (Nat → Int32) → (Nat → Int32) → Int32 → Int32 → Int32 → Int32 → Int32 → Int32 → Int32 → Int32 → Int32 → Prop}
    (h1 : 1 ≤ n) (hn : n < 8000) (hh : h < 6) (ha : ms (9 * h + 6) = nI a) (ha2 : a ≤ 12) (hQ : ∀ my mw ml mo gm gs ga gg gb gu gh gk gl, Q (bst (fun c => ms (9 * h + c)) n) my mw ml mo gm gs ga gg gb gu gh gk gl) : F_X6_best (nI h) (nI n) ms my mw ml mo gm gs ga gg gb gu gh gk gl Q := by
  obtain ⟨f1, f2, f3⟩ := Ws_facts h1 hn
  unfold F_X6_best B_X6_best_0
  refine sp_makes h1 hn (fun mw' ml' mo' hM => ?_)
  have key : ∀ k m, k + m = (Ws n).length → ∀ my gs ga gg gb gu gh gk gl, L_X6_best_16 Q ms (k + 1) (nI h) (nI n) (match fstN (bI (fun c => ms (9 * h + c)) n (Ws n)) k m with | some p => nI p | none => (-5)) (zI ((k : Int) - 1)) my mw' ml' mo' (nI (Ws n).length) gs ga gg gb gu gh gk gl := by
    intro k
    induction k with
    | zero =>
      intro m hm my gs ga gg gb gu gh gk gl
      have hm : m = (Ws n).length := by omega
      subst hm
      exact ⟨fun _ => hQ _ _ _ _ _ _ _ _ _ _ _ _ _, fun q => absurd (by decide) q⟩
    | succ k ih =>
      intro m hm my gs ga gg gb gu gh gk gl
      have hk2 : k < (Ws n).length := by omega
      have hw := f1 _ (getD_mem hk2)
      have hw9 := hw.2
      have h5 := ih (m + 1) (by omega)
      have ek : zI (((k + 1 : Nat) : Int) - 1) = nI k := by rw [← zI_nat]; congr 1; omega
      have em : nI k + -1 = zI ((k : Int) - 1) := by rw [← zI_nat, show (-1 : Int32) = zI (-1) from rfl, zI_add]; congr 1
      rw [ek]
      unfold fstN at h5
      refine ⟨fun q => absurd q (nI_pos (by omega)), fun _ => sp_says hM (by omega) f1 hk2 (fun my' hs => sp_understands (by omega) rfl (SAY_seg hs) hh ha (by omega) (fun gs ga gg gb gu gh gk gl => ⟨fun q => ?_, fun q => ?_⟩))⟩
      · unfold B_X6_best_42
        rw [em]
        have e : bI (fun c => ms (9 * h + c)) n (Ws n) k = 1 := by unfold bI; rw [if_pos q]
        rw [e] at h5
        exact h5 _ _ _ _ _ _ _ _ _
      · unfold B_X6_best_42
        rw [em]
        have e : bI (fun c => ms (9 * h + c)) n (Ws n) k = 0 := by unfold bI; rw [if_neg q]
        rw [e] at h5
        exact h5 _ _ _ _ _ _ _ _ _
  have e9 : nI (Ws n).length - 1 = zI (((Ws n).length : Int) - 1) := by rw [← zI_nat, show (1 : Int32) = zI 1 from rfl, zI_sub]
  rw [e9]
  exact ⟨(Ws n).length + 1, key (Ws n).length 0 (by omega) _ _ _ _ _ _ _ _ _⟩
/-- how many hearers understand w as num -/
def rcd (rows : Nat → Nat → Int32) (w : List Nat) (num : Int32) : Int32 := sumH (fun h => if hrd (rows h) w = num then 1 else 0) 6
theorem rcd_congr {r r' : Nat → Nat → Int32} {w : List Nat} {num : Int32} (h : ∀ g, g < 6 → ∀ c, c < 9 → r g c = r' g c) : rcd r w num = rcd r' w num := by
  unfold rcd
  exact sumH_congr 6 (fun g hg => by rw [hrd_congr (h g hg)])
theorem sp_reachedX {w : List Nat} {num : Int32} {hr : Nat → Nat → Int32} {e0 e1 e2 e3 e4 e5 e6 e7 e8 e9 e10 : Int32} {Q : Int32 → Int32 → Int32 → Int32 → Int32 → Int32 → Int32 → Int32 → Int32 → Int32 → Int32 → Int32 → Prop}
    (hw : wok w) (ha : ∀ h, h < 6 → ∃ a, a ≤ 12 ∧ hr h 6 = nI a) (hQ : ∀ a0 a1 a2 a3 a4 a5 a6 a7 a8 a9 a10, Q (rcd hr w num) a0 a1 a2 a3 a4 a5 a6 a7 a8 a9 a10) : F_X5_reached num (pkL w) hr e0 e1 e2 e3 e4 e5 e6 e7 e8 e9 e10 Q := by
  have key : ∀ m h, h + m = 6 → ∀ e0 e1 e2 e3 e4 e5 e6 e7 e8 e9 e10, L_X5_reached_6 Q hr (m + 1) num (pkL w) (sumH (fun h => if hrd (hr h) w = num then 1 else 0) h) (nI h) e0 e1 e2 e3 e4 e5 e6 e7 e8 e9 e10 := by
    intro m
    induction m with
    | zero =>
      intro h hh e0 e1 e2 e3 e4 e5 e6 e7 e8 e9 e10
      have hh : h = 6 := by omega
      subst hh
      exact ⟨fun _ => hQ _ _ _ _ _ _ _ _ _ _ _, fun q => absurd (nI_le (a := 6) (by omega) (by omega)) q⟩
    | succ m ih =>
      intro h hh e0 e1 e2 e3 e4 e5 e6 e7 e8 e9 e10
      obtain ⟨a, ha1, ha2⟩ := ha h (by omega)
      have h5 := ih (h + 1) (by omega)
      have es : sumH (fun h => if hrd (hr h) w = num then (1 : Int32) else 0) (h + 1) = sumH (fun h => if hrd (hr h) w = num then 1 else 0) h + (if hrd (hr h) w = num then 1 else 0) := rfl
      rw [es] at h5
      refine ⟨fun q => absurd q (nI_ge (b := 6) (by omega) (by omega)), fun _ => sp_heard hw.1 hw.2 (by omega) ha2 (by omega) (fun a0 a1 a2 a3 a4 a5 a6 a7 a8 a9 a10 => ⟨fun q => ?_, fun q => ?_⟩)⟩
      · unfold B_X5_reached_27
        rw [if_pos q] at h5
        rw [nI_1]; exact h5 _ _ _ _ _ _ _ _ _ _ _
      · unfold B_X5_reached_27
        rw [if_neg q, Int32.add_zero] at h5
        rw [nI_1]; exact h5 _ _ _ _ _ _ _ _ _ _ _
  exact ⟨6 + 1, key 6 0 (by omega) _ _ _ _ _ _ _ _ _ _ _⟩
theorem sp_reachedM {p : Nat} {W : List (List Nat)} {num : Int32} {ms my mw ml mo : Nat → Int32} {gs ga gg gb gu gh gk gl : Int32} {Q : Int32 → (Nat → Int32) → Int32 → Int32 → Int32 → Int32 → Int32 → Int32 → Int32 → Int32 → Prop}
    (hM : MWs mw ml mo W) (hl : W.length ≤ 16) (hW : ∀ v ∈ W, wok v) (hp : p < W.length) (ha : ∀ h, h < 6 → ∃ a, a ≤ 12 ∧ ms (9 * h + 6) = nI a) (hQ : ∀ my gs ga gg gb gu gh gk gl, Q (rcd (fun h c => ms (9 * h + c)) (W.getD p []) num) my gs ga gg gb gu gh gk gl) : F_X6_reached (nI p) num ms mw ml mo my gs ga gg gb gu gh gk gl Q := by
  have hw9 := (hW _ (getD_mem hp)).2
  unfold F_X6_reached B_X6_reached_0
  refine sp_says hM hl hW hp (fun my' hs => ?_)
  generalize W.getD p [] = w at *
  have key : ∀ m h, h + m = 6 → ∀ gs ga gg gb gu gh gk gl, L_X6_reached_12 Q ms mw ml mo (m + 1) num (nI w.length) (sumH (fun h => if hrd (fun c => ms (9 * h + c)) w = num then 1 else 0) h) (nI h) my' gs ga gg gb gu gh gk gl := by
    intro m
    induction m with
    | zero =>
      intro h hh gs ga gg gb gu gh gk gl
      have hh : h = 6 := by omega
      subst hh
      exact ⟨fun _ => hQ _ _ _ _ _ _ _ _ _, fun q => absurd (nI_le (a := 6) (by omega) (by omega)) q⟩
    | succ m ih =>
      intro h hh gs ga gg gb gu gh gk gl
      obtain ⟨a, ha1, ha2⟩ := ha h (by omega)
      have h5 := ih (h + 1) (by omega)
      have es : sumH (fun h => if hrd (fun c => ms (9 * h + c)) w = num then (1 : Int32) else 0) (h + 1) = sumH (fun h => if hrd (fun c => ms (9 * h + c)) w = num then 1 else 0) h + (if hrd (fun c => ms (9 * h + c)) w = num then 1 else 0) := rfl
      rw [es] at h5
      refine ⟨fun q => absurd q (nI_ge (b := 6) (by omega) (by omega)), fun _ => sp_understands (by omega) rfl (SAY_seg hs) (by omega) ha2 (by omega) (fun gs ga gg gb gu gh gk gl => ⟨fun q => ?_, fun q => ?_⟩)⟩
      · unfold B_X6_reached_37
        rw [if_pos q] at h5
        rw [nI_1]; exact h5 _ _ _ _ _ _ _ _
      · unfold B_X6_reached_37
        rw [if_neg q] at h5
        rw [nI_1]; exact h5 _ _ _ _ _ _ _ _
  exact ⟨6 + 1, key 6 0 (by omega) _ _ _ _ _ _ _ _⟩
section CALLS
variable {T : Nat} {tl fr hd gn gt : Int32} {tx nw kp pt ms mb mt : Nat → Int32} {hr lr : Nat → Nat → Int32} {v v1 v2 v3 : Int32}
variable {mn e0 e1 e2 e3 e4 e5 e6 e7 e8 e9 e10 gm gs ga gg gb gu gh gk gl : Int32} {sd : Nat → Int64} {my mw ml mo : Nat → Int32}
theorem eq_ways (hR : RR T tl tx fr hd nw kp pt hr lr ms mb mt gn gt) : F_X5_ways v1 mn sd (fun r _ _ => F_X6_ways v1 mw ml mo gm (fun q _ _ _ _ => q = r ∧ RR (T + 1) tl tx fr hd nw kp pt hr lr ms mb mt gn gt)) := by
  have hR0 := RR_1 hR
  rcases num_rng v1 with n1 | ⟨n, h1, hn, rfl⟩
  · exact nX_no n1 (br0 (nM_no n1 (br0 ⟨rfl, hR0⟩)))
  · exact nX_yes h1 hn (br1 (sp_find h1 hn (fun sd' hS => nM_yes h1 hn (br1 (sp_makes h1 hn (fun mw' ml' mo' hM => ⟨rfl, hR0⟩))))))
theorem eq_wayLength (hR : RR T tl tx fr hd nw kp pt hr lr ms mb mt gn gt) : F_X5_wayLength v1 v2 mn sd (fun r _ _ => F_X6_wayLength v1 v2 mw ml mo gm (fun q _ _ _ _ => q = r ∧ RR (T + 1) tl tx fr hd nw kp pt hr lr ms mb mt gn gt)) := by
  have hR0 := RR_1 hR
  rcases num_rng v1 with n1 | ⟨n, h1, hn, rfl⟩
  · exact nX_no n1 (br0 (nM_no n1 (br0 ⟨rfl, hR0⟩)))
  obtain ⟨f1, f2, f3⟩ := Ws_facts h1 hn
  refine nX_yes h1 hn (br1 ⟨fun q => sp_find h1 hn (fun sd' hS => ⟨fun q2 => ?_, fun q2 => ?_⟩), fun q => nM_yes h1 hn (br1 ⟨fun q2 => absurd q2 q, fun _ => ⟨rfl, hR0⟩⟩)⟩)
  · exact nM_yes h1 hn (br1 ⟨fun _ => sp_makes h1 hn (fun mw' ml' mo' hM => ⟨fun _ => ⟨rfl, hR0⟩, fun q3 => absurd q2 q3⟩), fun q3 => absurd q q3⟩)
  · obtain ⟨p, hp, rfl⟩ := nI_of (Int32.not_lt.mpr q)
    have hlt : p < (Ws n).length := Classical.byContradiction fun n9 => q2 (nI_le (by omega) hp)
    have hw := f1 _ (getD_mem hlt)
    refine sp_at hS (by omega) hlt (sp_length hw.1 hw.2 ?_)
    refine nM_yes h1 hn (br1 ⟨fun _ => sp_makes h1 hn (fun mw' ml' mo' hM => ⟨fun q3 => absurd q3 q2, fun _ => ?_⟩), fun q3 => absurd q q3⟩)
    obtain ⟨j, hj, ej, a1, a2⟩ := hM p hlt
    rw [nI_clamp (show p < 2147483648 by omega), ej, nI_clamp (show j < 2147483648 by omega), a1]
    exact ⟨vp_in_nI (by omega) (by decide), vp_in_nI hj (by decide), rfl, hR0⟩
theorem eq_wayAt (hR : RR T tl tx fr hd nw kp pt hr lr ms mb mt gn gt) : F_X5_wayAt v1 v2 v3 mn sd (fun r _ _ => F_X6_wayAt v1 v2 v3 mw ml mo gm (fun q _ _ _ _ => q = r ∧ RR (T + 1) tl tx fr hd nw kp pt hr lr ms mb mt gn gt)) := by
  have hR0 := RR_1 hR
  rcases num_rng v1 with n1 | ⟨n, h1, hn, rfl⟩
  · exact nX_no n1 (br0 (nM_no n1 (br0 ⟨rfl, hR0⟩)))
  obtain ⟨f1, f2, f3⟩ := Ws_facts h1 hn
  by_cases z2 : v2 < 0
  · exact nX_yes h1 hn (br1 ⟨fun _ => nM_yes h1 hn (br1 ⟨fun _ => ⟨rfl, hR0⟩, fun q => absurd z2 q⟩), fun q => absurd z2 q⟩)
  by_cases z3 : 0 ≤ v3
  · obtain ⟨p, hp, rfl⟩ := nI_of z2
    obtain ⟨i, hi, rfl⟩ := nI_of (Int32.not_lt.mpr z3)
    refine nX_yes h1 hn (br1 ⟨fun q => absurd q z2, fun _ => ⟨fun _ => sp_find h1 hn (fun sd' hS => ⟨fun q => ?_, fun q => ?_⟩), fun q => absurd z3 q⟩⟩)
    · have hlt : p < (Ws n).length := (nI_ltI hp (by omega)).mp q
      have hw := f1 _ (getD_mem hlt)
      have hw9 := hw.2
      refine sp_at hS (by omega) hlt (sp_length hw.1 hw.2 ⟨fun q2 => ?_, fun q2 => ?_⟩)
      · refine nM_yes h1 hn (br1 ⟨fun q9 => absurd q9 z2, fun _ => ⟨fun _ => sp_makes h1 hn (fun mw' ml' mo' hM => ⟨fun q3 => absurd q3 (nI_ge hlt (by omega)), fun _ => ?_⟩), fun q9 => absurd z3 q9⟩⟩)
        obtain ⟨j, hj, ej, a1, a2⟩ := hM p hlt
        rw [nI_clamp (show p < 2147483648 by omega), ej, nI_clamp (show j < 2147483648 by omega), a1]
        exact ⟨vp_in_nI (by omega) (by decide), vp_in_nI hj (by decide), fun _ => ⟨rfl, hR0⟩, fun q3 => absurd q2 q3⟩
      · have hil : i < ((Ws n).getD p []).length := Classical.byContradiction fun n9 => q2 (nI_le (by omega) hi)
        have ex : nI ((Ws n).getD p []).length - 1 - nI i = nI (((Ws n).getD p []).length - 1 - i) := by rw [nI_m1 (by omega), pk_sub (by omega)]
        rw [ex]
        refine sp_character hw.1 hw.2 (by omega) ?_
        rw [show ((Ws n).getD p []).length - 1 - (((Ws n).getD p []).length - 1 - i) = i by omega]
        refine nM_yes h1 hn (br1 ⟨fun q9 => absurd q9 z2, fun _ => ⟨fun _ => sp_makes h1 hn (fun mw' ml' mo' hM => ⟨fun q3 => absurd q3 (nI_ge hlt (by omega)), fun _ => ?_⟩), fun q9 => absurd z3 q9⟩⟩)
        obtain ⟨j, hj, ej, a1, a2⟩ := hM p hlt
        have e10 : (10 : Int32) * nI j + nI i = nI (10 * j + i) := by rw [show (10 : Int32) = nI 10 from rfl, pk_mul, nI_add]
        rw [nI_clamp (show p < 2147483648 by omega), ej, nI_clamp (show j < 2147483648 by omega), a1, e10, nI_clamp (show 10 * j + i < 2147483648 by omega), a2 i hil]
        exact ⟨vp_in_nI (by omega) (by decide), vp_in_nI hj (by decide), fun q3 => absurd q3 q2, fun _ => ⟨vp_in_nI (by omega) (by decide), vp_in_nI (by omega) (by decide), rfl, hR0⟩⟩
    · have hge : (Ws n).length ≤ p := Classical.byContradiction fun n9 => q (nI_lt (by omega) (by omega))
      exact nM_yes h1 hn (br1 ⟨fun q9 => absurd q9 z2, fun _ => ⟨fun _ => sp_makes h1 hn (fun mw' ml' mo' hM => ⟨fun _ => ⟨rfl, hR0⟩, fun q3 => absurd (nI_le hge hp) q3⟩), fun q9 => absurd z3 q9⟩⟩)
  · exact nX_yes h1 hn (br1 ⟨fun q => absurd q z2, fun _ => ⟨fun q => absurd q z3, fun _ => nM_yes h1 hn (br1 ⟨fun q => absurd q z2, fun _ => ⟨fun q => absurd q z3, fun _ => ⟨rfl, hR0⟩⟩⟩)⟩⟩)
theorem eq_styled (hR : RR T tl tx fr hd nw kp pt hr lr ms mb mt gn gt) : F_X5_styled v1 v2 mn sd (fun r _ _ => F_X6_styled v1 v2 mw ml mo gm (fun q _ _ _ _ => q = r ∧ RR (T + 1) tl tx fr hd nw kp pt hr lr ms mb mt gn gt)) := by
  have hR0 := RR_1 hR
  rcases rng v2 3 (by omega) with n2 | ⟨st, hs, rfl⟩
  · exact sX_no n2 (br0 (in_no n2 (br0 ⟨rfl, hR0⟩)))
  have hin : ∀ Q : Int32 → Prop, Q 1 → F_X6_in (nI st) 0 3 Q := fun Q q => in_yes (nI_pos (by omega)) (nI_nlt (a := 3) hs (by omega)) q
  rcases num_rng v1 with n1 | ⟨n, h1, hn, rfl⟩
  · exact sX_yes hs (br1 (nX_no n1 (br0 (hin _ (br1 (nM_no n1 (br0 ⟨rfl, hR0⟩)))))))
  obtain ⟨f1, f2, f3⟩ := Ws_facts h1 hn
  exact sX_yes hs (br1 (nX_yes h1 hn (br1 (sp_find h1 hn (fun sd' hS => sp_placeOfStyle hS (by omega) f1 hs (hin _ (br1 (nM_yes h1 hn (br1 (sp_makes h1 hn (fun mw' ml' mo' hM => sp_placeOfM hM (by omega) f2 f1 hs ⟨rfl, hR0⟩)))))))))))
theorem RR_row (hS : SR T nw kp pt hr lr 0 ms 0) {h : Nat} (hh : h < 6) : ∀ c, c < 9 → hr h c = ms (9 * h + c) := fun c hc => SR_at hS hh hc
theorem eq_bestWay (hR : RR T tl tx fr hd nw kp pt hr lr ms mb mt gn gt) : F_X5_bestWay v1 v2 hr mn sd e0 e1 e2 e3 e4 e5 e6 e7 e8 e9 e10 (fun r _ _ _ _ _ _ _ _ _ _ _ _ _ => F_X6_bestWay v1 v2 ms my mw ml mo gm gs ga gg gb gu gh gk gl (fun q _ _ _ _ _ _ _ _ _ _ _ _ _ => q = r ∧ RR (T + 1) tl tx fr hd nw kp pt hr lr ms mb mt gn gt)) := by
  have hR0 := RR_1 hR
  rcases rng v1 5 (by omega) with n1 | ⟨h, hh, rfl⟩
  · exact hX_no n1 (br0 (hM_no n1 (br0 ⟨rfl, hR0⟩)))
  rcases num_rng v2 with n2 | ⟨n, h1, hn, rfl⟩
  · exact hX_yes hh (br1 (nX_no n2 (br0 (hM_yes hh (br1 (nM_no n2 (br0 ⟨rfl, hR0⟩)))))))
  obtain ⟨w, F, H, hw, x1, x2, x3, hH, hS⟩ := hR
  obtain ⟨a, a1, a2, a3⟩ := SR_att hS (show h < 6 by omega)
  have hrow := RR_row hS (show h < 6 by omega)
  refine hX_yes hh (br1 (nX_yes h1 hn (br1 (sp_firstU h1 hn (by omega) (by rw [hrow 6 (by omega)]; exact a3) a2 (fun _ _ _ _ _ _ _ _ _ _ _ _ _ => ?_)))))
  refine hM_yes hh (br1 (nM_yes h1 hn (br1 (sp_best h1 hn (by omega) a3 a2 (fun _ _ _ _ _ _ _ _ _ _ _ _ _ => ⟨?_, hR0⟩)))))
  exact (bst_congr hrow).symm
theorem eq_reach (hR : RR T tl tx fr hd nw kp pt hr lr ms mb mt gn gt) : F_X5_reach v1 v2 hr mn sd e0 e1 e2 e3 e4 e5 e6 e7 e8 e9 e10 (fun r _ _ _ _ _ _ _ _ _ _ _ _ _ => F_X6_reach v1 v2 ms my mw ml mo gm gs ga gg gb gu gh gk gl (fun q _ _ _ _ _ _ _ _ _ _ _ _ _ => q = r ∧ RR (T + 1) tl tx fr hd nw kp pt hr lr ms mb mt gn gt)) := by
  have hR0 := RR_1 hR
  rcases rng v2 3 (by omega) with n2 | ⟨st, hs, rfl⟩
  · exact sX_no n2 (br0 (in_no n2 (br0 ⟨rfl, hR0⟩)))
  have hin : ∀ Q : Int32 → Prop, Q 1 → F_X6_in (nI st) 0 3 Q := fun Q q => in_yes (nI_pos (by omega)) (nI_nlt (a := 3) hs (by omega)) q
  rcases num_rng v1 with n1 | ⟨n, h1, hn, rfl⟩
  · exact sX_yes hs (br1 (nX_no n1 (br0 (hin _ (br1 (nM_no n1 (br0 ⟨rfl, hR0⟩)))))))
  obtain ⟨w, F, H, hw, x1, x2, x3, hH, hS⟩ := hR
  obtain ⟨f1, f2, f3⟩ := Ws_facts h1 hn
  have hatt : ∀ h, h < 6 → ∃ a, a ≤ 12 ∧ ms (9 * h + 6) = nI a := fun h hh => by
    obtain ⟨a, a1, a2, a3⟩ := SR_att hS hh
    exact ⟨a, a2, a3⟩
  have hattX : ∀ h, h < 6 → ∃ a, a ≤ 12 ∧ hr h 6 = nI a := fun h hh => by
    rw [SR_at hS hh (by omega)]; exact hatt h hh
  have hp := stP_lt (st := st) f2
  refine sX_yes hs (br1 (nX_yes h1 hn (br1 (sp_find h1 hn (fun sd' hS4 => sp_placeOfStyle hS4 (by omega) f1 hs (sp_at hS4 (by omega) hp (sp_reachedX (f1 _ (getD_mem hp)) hattX (fun _ _ _ _ _ _ _ _ _ _ _ => ?_))))))))
  refine hin _ (br1 (nM_yes h1 hn (br1 (sp_makes h1 hn (fun mw' ml' mo' hM => sp_placeOfM hM (by omega) f2 f1 hs (sp_reachedM hM (by omega) f1 hp hatt (fun _ _ _ _ _ _ _ _ _ => ⟨?_, hR0⟩)))))))
  exact rcd_congr (fun g hg c hc => (SR_at hS hg hc).symm)
/-- the first place of the most -/
def cw (c : Nat → Int32) : Nat → Nat → Int32 → Int32 → Int32
  | _, 0, b, _ => b
  | k, n + 1, b, m => if c k ≤ m then cw c (k + 1) n b m else cw c (k + 1) n (nI k) (c k)
theorem cw_congr {c c' : Nat → Int32} : ∀ (n k : Nat) (b m : Int32), (∀ i, k ≤ i → i < k + n → c i = c' i) → cw c k n b m = cw c' k n b m
  | 0, _, _, _, _ => rfl
  | n + 1, k, b, m, h => by
    unfold cw
    rw [h k (Nat.le_refl _) (by omega), cw_congr n (k + 1) b m (fun i h1 h2 => h i (by omega) (by omega)), cw_congr n (k + 1) (nI k) (c' k) (fun i h1 h2 => h i (by omega) (by omega))]
theorem sumH_bits {P : Nat → Prop} [DecidablePred P] : ∀ n, n ≤ 6 → ∃ s : Nat, s ≤ n ∧ sumH (fun h => if P h then (1 : Int32) else 0) n = nI s
  | 0, _ => ⟨0, by omega, rfl⟩
  | n + 1, hn => by
    obtain ⟨s, h1, h2⟩ := sumH_bits (P := P) n (by omega)
    show ∃ t : Nat, t ≤ n + 1 ∧ sumH (fun h => if P h then (1 : Int32) else 0) n + (if P n then (1 : Int32) else 0) = nI t
    rw [h2]
    by_cases q : P n
    · rw [if_pos q]; exact ⟨s + 1, by omega, nI_1 s⟩
    · rw [if_neg q]; exact ⟨s, by omega, Int32.add_zero _⟩
theorem eq_commonWay (hR : RR T tl tx fr hd nw kp pt hr lr ms mb mt gn gt) : F_X5_commonWay v1 hr mn sd e0 e1 e2 e3 e4 e5 e6 e7 e8 e9 e10 (fun r _ _ _ _ _ _ _ _ _ _ _ _ _ => F_X6_commonWay v1 ms my mw ml mo gm gs ga gg gb gu gh gk gl (fun q _ _ _ _ _ _ _ _ _ _ _ _ _ => q = r ∧ RR (T + 1) tl tx fr hd nw kp pt hr lr ms mb mt gn gt)) := by
  have hR0 := RR_1 hR
  rcases num_rng v1 with n1 | ⟨n, h1, hn, rfl⟩
  · exact nX_no n1 (br0 (nM_no n1 (br0 ⟨rfl, hR0⟩)))
  obtain ⟨w, F, H, hw, x1, x2, x3, hH, hS⟩ := hR
  obtain ⟨f1, f2, f3⟩ := Ws_facts h1 hn
  have hatt : ∀ h, h < 6 → ∃ a, a ≤ 12 ∧ ms (9 * h + 6) = nI a := fun h hh => by
    obtain ⟨a, a1, a2, a3⟩ := SR_att hS hh
    exact ⟨a, a2, a3⟩
  have hattX : ∀ h, h < 6 → ∃ a, a ≤ 12 ∧ hr h 6 = nI a := fun h hh => by
    rw [SR_at hS hh (by omega)]; exact hatt h hh
  refine nX_yes h1 hn (br1 (sp_find h1 hn (fun sd' hS4 => ?_)))
  have keyX : ∀ (Q : Int32 → Int32 → (Nat → Int64) → Int32 → Int32 → Int32 → Int32 → Int32 → Int32 → Int32 → Int32 → Int32 → Int32 → Int32 → Prop) m k, k + m = (Ws n).length → ∀ b mo9, (∀ mn sd a0 a1 a2 a3 a4 a5 a6 a7 a8 a9 a10, Q (cw (fun p => rcd hr ((Ws n).getD p []) (nI n)) k m b mo9) mn sd a0 a1 a2 a3 a4 a5 a6 a7 a8 a9 a10) →
      ∀ e0 e1 e2 e3 e4 e5 e6 e7 e8 e9 e10, L_X5_commonWay_25 Q hr (m + 1) (nI n) b mo9 (nI k) (nI (Ws n).length) sd' e0 e1 e2 e3 e4 e5 e6 e7 e8 e9 e10 := by
    intro Q m
    induction m with
    | zero =>
      intro k hk b mo9 hq e0 e1 e2 e3 e4 e5 e6 e7 e8 e9 e10
      exact ⟨fun _ => hq _ _ _ _ _ _ _ _ _ _ _ _ _, fun q => absurd (nI_le (by omega) (by omega)) q⟩
    | succ m ih =>
      intro k hk b mo9 hq e0 e1 e2 e3 e4 e5 e6 e7 e8 e9 e10
      have hk2 : k < (Ws n).length := by omega
      unfold cw at hq
      refine ⟨fun q => absurd q (nI_ge hk2 (by omega)), fun _ => sp_at hS4 (by omega) hk2 (sp_reachedX (f1 _ (getD_mem hk2)) hattX (fun _ _ _ _ _ _ _ _ _ _ _ => ⟨fun q => ?_, fun q => ?_⟩))⟩
      · unfold B_X5_commonWay_65
        rw [nI_1]
        exact ih (k + 1) (by omega) _ _ (fun _ _ _ _ _ _ _ _ _ _ _ _ _ => by
          have h9 := hq mn sd e0 e1 e2 e3 e4 e5 e6 e7 e8 e9 e10
          rw [if_pos q] at h9
          have h8 := hq
          rw [if_pos q] at h8
          exact h8 _ _ _ _ _ _ _ _ _ _ _ _ _) _ _ _ _ _ _ _ _ _ _ _
      · unfold B_X5_commonWay_65
        rw [nI_1]
        exact ih (k + 1) (by omega) _ _ (fun _ _ _ _ _ _ _ _ _ _ _ _ _ => by
          have h8 := hq
          rw [if_neg q] at h8
          exact h8 _ _ _ _ _ _ _ _ _ _ _ _ _) _ _ _ _ _ _ _ _ _ _ _
  refine ⟨(Ws n).length + 1, keyX _ (Ws n).length 0 (by omega) 0 0 (fun _ _ _ _ _ _ _ _ _ _ _ _ _ => ?_) _ _ _ _ _ _ _ _ _ _ _⟩
  refine nM_yes h1 hn (br1 (sp_makes h1 hn (fun mw' ml' mo' hM => ?_)))
  have keyM : ∀ (Q : Int32 → (Nat → Int32) → (Nat → Int32) → (Nat → Int32) → (Nat → Int32) → Int32 → Int32 → Int32 → Int32 → Int32 → Int32 → Int32 → Int32 → Int32 → Prop) m k, k + m = (Ws n).length → ∀ b mo9, (∀ my mw ml mo gm gs ga gg gb gu gh gk gl, Q (cw (fun p => rcd (fun h c => ms (9 * h + c)) ((Ws n).getD p []) (nI n)) k m b mo9) my mw ml mo gm gs ga gg gb gu gh gk gl) →
      ∀ my gs ga gg gb gu gh gk gl, L_X6_commonWay_22 Q ms (m + 1) (nI n) b mo9 (nI k) my mw' ml' mo' (nI (Ws n).length) gs ga gg gb gu gh gk gl := by
    intro Q m
    induction m with
    | zero =>
      intro k hk b mo9 hq my gs ga gg gb gu gh gk gl
      exact ⟨fun _ => hq _ _ _ _ _ _ _ _ _ _ _ _ _, fun q => absurd (nI_le (by omega) (by omega)) q⟩
    | succ m ih =>
      intro k hk b mo9 hq my gs ga gg gb gu gh gk gl
      have hk2 : k < (Ws n).length := by omega
      unfold cw at hq
      refine ⟨fun q => absurd q (nI_ge hk2 (by omega)), fun _ => sp_reachedM hM (by omega) f1 hk2 hatt (fun _ _ _ _ _ _ _ _ _ => ⟨fun q => ?_, fun q => ?_⟩)⟩
      · unfold B_X6_commonWay_52 B_X6_commonWay_65
        refine ⟨fun _ => ?_, fun q2 => absurd q q2⟩
        rw [nI_1]
        refine ih (k + 1) (by omega) _ _ ?_ _ _ _ _ _ _ _ _ _
        have h8 := hq
        rw [if_pos q] at h8
        exact h8
      · unfold B_X6_commonWay_52 B_X6_commonWay_65
        refine ⟨fun q2 => absurd q2 q, fun _ => ?_⟩
        rw [nI_1]
        refine ih (k + 1) (by omega) _ _ ?_ _ _ _ _ _ _ _ _ _
        have h8 := hq
        rw [if_neg q] at h8
        exact h8
  refine ⟨(Ws n).length + 1, keyM _ (Ws n).length 0 (by omega) 0 (-1) (fun _ _ _ _ _ _ _ _ _ _ _ _ _ => ⟨?_, hR0⟩) _ _ _ _ _ _ _ _ _⟩
  obtain ⟨len, hlen⟩ : ∃ l, (Ws n).length = l + 1 := ⟨(Ws n).length - 1, by omega⟩
  have hcg : cw (fun p => rcd (fun h c => ms (9 * h + c)) ((Ws n).getD p []) (nI n)) 0 (Ws n).length 0 (-1) = cw (fun p => rcd hr ((Ws n).getD p []) (nI n)) 0 (Ws n).length 0 (-1) := cw_congr _ _ _ _ (fun i _ _ => rcd_congr (fun g hg c hc => (SR_at hS hg hc).symm))
  rw [hcg, hlen]
  unfold cw
  obtain ⟨s, s1, s2⟩ := sumH_bits (P := fun h => hrd (hr h) ((Ws n).getD 0 []) = nI n) 6 (Nat.le_refl 6)
  have s2 : rcd hr ((Ws n).getD 0 []) (nI n) = nI s := s2
  rw [s2, if_neg (fun q => by
    rw [show (-1 : Int32) = zI (-1) from rfl, ← zI_nat, zI_le (by omega) (by omega) (by omega) (by omega)] at q
    omega)]
  by_cases q : nI s ≤ 0
  · rw [if_pos q]
    have e : s = 0 := by
      have := (nI_leI (b := 0) (by omega) (by omega)).mp q
      omega
    rw [e]; rfl
  · rw [if_neg q]
end CALLS
