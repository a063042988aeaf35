/-! PURE 20: telling ways, and the text -/
/-- n steps from i on: how many numbers have no understood way -/
def unS (g : Nat → Int32) : Nat → Nat → Int32 → Int32
  | _, 0, a => a
  | i, n + 1, a => unS g (i + 1) n (if g i = -5 then a + 1 else a)
theorem unS_congr {g g' : Nat → Int32} (h : ∀ i, g i = g' i) : ∀ (n i : Nat) (a : Int32), unS g i n a = unS g' i n a
  | 0, _, _ => rfl
  | n + 1, i, a => by
    unfold unS
    rw [h i, unS_congr h n]
section CALLS
variable {T : Nat} {tl fr hd gn gt : Int32} {tx nw kp pt ms mb mt : Nat → Int32} {hr lr : Nat → Nat → Int32} {v v1 v2 v3 : Int32}
variable {mn e0 e1 e2 e3 e4 e5 e6 e7 e8 e9 e10 gm gs ga gg gb gu gh gk gl : Int32} {sd : Nat → Int64} {my mw ml mo : Nat → Int32}
theorem sp_orNone {Q : Int32 → Prop} (h1 : v = 0 → Q (-5)) (h2 : ¬ v = 0 → Q v) : F_X5_orNone v Q := ⟨h1, h2⟩
theorem eq_understood (hR : RR T tl tx fr hd nw kp pt hr lr ms mb mt gn gt) : F_X5_understood v1 v2 v3 hr mn sd e0 e1 e2 e3 e4 e5 e6 e7 e8 e9 e10 (fun r _ _ _ _ _ _ _ _ _ _ _ _ _ => F_X6_understood v1 v2 v3 ms my mw ml mo gm gs ga gg gb gu gh gk gl (fun q _ _ _ _ _ _ _ _ _ _ _ _ _ => q = r ∧ RR (T + 1) tl tx fr hd nw kp pt hr lr ms mb mt gn gt)) := by
  have hR0 := RR_1 hR
  rcases rng v1 5 (by omega) with n1 | ⟨h, hh, rfl⟩
  · exact hX_no n1 (br0 (hM_no n1 (br0 ⟨rfl, hR0⟩)))
  rcases num_rng v2 with n2 | ⟨n, h1, hn, rfl⟩
  · exact hX_yes hh (br1 (nX_no n2 (br0 (hM_yes hh (br1 (nM_no n2 (br0 ⟨rfl, hR0⟩)))))))
  obtain ⟨w, F, H, hw, x1, x2, x3, hH, hS⟩ := hR
  obtain ⟨a, a1, a2, a3⟩ := SR_att hS (show h < 6 by omega)
  have hrow := RR_row hS (show h < 6 by omega)
  obtain ⟨f1, f2, f3⟩ := Ws_facts h1 hn
  by_cases z3 : 0 ≤ v3
  · obtain ⟨p, hp, rfl⟩ := nI_of (Int32.not_lt.mpr z3)
    refine hX_yes hh (br1 (nX_yes h1 hn (br1 ⟨fun _ => sp_find h1 hn (fun sd' hS4 => ⟨fun q => ?_, fun q => ?_⟩), fun q => absurd z3 q⟩)))
    · have hlt : p < (Ws n).length := (nI_ltI hp (by omega)).mp q
      have hwp := f1 _ (getD_mem hlt)
      have hw9 := hwp.2
      have hm : ∀ r : Int32, r = (if hrd (hr h) ((Ws n).getD p []) = 0 then -5 else hrd (hr h) ((Ws n).getD p [])) → F_X6_understood (nI h) (nI n) (nI p) ms my mw ml mo gm gs ga gg gb gu gh gk gl (fun q _ _ _ _ _ _ _ _ _ _ _ _ _ => q = r ∧ RR (T + 1) tl tx fr hd nw kp pt hr lr ms mb mt gn gt) := fun r hr9 => by
        refine hM_yes hh (br1 (nM_yes h1 hn (br1 ⟨fun _ => sp_makes h1 hn (fun mw' ml' mo' hM => ⟨fun _ => sp_says hM (by omega) f1 hlt (fun my' hs => sp_understands (by omega) rfl (SAY_seg hs) (by omega) a3 (by omega) (fun _ _ _ _ _ _ _ _ => ⟨fun q2 => ?_, fun q2 => ?_⟩)), fun q2 => absurd q q2⟩), fun q2 => absurd z3 q2⟩)))
        · rw [hrd_congr hrow, if_pos q2] at hr9
          exact ⟨hr9.symm, hR0⟩
        · rw [hrd_congr hrow, if_neg q2] at hr9
          exact ⟨hr9.symm, hR0⟩
      refine sp_at hS4 (by omega) hlt (sp_heard hwp.1 hwp.2 (by omega) (by rw [hrow 6 (by omega)]; exact a3) (by omega) (fun _ _ _ _ _ _ _ _ _ _ _ => sp_orNone (fun q2 => hm _ ?_) (fun q2 => hm _ ?_)))
      · rw [if_pos q2]
      · rw [if_neg q2]
    · exact hM_yes hh (br1 (nM_yes h1 hn (br1 ⟨fun _ => sp_makes h1 hn (fun mw' ml' mo' hM => ⟨fun q2 => absurd q2 q, fun _ => ⟨rfl, hR0⟩⟩), fun q2 => absurd z3 q2⟩)))
  · exact hX_yes hh (br1 (nX_yes h1 hn (br1 ⟨fun q => absurd q z3, fun _ => hM_yes hh (br1 (nM_yes h1 hn (br1 ⟨fun q => absurd q z3, fun _ => ⟨rfl, hR0⟩⟩)))⟩)))
theorem eq_untellable (hR : RR T tl tx fr hd nw kp pt hr lr ms mb mt gn gt) : F_X5_untellable v1 v2 v3 hr mn sd e0 e1 e2 e3 e4 e5 e6 e7 e8 e9 e10 (fun r _ _ _ _ _ _ _ _ _ _ _ _ _ => F_X6_untellable v1 v2 v3 ms my mw ml mo gm gs ga gg gb gu gh gk gl (fun q _ _ _ _ _ _ _ _ _ _ _ _ _ => q = r ∧ RR (T + 1) tl tx fr hd nw kp pt hr lr ms mb mt gn gt)) := by
  have hR0 := RR_1 hR
  rcases rng v1 5 (by omega) with n1 | ⟨h, hh, rfl⟩
  · exact hX_no n1 (br0 (hM_no n1 (br0 ⟨rfl, hR0⟩)))
  rcases num_rng v2 with n2 | ⟨f, h1, hn, rfl⟩
  · exact hX_yes hh (br1 (nX_no n2 (br0 (hM_yes hh (br1 (nM_no n2 (br0 ⟨rfl, hR0⟩)))))))
  by_cases n3 : v3 < 1 ∨ (40 : Int32) < v3
  · have hm : F_X6_untellable (nI h) (nI f) v3 ms my mw ml mo gm gs ga gg gb gu gh gk gl (fun q _ _ _ _ _ _ _ _ _ _ _ _ _ => q = (-2) ∧ RR (T + 1) tl tx fr hd nw kp pt hr lr ms mb mt gn gt) := hM_yes hh (br1 (nM_yes h1 hn (br1 (in_no n3 (br0 ⟨rfl, hR0⟩)))))
    refine hX_yes hh (br1 (nX_yes h1 hn (br1 ⟨fun _ => hm, fun a => ⟨fun b => ?_, fun _ => hm⟩⟩)))
    exact (n3.elim a (fun c => (Int32.not_le.mpr c) b)).elim
  have m1 : ¬ v3 < 1 := fun q => n3 (Or.inl q)
  have m2 : ¬ (40 : Int32) < v3 := fun q => n3 (Or.inr q)
  obtain ⟨m, k1, k2, rfl⟩ : ∃ c : Nat, 1 ≤ c ∧ c ≤ 40 ∧ v3 = nI c := by
    rw [i_lt] at m1 m2
    have e1 : (1 : Int32).toInt = 1 := rfl
    have e2 : (40 : Int32).toInt = 40 := rfl
    refine ⟨v3.toInt.toNat, by omega, by omega, ?_⟩
    rw [← zI_nat, zI_of v3]
    congr 1
    rw [← zI_of v3]
    omega
  obtain ⟨w, F, H, hw, x1, x2, x3, hH, hS⟩ := hR
  obtain ⟨a, a1, a2, a3⟩ := SR_att hS (show h < 6 by omega)
  have hrow := RR_row hS (show h < 6 by omega)
  have elast : (if (7999 : Int32) < nI f + nI m - 1 then 7999 else nI f + nI m - 1) = nI (min (f + m - 1) 7999) := by
    rw [nI_add, nI_m1 (by omega)]
    show (if nI 7999 < nI (f + m - 1) then nI 7999 else nI (f + m - 1)) = _
    rw [min_if (by omega) (by omega)]
    congr 1; omega
  refine hX_yes hh (br1 (nX_yes h1 hn (br1 ⟨fun q => absurd q m1, fun _ => ⟨fun _ => ?_, fun q => absurd (Int32.not_lt.mp m2) q⟩⟩)))
  rw [elast]
  have keyX : ∀ (Q : Int32 → Int32 → (Nat → Int64) → Int32 → Int32 → Int32 → Int32 → Int32 → Int32 → Int32 → Int32 → Int32 → Int32 → Int32 → Prop) s i, i + s = min (f + m - 1) 7999 + 1 → 1 ≤ i → ∀ acc, (∀ mn sd a0 a1 a2 a3 a4 a5 a6 a7 a8 a9 a10, Q (unS (bst (hr h)) i s acc) mn sd a0 a1 a2 a3 a4 a5 a6 a7 a8 a9 a10) →
      ∀ mn sd e0 e1 e2 e3 e4 e5 e6 e7 e8 e9 e10, L_X5_untellable_49 Q hr (s + 1) (nI h) (nI (min (f + m - 1) 7999)) acc (nI i) mn sd e0 e1 e2 e3 e4 e5 e6 e7 e8 e9 e10 := by
    intro Q s
    induction s with
    | zero =>
      intro i hi hi1 acc hq mn sd e0 e1 e2 e3 e4 e5 e6 e7 e8 e9 e10
      exact ⟨fun _ => hq _ _ _ _ _ _ _ _ _ _ _ _ _, fun q => absurd (nI_lt (by omega) (by omega)) q⟩
    | succ s ih =>
      intro i hi hi1 acc hq mn sd e0 e1 e2 e3 e4 e5 e6 e7 e8 e9 e10
      unfold unS at hq
      refine ⟨fun q => absurd q (nI_nlt (by omega) (by omega)), fun _ => sp_firstU hi1 (by omega) (by omega) (by rw [hrow 6 (by omega)]; exact a3) a2 (fun _ _ _ _ _ _ _ _ _ _ _ _ _ => ⟨fun q => ?_, fun q => ?_⟩)⟩
      · unfold B_X5_untellable_71
        rw [if_pos q] at hq
        rw [nI_1]
        exact ih (i + 1) (by omega) (by omega) _ hq _ _ _ _ _ _ _ _ _ _ _ _ _
      · unfold B_X5_untellable_71
        rw [if_neg q] at hq
        rw [nI_1]
        exact ih (i + 1) (by omega) (by omega) _ hq _ _ _ _ _ _ _ _ _ _ _ _ _
  refine ⟨(min (f + m - 1) 7999 + 1 - f) + 1, keyX _ (min (f + m - 1) 7999 + 1 - f) f (by omega) h1 0 (fun _ _ _ _ _ _ _ _ _ _ _ _ _ => ?_) _ _ _ _ _ _ _ _ _ _ _ _ _⟩
  refine hM_yes hh (br1 (nM_yes h1 hn (br1 (in_yes m1 m2 (br1 ?_)))))
  have keyM : ∀ (Q : Int32 → (Nat → Int32) → (Nat → Int32) → (Nat → Int32) → (Nat → Int32) → Int32 → Int32 → Int32 → Int32 → Int32 → Int32 → Int32 → Int32 → Int32 → Prop) s i, i + s = min (f + m - 1) 7999 + 1 → 1 ≤ i → ∀ acc, (∀ my mw ml mo gm gs ga gg gb gu gh gk gl, Q (unS (bst (fun c => ms (9 * h + c))) i s acc) my mw ml mo gm gs ga gg gb gu gh gk gl) →
      ∀ my mw ml mo gm gs ga gg gb gu gh gk gl, L_X6_untellable_35 Q ms (s + 1) (nI h) (nI f) (nI m) acc (nI i) my mw ml mo gm gs ga gg gb gu gh gk gl := by
    intro Q s
    induction s with
    | zero =>
      intro i hi hi1 acc hq my mw ml mo gm gs ga gg gb gu gh gk gl
      refine ⟨fun _ => hq _ _ _ _ _ _ _ _ _ _ _ _ _, fun q => ⟨fun _ => hq _ _ _ _ _ _ _ _ _ _ _ _ _, fun q2 => ?_⟩⟩
      exfalso
      rw [nI_add] at q
      rcases Nat.lt_or_ge i 8000 with z | z
      · exact q (nI_le (by omega) (by omega))
      · exact q2 (nI_le (a := 8000) z (by omega))
    | succ s ih =>
      intro i hi hi1 acc hq my mw ml mo gm gs ga gg gb gu gh gk gl
      unfold unS at hq
      refine ⟨fun q => ?_, fun _ => ⟨fun q => absurd q (nI_ge (b := 8000) (by omega) (by omega)), fun _ => sp_best hi1 (by omega) (by omega) a3 a2 (fun _ _ _ _ _ _ _ _ _ _ _ _ _ => ⟨fun q => ?_, fun q => ?_⟩)⟩⟩
      · rw [nI_add] at q
        exact absurd q (nI_ge (by omega) (by omega))
      · unfold B_X6_untellable_70
        rw [if_pos q] at hq
        rw [nI_1]
        exact ih (i + 1) (by omega) (by omega) _ hq _ _ _ _ _ _ _ _ _ _ _ _ _
      · unfold B_X6_untellable_70
        rw [if_neg q] at hq
        rw [nI_1, Int32.add_zero]
        exact ih (i + 1) (by omega) (by omega) _ hq _ _ _ _ _ _ _ _ _ _ _ _ _
  refine ⟨(min (f + m - 1) 7999 + 1 - f) + 1, keyM _ (min (f + m - 1) 7999 + 1 - f) f (by omega) h1 0 (fun _ _ _ _ _ _ _ _ _ _ _ _ _ => ⟨?_, hR0⟩) _ _ _ _ _ _ _ _ _ _ _ _ _⟩
  exact unS_congr (fun i => (bst_congr hrow).symm) _ _ _
/-- told on both sides -/
theorem eq_say {h F H : Nat} {num : Int32} {w : List Nat} {tw : List Nat} {P : Int32 → Int32 → Int32 → Int32 → Int32 → Int32 → Int32 → Int32 → Int32 → Int32 → Int32 → Int32 → Int32 → Int32 → (Nat → Int32) → (Nat → Int32) → (Nat → Int32) → (Nat → Nat → Int32) → (Nat → Nat → Int32) → Prop} (hw : wok w) (hh : h < 6) (hT : TXT tw tl tx mt gn) (hH : HR T F H nw kp pt hr lr mb) (hS : SR T nw kp pt hr lr 0 ms 0)
    (hP : ∀ r a0 a1 a2 a3 a4 a5 a6 a7 a8 a9 a10 fr' hd' nw' kp' pt' hr' lr', (∀ my gs ga gg gb gu gh gk gl (Q : Int32 → (Nat → Int32) → (Nat → Int32) → Int32 → Int32 → Int32 → Int32 → Int32 → Int32 → Int32 → Int32 → Int32 → Prop), SAY my w → (∀ ms' mb' gs ga gg gb gu gh gk gl gt', RR (T + 1) tl tx fr' hd' nw' kp' pt' hr' lr' ms' mb' mt gn gt' → Q r ms' mb' gs ga gg gb gu gh gk gl gt') → F_X6_tells (nI h) num (nI w.length) my ms mb gs ga gg gb gu gh gk gl (nI H) Q) → P r a0 a1 a2 a3 a4 a5 a6 a7 a8 a9 a10 fr' hd' nw' kp' pt' hr' lr') :
    F_X5_say (nI h) num (pkL w) e0 e1 e2 e3 e4 e5 e6 e7 e8 e9 e10 (nI F) (nI H) nw kp pt hr lr P := by
  obtain ⟨K, N, b1, b2, b3, b4, b5, -⟩ := hS.2.2.1
  rw [Nat.zero_add] at b5
  obtain ⟨a, a1, a2, a3⟩ := SR_att hS hh
  refine sp_say hw hH.1 hH.2.1 hh b4 b3 b2 b1 (by rw [SR_at hS hh (by omega)]; exact a3) a2 (fun _ _ _ _ _ _ _ _ _ _ _ nw1 kp1 pt1 hr1 lr1 hr2 lr2 s1 s2 c1 c2 c3 c4 => hP _ _ _ _ _ _ _ _ _ _ _ _ _ _ _ _ _ _ _ (fun my gs ga gg gb gu gh gk gl Q hs hQ => ?_))
  refine sp_tells hw hs hH.2.1 hh b5 b1 a3 a2 (fun c hc => SR_bo hS hh hc) (fun gs ga gg gb gu gh gk gl mb' ms1 ms' r1 r2 d1 d2 d3 d4 d5 d6 => ?_)
  obtain ⟨hH', hS'⟩ := HR_record hH hS s1 s2 r1 r2
  have hrow : ∀ c, c < 9 → hr1 h c = ms (9 * h + c) := fun c hc => SR_at hS' hh hc
  have hpt : pt1 0 = ms 54 := SR_pt hS'
  have eh : hrd (hr1 h) w = hrd (fun c => ms (9 * h + c)) w := hrd_congr hrow
  -- the rows
  have row7c : ∀ c, c < 9 → row7 (hr1 h) c = row7 (fun c => ms (9 * h + c)) c := fun c hc => by
    unfold row7
    by_cases e : c = 7
    · subst e; rw [pk_us, pk_us, hrow 7 (by omega)]
    · rw [pk_un e, pk_un e]; exact hrow c hc
  have row8c : ∀ c, c < 9 → row8 (hr1 h) c = row8 (fun c => ms (9 * h + c)) c := fun c hc => by
    unfold row8
    by_cases e : c = 8
    · subst e; rw [pk_us, pk_us, row7c 8 (by omega)]
    · rw [pk_un e, pk_un e]; exact row7c c hc
  have q0 := dst_congr (p := ms 54) (b := hasC w 72) (j := 0) (by omega) row8c
  have q1 := dst_congr (p := ms 54) (b := hasC w 45) (j := 1) (by omega) q0.2
  have q2 := dst_congr (p := ms 54) (b := hasC w 71) (j := 2) (by omega) q1.2
  have rowTc : ∀ c, c < 9 → rowT (pt1 0) num w (hr1 h) c = rowT (ms 54) num w (fun c => ms (9 * h + c)) c := fun c hc => by
    unfold rowT
    rw [hpt, eh]
    by_cases q : hrd (fun c => ms (9 * h + c)) w = num
    · rw [if_pos q, if_pos q]; exact row7c c hc
    · rw [if_neg q, if_neg q]; exact q2.2 c hc
  have lrnc : lrn (pt1 0) num w (hr1 h) = lrn (ms 54) num w (fun c => ms (9 * h + c)) := by
    unfold lrn
    rw [hpt, eh]
    by_cases q : hrd (fun c => ms (9 * h + c)) w = num
    · rw [if_pos q, if_pos q]
    · rw [if_neg q, if_neg q]
      show orI (orI (orI 0 _) _) _ = orI (orI (orI 0 _) _) _
      have z0 : (dr0 (ms 54) w (row8 (hr1 h))).1 = (dr0 (ms 54) w (row8 (fun c => ms (9 * h + c)))).1 := q0.1
      have z1 : (dr1 (ms 54) w (row8 (hr1 h))).1 = (dr1 (ms 54) w (row8 (fun c => ms (9 * h + c)))).1 := q1.1
      have z2 : (dr2 (ms 54) w (row8 (hr1 h))).1 = (dr2 (ms 54) w (row8 (fun c => ms (9 * h + c)))).1 := q2.1
      rw [z0, z1, z2]
  -- what the new row holds
  have k1 : ∀ c, c < 9 → 6 ≤ c → rowT (ms 54) num w (fun c => ms (9 * h + c)) c = (if hrd (fun c => ms (9 * h + c)) w = num then row7 (fun c => ms (9 * h + c)) c else row8 (fun c => ms (9 * h + c)) c) := fun c hc hc6 => by
    unfold rowT
    by_cases q : hrd (fun c => ms (9 * h + c)) w = num
    · rw [if_pos q, if_pos q]
    · rw [if_neg q, if_neg q]
      show (dst _ _ 2 (dst _ _ 1 (dst _ _ 0 _).2).2).2 c = _
      rw [dst_keep (by omega) (by omega), dst_keep (by omega) (by omega), dst_keep (by omega) (by omega)]
  have hSR1 : SR (T + 1) nw1 kp1 pt1 hr2 lr1 0 ms1 0 := by
    refine SR_row hS' hh (Nat.le_succ T) (fun c hc => ?_) c2 (fun i _ hi => d2 i hi) (fun c hc => ?_) ⟨a, a1, a2, ?_⟩ ?_
    · rw [c1, d1 c hc]; exact rowTc c hc
    · rw [d1 c (by omega)]
      unfold rowT
      have hb : isBo (row8 (fun c => ms (9 * h + c)) c) ∧ isBo (row7 (fun c => ms (9 * h + c)) c) := by
        unfold row8 row7
        rw [pk_un (by omega), pk_un (by omega)]
        exact ⟨SR_bo hS hh hc, SR_bo hS hh hc⟩
      by_cases q : hrd (fun c => ms (9 * h + c)) w = num
      · rw [if_pos q]; exact hb.2
      · rw [if_neg q]
        exact dst_bo3 (by omega) hc (dst_bo3 (by omega) hc (dst_bo3 (by omega) hc hb.1))
    · rw [d1 6 (by omega), k1 6 (by omega) (by omega)]
      have e1 : row7 (fun c => ms (9 * h + c)) 6 = ms (9 * h + 6) := by unfold row7; rw [pk_un (by omega)]
      have e2 : row8 (fun c => ms (9 * h + c)) 6 = ms (9 * h + 6) := by unfold row8; rw [pk_un (by omega)]; exact e1
      by_cases q : hrd (fun c => ms (9 * h + c)) w = num
      · rw [if_pos q, e1]; exact a3
      · rw [if_neg q, e2]; exact a3
    · obtain ⟨e, t, y1, y2, y3, y4⟩ := SR_te hS hh
      have e7 : row7 (fun c => ms (9 * h + c)) 7 = nI (t + 1) := by
        unfold row7
        rw [pk_us]
        show ms (9 * h + 7) + 1 = _
        rw [y3, nI_1]
      have e8 : row7 (fun c => ms (9 * h + c)) 8 = nI e := by
        unfold row7
        rw [pk_un (by omega)]; exact y4
      by_cases q : hrd (fun c => ms (9 * h + c)) w = num
      · refine ⟨e, t + 1, by omega, by omega, ?_, ?_⟩
        · rw [d1 7 (by omega), k1 7 (by omega) (by omega), if_pos q]; exact e7
        · rw [d1 8 (by omega), k1 8 (by omega) (by omega), if_pos q]; exact e8
      · refine ⟨e + 1, t + 1, by omega, by omega, ?_, ?_⟩
        · rw [d1 7 (by omega), k1 7 (by omega) (by omega), if_neg q]
          unfold row8
          rw [pk_un (by omega)]; exact e7
        · rw [d1 8 (by omega), k1 8 (by omega) (by omega), if_neg q]
          unfold row8
          rw [pk_us, e8, nI_1]
  have s0 := s2 0 (by omega)
  have hSR2 : SR (T + 1) (va_up nw1 0 (nI ((N + 1) % 10))) (va_up kp1 0 (nI (min (K + 1) 10))) pt1 hr2 lr2 0 ms' 0 := by
    refine SR_log (K := K) (N := N) (v := line h num w.length (hrd (fun c => ms (9 * h + c)) w) (lrn (ms 54) num w (fun c => ms (9 * h + c)))) hSR1 (s0.2.1.trans b3) (s0.1.trans b4) b1 b2 up_s up_s (fun c hc => ?_) (fun r hr9 hne c hc => by rw [c4 r hne]) d3 d4 d5 d6
    rw [c3 c hc, eh, lrnc]
  have hHR2 : HR (T + 1) ((F + 1) % 4) (min (H + 1) 4) (va_up nw1 0 (nI ((N + 1) % 10))) (va_up kp1 0 (nI (min (K + 1) 10))) pt1 hr2 lr2 mb' := HR_mono (Nat.le_succ T) (HR_other hH' (fun k hk => up_n hk) (fun k hk => up_n hk) (fun _ _ => rfl) (fun i hi => c2 i (by omega)) (fun i hi => c4 i (by omega)))
  have hfin := hQ ms' mb' gs ga gg gb gu gh gk gl (nI (min (H + 1) 4)) ⟨tw, _, _, hT, rfl, rfl, rfl, hHR2, hSR2⟩
  rw [eh] at hfin
  exact hfin
theorem eq_tell (hR : RR T tl tx fr hd nw kp pt hr lr ms mb mt gn gt) : F_X5_tell v1 v2 v3 mn sd e0 e1 e2 e3 e4 e5 e6 e7 e8 e9 e10 fr hd nw kp pt hr lr (fun r _ _ _ _ _ _ _ _ _ _ _ _ _ fr' hd' nw' kp' pt' hr' lr' => F_X6_tell v1 v2 v3 ms mb my mw ml mo gm gs ga gg gb gu gh gk gl gt (fun q ms' mb' _ _ _ _ _ _ _ _ _ _ _ _ _ gt' => q = r ∧ RR (T + 1) tl tx fr' hd' nw' kp' pt' hr' lr' ms' mb' mt gn gt')) := by
  have hR0 := RR_1 hR
  rcases rng v1 5 (by omega) with n1 | ⟨h, hh, rfl⟩
  · exact hX_no n1 (br0 (hM_no n1 (br0 ⟨rfl, hR0⟩)))
  rcases rng v3 3 (by omega) with n2 | ⟨st, hs, rfl⟩
  · exact hX_yes hh (br1 (sX_no n2 (br0 (hM_yes hh (br1 (in_no n2 (br0 ⟨rfl, hR0⟩)))))))
  have hin : ∀ Q : Int32 → Prop, Q 1 → F_X6_in (nI st) 0 3 Q := fun Q q => in_yes (nI_pos (by omega)) (nI_nlt (a := 3) hs (by omega)) q
  rcases num_rng v2 with n2 | ⟨n, h1, hn, rfl⟩
  · exact hX_yes hh (br1 (sX_yes hs (br1 (nX_no n2 (br0 (hM_yes hh (br1 (hin _ (br1 (nM_no n2 (br0 ⟨rfl, hR0⟩)))))))))))
  obtain ⟨f1, f2, f3⟩ := Ws_facts h1 hn
  obtain ⟨w, F, H, hw, rfl, rfl, rfl, hH, hS⟩ := hR
  have hp := stP_lt (st := st) f2
  refine hX_yes hh (br1 (sX_yes hs (br1 (nX_yes h1 hn (br1 (sp_find h1 hn (fun sd' hS4 => sp_placeOfStyle hS4 (by omega) f1 hs (sp_at hS4 (by omega) hp (eq_say (f1 _ (getD_mem hp)) (show h < 6 by omega) hw hH hS (fun r _ _ _ _ _ _ _ _ _ _ _ fr' hd' nw' kp' pt' hr' lr' hgo => ?_))))))))))
  refine hM_yes hh (br1 (hin _ (br1 (nM_yes h1 hn (br1 (sp_makes h1 hn (fun mw' ml' mo' hM => sp_placeOfM hM (by omega) f2 f1 hs (sp_says hM (by omega) f1 hp (fun my' hsay => hgo _ _ _ _ _ _ _ _ _ _ hsay (fun ms' mb' _ _ _ _ _ _ _ _ gt' hRR => ⟨rfl, hRR⟩))))))))))
end CALLS
