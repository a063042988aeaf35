/-! PURE 16: the calls, one by one: both sides answer alike and stay together -/
def TXT (w : List Nat) (tl : Int32) (tx mt : Nat → Int32) (gn : Int32) : Prop := w.length ≤ 20 ∧ (∀ d ∈ w, 32 ≤ d ∧ d ≤ 126) ∧ tl = nI w.length ∧ gn = nI w.length ∧ SAY tx w ∧ SAY mt w
/-- the class beside the reference, after at most T tellings -/
def RR (T : Nat) (tl : Int32) (tx : Nat → Int32) (fr hd : Int32) (nw kp pt : Nat → Int32) (hr lr : Nat → Nat → Int32) (ms mb mt : Nat → Int32) (gn gt : Int32) : Prop :=
  ∃ (w : List Nat) (F H : Nat), TXT w tl tx mt gn ∧ fr = nI F ∧ hd = nI H ∧ gt = nI H ∧ HR T F H nw kp pt hr lr mb ∧ SR T nw kp pt hr lr 0 ms 0
section CALLS
variable {T : Nat} {tl fr hd gn gt : Int32} {tx nw kp pt ms mb mt : Nat → Int32} {hr lr : Nat → Nat → Int32} {v v1 v2 v3 : Int32}
theorem RR_mono {T' : Nat} (h : RR T tl tx fr hd nw kp pt hr lr ms mb mt gn gt) (hT : T ≤ T') : RR T' tl tx fr hd nw kp pt hr lr ms mb mt gn gt := by
  obtain ⟨w, F, H, a, b, c, d, e, f⟩ := h
  exact ⟨w, F, H, a, b, c, d, HR_mono hT e, SR_mono hT f⟩
theorem RR_1 (h : RR T tl tx fr hd nw kp pt hr lr ms mb mt gn gt) : RR (T + 1) tl tx fr hd nw kp pt hr lr ms mb mt gn gt := RR_mono h (Nat.le_succ T)
/-! arguments -/
theorem rng (v : Int32) (n : Nat) (hn : n < 2147483647) : (v < 0 ∨ nI n < v) ∨ ∃ j, j ≤ n ∧ v = nI j := by
  rcases pk_ix v (n := n + 1) (by omega) with h | h | ⟨j, hj, e⟩
  · exact Or.inl (Or.inl h)
  · refine Or.inl (Or.inr ?_)
    rw [i_le, nI_toInt (by omega)] at h
    rw [i_lt, nI_toInt (by omega)]
    omega
  · exact Or.inr ⟨j, by omega, e⟩
theorem lt_le {v : Int32} {n : Nat} (hn : n + 1 < 2147483648) : nI n < v ↔ nI (n + 1) ≤ v := by
  rw [i_lt, i_le, nI_toInt (by omega), nI_toInt (by omega)]
  omega
theorem in_no {lo hi : Int32} {Q : Int32 → Prop} (h : v < lo ∨ hi < v) (q : Q 0) : F_X6_in v lo hi Q := sp_in (fun _ => q) (fun a b => (h.elim a b).elim)
theorem in_yes {lo hi : Int32} {Q : Int32 → Prop} (h1 : ¬ v < lo) (h2 : ¬ hi < v) (q : Q 1) : F_X6_in v lo hi Q := sp_in (fun h => (h.elim h1 h2).elim) (fun _ _ => q)
theorem hM_no {Q : Int32 → Prop} (h : v < 0 ∨ (5 : Int32) < v) (q : Q 0) : F_X6_isHearer v Q := in_no h ⟨isBo0, q⟩
theorem hM_yes {h : Nat} {Q : Int32 → Prop} (hh : h ≤ 5) (q : Q 1) : F_X6_isHearer (nI h) Q := in_yes (nI_pos (by omega)) (nI_nlt (a := 5) hh (by omega)) ⟨isBo1, q⟩
theorem hX_no {Q : Int32 → Prop} (h : v < 0 ∨ (5 : Int32) < v) (q : Q 0) : F_X5_isHearer v Q := by
  refine ⟨fun _ => ⟨isBo0, q⟩, fun a => ⟨fun _ => ⟨isBo0, q⟩, fun b => ?_⟩⟩
  exact (h.elim a (fun c => b ((lt_le (n := 5) (by omega)).mp c))).elim
theorem hX_yes {h : Nat} {Q : Int32 → Prop} (hh : h ≤ 5) (q : Q 1) : F_X5_isHearer (nI h) Q := ⟨fun a => absurd a (nI_pos (by omega)), fun _ => ⟨fun b => absurd b (nI_ge (b := 6) (by omega) (by omega)), fun _ => ⟨isBo1, q⟩⟩⟩
theorem wX_no {Q : Int32 → Prop} (h : v < 0 ∨ (2 : Int32) < v) (q : Q 0) : F_X5_isWord v Q := by
  refine ⟨fun _ => ⟨isBo0, q⟩, fun a => ⟨fun _ => ⟨isBo0, q⟩, fun b => ?_⟩⟩
  exact (h.elim a (fun c => b ((lt_le (n := 2) (by omega)).mp c))).elim
theorem wX_yes {h : Nat} {Q : Int32 → Prop} (hh : h ≤ 2) (q : Q 1) : F_X5_isWord (nI h) Q := ⟨fun a => absurd a (nI_pos (by omega)), fun _ => ⟨fun b => absurd b (nI_ge (b := 3) (by omega) (by omega)), fun _ => ⟨isBo1, q⟩⟩⟩
theorem sX_no {Q : Int32 → Prop} (h : v < 0 ∨ (3 : Int32) < v) (q : Q 0) : F_X5_isStyle v Q := by
  refine ⟨fun _ => ⟨isBo0, q⟩, fun a => ⟨fun _ => ⟨isBo0, q⟩, fun b => ?_⟩⟩
  exact (h.elim a (fun c => b ((lt_le (n := 3) (by omega)).mp c))).elim
theorem sX_yes {h : Nat} {Q : Int32 → Prop} (hh : h ≤ 3) (q : Q 1) : F_X5_isStyle (nI h) Q := ⟨fun a => absurd a (nI_pos (by omega)), fun _ => ⟨fun b => absurd b (nI_ge (b := 4) (by omega) (by omega)), fun _ => ⟨isBo1, q⟩⟩⟩
theorem nX_no {Q : Int32 → Prop} (h : v < 1 ∨ (7999 : Int32) < v) (q : Q 0) : F_X5_isNumber v Q := by
  refine ⟨fun _ => ⟨isBo0, q⟩, fun a => ⟨fun _ => ⟨isBo0, q⟩, fun b => (h.elim a b).elim⟩⟩
theorem nX_yes {n : Nat} {Q : Int32 → Prop} (h1 : 1 ≤ n) (h2 : n < 8000) (q : Q 1) : F_X5_isNumber (nI n) Q := ⟨fun a => absurd a (nI_nlt (b := 1) h1 (by omega)), fun _ => ⟨fun b => absurd b (nI_nlt (a := 7999) (by omega) (by omega)), fun _ => ⟨isBo1, q⟩⟩⟩
theorem nM_no {Q : Int32 → Prop} (h : v < 1 ∨ (7999 : Int32) < v) (q : Q 0) : F_X6_isNumber v Q := in_no h ⟨isBo0, q⟩
theorem nM_yes {n : Nat} {Q : Int32 → Prop} (h1 : 1 ≤ n) (h2 : n < 8000) (q : Q 1) : F_X6_isNumber (nI n) Q := in_yes (nI_nlt (b := 1) h1 (by omega)) (nI_nlt (a := 7999) (by omega) (by omega)) ⟨isBo1, q⟩
theorem num_rng (v : Int32) : (v < 1 ∨ (7999 : Int32) < v) ∨ ∃ n, 1 ≤ n ∧ n < 8000 ∧ v = nI n := by
  rcases rng v 7999 (by omega) with h | ⟨n, hn, e⟩
  · rcases h with h | h
    · refine Or.inl (Or.inl ?_)
      rw [i_lt] at h ⊢
      have e0 : (0 : Int32).toInt = 0 := rfl
      have e1 : (1 : Int32).toInt = 1 := rfl
      omega
    · exact Or.inl (Or.inr h)
  · rcases Nat.eq_zero_or_pos n with z | z
    · rw [e, z]; exact Or.inl (Or.inl (by decide))
    · exact Or.inr ⟨n, z, by omega, e⟩
theorem br0 {A B : Prop} (a : A) : ((0 : Int32) = 0 → A) ∧ (¬ (0 : Int32) = 0 → B) := ⟨fun _ => a, fun n => absurd rfl n⟩
theorem br1 {A B : Prop} (b : B) : ((1 : Int32) = 0 → A) ∧ (¬ (1 : Int32) = 0 → B) := ⟨fun n => absurd n (by decide), fun _ => b⟩
/-! learn, unlearn -/
theorem eq_putWord {k : Int32} (hk : isBo k) (hR : RR T tl tx fr hd nw kp pt hr lr ms mb mt gn gt) : F_X5_putWord v1 v2 k fr hd nw kp pt hr lr (fun r fr' hd' nw' kp' pt' hr' lr' => F_X6_makesKnown v1 v2 k ms mb gt (fun q ms' mb' gt' => q = r ∧ RR (T + 1) tl tx fr' hd' nw' kp' pt' hr' lr' ms' mb' mt gn gt')) := by
  rcases rng v1 5 (by omega) with n1 | ⟨h, hh, rfl⟩
  · exact hX_no n1 (br0 (hM_no n1 (br0 ⟨rfl, RR_1 hR⟩)))
  rcases rng v2 2 (by omega) with n2 | ⟨j, hj, rfl⟩
  · exact hX_yes hh (br1 (wX_no n2 (br0 (hM_yes hh (br1 (in_no n2 (br0 ⟨rfl, RR_1 hR⟩)))))))
  obtain ⟨w, F, H, hw, rfl, rfl, rfl, hH, hS⟩ := hR
  refine hX_yes hh (br1 (wX_yes hj (br1 (sp_recordX hH.1 hH.2.1 (fun nw1 kp1 pt1 hr1 lr1 s1 s2 => ?_)))))
  have ej : ((0 : Int32) + nI j).toNatClampNeg = j := by rw [Int32.zero_add, nI_clamp (by omega)]
  have ej3 : ((3 : Int32) + nI j).toNatClampNeg = 3 + j := by rw [show (3 : Int32) = nI 3 from rfl, nI_add, nI_clamp (by omega)]
  have ij : vp_in ((0 : Int32) + nI j) 9 := by rw [Int32.zero_add]; exact vp_in_nI (by omega) (by decide)
  have ij3 : vp_in ((3 : Int32) + nI j) 9 := by rw [show (3 : Int32) = nI 3 from rfl, nI_add]; exact vp_in_nI (by omega) (by decide)
  have hc : 6 * 0 + (nI h).toNatClampNeg = h := by rw [nI_clamp (by omega)]; omega
  rw [hc, ej, ej3]
  refine ⟨vp_in_nI (by omega) (by decide), ij, ij3, ?_⟩
  rw [up_s]
  have u2 : ∀ (x y : Nat → Int32), va_up (va_up hr1 h x) h y h = y := fun x y => up_s
  generalize hg : va_up (va_up hr1 h (upd (hr1 h) j k)) h (upd (upd (hr1 h) j k) (3 + j) 0) = hr2
  have g1 : hr2 h = upd (upd (hr1 h) j k) (3 + j) 0 := by rw [← hg, up_s]
  have g2 : ∀ i, i ≠ h → hr2 i = hr1 i := fun i hi => by rw [← hg, up_n hi, up_n hi]
  have l3 : ∀ (c : Nat), c < 3 → ((0 : Int32) + nI c).toNatClampNeg = c ∧ vp_in ((0 : Int32) + nI c) 9 := fun c hc => ⟨by rw [Int32.zero_add, nI_clamp (by omega)], by rw [Int32.zero_add]; exact vp_in_nI (by omega) (by decide)⟩
  have z0 := l3 0 (by omega)
  have z1 := l3 1 (by omega)
  have z2 := l3 2 (by omega)
  refine ⟨4, ⟨fun q => absurd q (by decide), fun _ => ⟨z0.2, ⟨fun q => absurd q (by decide), fun _ => ⟨z1.2, ⟨fun q => absurd q (by decide), fun _ => ⟨z2.2, ⟨fun _ => ?_, fun q => absurd (by decide) q⟩⟩⟩⟩⟩⟩⟩⟩
  rw [show ((0 : Int32) + 0).toNatClampNeg = 0 from rfl, show ((0 : Int32) + (0 + 1)).toNatClampNeg = 1 from rfl, show ((0 : Int32) + (0 + 1 + 1)).toNatClampNeg = 2 from rfl]
  -- the reference
  refine hM_yes hh (br1 (in_yes (nI_pos (by omega)) (nI_nlt (a := 2) hj (by omega)) (br1 (sp_recordM hH.2.1 (fun mb' r1 r2 => ?_)))))
  obtain ⟨hH', hS'⟩ := HR_record hH hS s1 s2 r1 r2
  have e1 : (9 : Int32) * nI h + nI j = nI (9 * h + j) := by rw [show (9 : Int32) = nI 9 from rfl, pk_mul, nI_add]
  have e2 : (9 : Int32) * nI h + 3 + nI j = nI (9 * h + (3 + j)) := by
    rw [show (9 : Int32) = nI 9 from rfl, pk_mul, show (3 : Int32) = nI 3 from rfl, nI_add, nI_add]
    congr 1; omega
  have e3 : (9 : Int32) * nI h = nI (9 * h) := by rw [show (9 : Int32) = nI 9 from rfl, pk_mul]
  rw [e1, e2, nI_clamp (show 9 * h + j < 2147483648 by omega), nI_clamp (show 9 * h + (3 + j) < 2147483648 by omega)]
  refine ⟨vp_in_nI (by omega) (by decide), vp_in_nI (by omega) (by decide), ?_⟩
  generalize hg2 : upd (upd ms (9 * h + j) k) (9 * h + (3 + j)) 0 = ms2
  have m1 : ∀ c, c < 9 → hr2 h c = ms2 (9 * h + c) := fun c hc => by
    rw [g1, ← hg2]
    by_cases x : c = 3 + j
    · subst x; rw [pk_us, pk_us]
    · rw [pk_un x, pk_un (k := 9 * h + (3 + j)) (by omega)]
      by_cases y : c = j
      · subst y; rw [pk_us, pk_us]
      · rw [pk_un y, pk_un (k := 9 * h + j) (by omega)]
        exact SR_at hS' (by omega) hc
  have m2 : ∀ i, (i < 9 * h ∨ 9 * h + 9 ≤ i) → ms2 i = ms i := fun i hi => by rw [← hg2, pk_un (by omega), pk_un (by omega)]
  have m3 : ∀ c, c ≠ j → c ≠ 3 + j → ms2 (9 * h + c) = ms (9 * h + c) := fun c x y => by rw [← hg2, pk_un (by omega), pk_un (by omega)]
  have m4 : ms2 (9 * h + j) = k := by rw [← hg2, pk_un (by omega), pk_us]
  have hSR : SR (T + 1) nw1 kp1 pt1 hr2 lr1 0 ms2 0 := SR_row hS' (by omega) (Nat.le_succ T) m1 g2 (fun i _ hi => m2 i hi) (fun c hc => by
      by_cases y : c = j
      · subst y; rw [m4]; exact hk
      · rw [m3 c y (by omega)]; exact SR_bo hS' (by omega) hc) (by
      obtain ⟨a, x1, x2, x3⟩ := SR_att hS' (show h < 6 by omega)
      exact ⟨a, x1, x2, by rw [m3 6 (by omega) (by omega)]; exact x3⟩) (by
      obtain ⟨e, t, x1, x2, x3, x4⟩ := SR_te hS' (show h < 6 by omega)
      exact ⟨e, t, x1, by omega, by rw [m3 7 (by omega) (by omega)]; exact x3, by rw [m3 8 (by omega) (by omega)]; exact x4⟩)
  have hHR : HR (T + 1) ((F + 1) % 4) (min (H + 1) 4) nw1 kp1 pt1 hr2 lr1 mb' := HR_mono (Nat.le_succ T) (HR_other hH' (fun _ _ => rfl) (fun _ _ => rfl) (fun _ _ => rfl) (fun i hi => g2 i (by omega)) (fun _ _ => rfl))
  unfold F_X6_known B_X6_known_0
  have e10 : nI (9 * h) + 1 = nI (9 * h + 1) := nI_1 _
  have e20 : nI (9 * h) + 2 = nI (9 * h + 2) := nI_add _ 2
  rw [e3, e10, e20, nI_clamp (show 9 * h < 2147483648 by omega), nI_clamp (show 9 * h + 1 < 2147483648 by omega), nI_clamp (show 9 * h + 2 < 2147483648 by omega)]
  refine ⟨vp_in_nI (by omega) (by decide), vp_in_nI (by omega) (by decide), vp_in_nI (by omega) (by decide), ?_, w, _, _, hw, rfl, rfl, rfl, hHR, hSR⟩
  rw [m1 0 (by omega), m1 1 (by omega), m1 2 (by omega), Int32.zero_add]
  rfl
theorem eq_learn (hR : RR T tl tx fr hd nw kp pt hr lr ms mb mt gn gt) : F_X5_learn v1 v2 fr hd nw kp pt hr lr (fun r fr' hd' nw' kp' pt' hr' lr' => F_X6_learn v1 v2 ms mb gt (fun q ms' mb' gt' => q = r ∧ RR (T + 1) tl tx fr' hd' nw' kp' pt' hr' lr' ms' mb' mt gn gt')) := eq_putWord isBo1 hR
theorem eq_unlearn (hR : RR T tl tx fr hd nw kp pt hr lr ms mb mt gn gt) : F_X5_unlearn v1 v2 fr hd nw kp pt hr lr (fun r fr' hd' nw' kp' pt' hr' lr' => F_X6_unlearn v1 v2 ms mb gt (fun q ms' mb' gt' => q = r ∧ RR (T + 1) tl tx fr' hd' nw' kp' pt' hr' lr' ms' mb' mt gn gt')) := eq_putWord isBo0 hR
theorem eq_attend (hR : RR T tl tx fr hd nw kp pt hr lr ms mb mt gn gt) : F_X5_attend v1 v2 fr hd nw kp pt hr lr (fun r fr' hd' nw' kp' pt' hr' lr' => F_X6_attend v1 v2 ms mb gt (fun q ms' mb' gt' => q = r ∧ RR (T + 1) tl tx fr' hd' nw' kp' pt' hr' lr' ms' mb' mt gn gt')) := by
  rcases rng v1 5 (by omega) with n1 | ⟨h, hh, rfl⟩
  · exact hX_no n1 (br0 (hM_no n1 (br0 ⟨rfl, RR_1 hR⟩)))
  have hbad : (v2 < 1 ∨ (12 : Int32) < v2) → F_X5_attend (nI h) v2 fr hd nw kp pt hr lr (fun r fr' hd' nw' kp' pt' hr' lr' => F_X6_attend (nI h) v2 ms mb gt (fun q ms' mb' gt' => q = r ∧ RR (T + 1) tl tx fr' hd' nw' kp' pt' hr' lr' ms' mb' mt gn gt')) := fun n2 => by
    have hm : F_X6_attend (nI h) v2 ms mb gt (fun q ms' mb' gt' => q = (-2) ∧ RR (T + 1) tl tx fr hd nw kp pt hr lr ms' mb' mt gn gt') := hM_yes hh (br1 (in_no n2 (br0 ⟨rfl, RR_1 hR⟩)))
    refine hX_yes hh (br1 ⟨fun _ => hm, fun a => ⟨fun b => ?_, fun _ => hm⟩⟩)
    exact (n2.elim a (fun c => (Int32.not_le.mpr c) b)).elim
  rcases rng v2 12 (by omega) with n2 | ⟨a, ha, rfl⟩
  · refine hbad ?_
    rcases n2 with n2 | n2
    · refine Or.inl ?_
      rw [i_lt] at n2 ⊢
      have e0 : (0 : Int32).toInt = 0 := rfl
      have e1 : (1 : Int32).toInt = 1 := rfl
      omega
    · exact Or.inr n2
  rcases Nat.eq_zero_or_pos a with z | z
  · exact hbad (Or.inl (by rw [z]; decide))
  obtain ⟨w, F, H, hw, rfl, rfl, rfl, hH, hS⟩ := hR
  refine hX_yes hh (br1 ⟨fun q => absurd q (nI_nlt (b := 1) z (by omega)), fun _ => ⟨fun _ => sp_recordX hH.1 hH.2.1 (fun nw1 kp1 pt1 hr1 lr1 s1 s2 => ?_), fun q => absurd (nI_le (b := 12) ha (by omega)) q⟩⟩)
  have hc : 6 * 0 + (nI h).toNatClampNeg = h := by rw [nI_clamp (by omega)]; omega
  have i6 : vp_in (6 : Int32) 9 := vp_in_nI (n := 6) (by omega) (by decide)
  rw [hc, show (6 : Int32).toNatClampNeg = 6 from rfl]
  refine ⟨vp_in_nI (by omega) (by decide), i6, i6, ?_⟩
  refine hM_yes hh (br1 (in_yes (nI_nlt (b := 1) z (by omega)) (nI_nlt (a := 12) ha (by omega)) (br1 (sp_recordM hH.2.1 (fun mb' r1 r2 => ?_)))))
  obtain ⟨hH', hS'⟩ := HR_record hH hS s1 s2 r1 r2
  have e1 : (9 : Int32) * nI h + 6 = nI (9 * h + 6) := by rw [show (9 : Int32) = nI 9 from rfl, pk_mul, show (6 : Int32) = nI 6 from rfl, nI_add]
  rw [e1, nI_clamp (show 9 * h + 6 < 2147483648 by omega)]
  have i6' : vp_in (nI (9 * h + 6)) 106 := vp_in_nI (by omega) (by decide)
  have m3 : ∀ c, c ≠ 6 → upd ms (9 * h + 6) (nI a) (9 * h + c) = ms (9 * h + c) := fun c x => pk_un (by omega)
  have hSR : SR (T + 1) nw1 kp1 pt1 (va_up hr1 h (upd (hr1 h) 6 (nI a))) lr1 0 (upd ms (9 * h + 6) (nI a)) 0 := SR_row hS' (by omega) (Nat.le_succ T) (fun c hc => by
      rw [up_s]
      by_cases x : c = 6
      · subst x; rw [pk_us, pk_us]
      · rw [pk_un x, m3 c x]; exact SR_at hS' (by omega) hc) (fun i hi => up_n hi) (fun i _ hi => pk_un (by omega)) (fun c hc => by rw [m3 c (by omega)]; exact SR_bo hS' (by omega) hc) ⟨a, z, ha, pk_us⟩ (by
      obtain ⟨e, t, x1, x2, x3, x4⟩ := SR_te hS' (show h < 6 by omega)
      exact ⟨e, t, x1, by omega, by rw [m3 7 (by omega)]; exact x3, by rw [m3 8 (by omega)]; exact x4⟩)
  have hHR := HR_mono (Nat.le_succ T) (HR_other (hr' := va_up hr1 h (upd (hr1 h) 6 (nI a))) (lr' := lr1) hH' (fun _ _ => rfl) (fun _ _ => rfl) (fun _ _ => rfl) (fun i hi => up_n (by omega)) (fun _ _ => rfl))
  exact ⟨i6', i6', (SR_at hS' (by omega) (by omega)).symm, w, _, _, hw, rfl, rfl, rfl, hHR, hSR⟩
theorem eq_set (hR : RR T tl tx fr hd nw kp pt hr lr ms mb mt gn gt) : F_X5_set v1 fr hd nw kp pt hr lr (fun r fr' hd' nw' kp' pt' hr' lr' => F_X6_set v1 ms mb gt (fun q ms' mb' gt' => q = r ∧ RR (T + 1) tl tx fr' hd' nw' kp' pt' hr' lr' ms' mb' mt gn gt')) := by
  by_cases n2 : v1 < 1 ∨ (9 : Int32) < v1
  · have hm : F_X6_set v1 ms mb gt (fun q ms' mb' gt' => q = (-2) ∧ RR (T + 1) tl tx fr hd nw kp pt hr lr ms' mb' mt gn gt') := in_no n2 (br0 ⟨rfl, RR_1 hR⟩)
    refine ⟨fun _ => hm, fun a => ⟨fun b => ?_, fun _ => hm⟩⟩
    exact (n2.elim a (fun c => (Int32.not_le.mpr c) b)).elim
  have n3 : ¬ v1 < 1 := fun q => n2 (Or.inl q)
  have n4 : ¬ (9 : Int32) < v1 := fun q => n2 (Or.inr q)
  obtain ⟨w, F, H, hw, rfl, rfl, rfl, hH, hS⟩ := hR
  refine ⟨fun q => absurd q n3, fun _ => ⟨fun _ => sp_recordX hH.1 hH.2.1 (fun nw1 kp1 pt1 hr1 lr1 s1 s2 => ?_), fun q => absurd (Int32.not_lt.mp n4) q⟩⟩
  refine in_yes n3 n4 (br1 (sp_recordM hH.2.1 (fun mb' r1 r2 => ?_)))
  obtain ⟨hH', hS'⟩ := HR_record hH hS s1 s2 r1 r2
  have i54 : vp_in (54 : Int32) 106 := vp_in_nI (n := 54) (by omega) (by decide)
  rw [show (54 : Int32).toNatClampNeg = 54 from rfl]
  have hSR : SR (T + 1) nw1 kp1 (va_up pt1 0 v1) hr1 lr1 0 (upd ms 54 v1) 0 := SR_mono (Nat.le_succ T) (SR_pat hS' up_s pk_us (fun i _ hi => pk_un hi))
  have hHR := HR_mono (Nat.le_succ T) (HR_other (hr' := hr1) (lr' := lr1) (pt' := va_up pt1 0 v1) hH' (fun _ _ => rfl) (fun _ _ => rfl) (fun i hi => up_n hi) (fun _ _ => rfl) (fun _ _ => rfl))
  exact ⟨i54, i54, (SR_pt hS').symm, w, _, _, hw, rfl, rfl, rfl, hHR, hSR⟩
theorem eq_undo (hR : RR T tl tx fr hd nw kp pt hr lr ms mb mt gn gt) : F_X5_undo fr hd nw kp pt hr lr (fun r fr' hd' nw' kp' pt' hr' lr' => F_X6_undo mb ms gt (fun q ms' gt' => q = r ∧ RR (T + 1) tl tx fr' hd' nw' kp' pt' hr' lr' ms' mb mt gn gt')) := by
  have hR0 := RR_1 hR
  obtain ⟨w, F, H, hw, rfl, rfl, rfl, hH, hS⟩ := hR
  refine sp_restore hH.1 hH.2.1 (fun e => ?_) (fun hp nw1 kp1 pt1 hr1 lr1 s1 s2 => ?_)
  · subst e
    exact ⟨fun _ => ⟨rfl, hR0⟩, fun q => absurd rfl q⟩
  · refine ⟨fun q => absurd ((nI_eq (b := 0) (by have := hH.2.1; omega) (by omega)).mp q) (by omega), fun _ => ?_⟩
    rw [nI_m1 hp]
    have hb := hH.2.1
    have key : ∀ m i (ms1 : Nat → Int32), i + m = 106 → (∀ k, k < i → ms1 k = mb (106 * (H - 1) + k)) → L_X6_undo_22 (fun q ms' gt' => q = nI (H - 1) ∧ RR (T + 1) tl tx (nI ((F + 3) % 4)) (nI (H - 1)) nw1 kp1 pt1 hr1 lr1 ms' mb mt gn gt') mb (m + 1) (nI i) ms1 (nI (H - 1)) := by
      intro m
      induction m with
      | zero =>
        intro i ms1 hi x
        have hi : i = 106 := by omega
        subst hi
        refine ⟨fun _ => ⟨rfl, ?_⟩, fun q => absurd (nI_le (a := 106) (by omega) (by omega)) q⟩
        obtain ⟨hH', hS'⟩ := HR_undo hH hp s1 s2 x
        exact ⟨w, _, _, hw, rfl, rfl, rfl, HR_mono (Nat.le_succ T) hH', SR_mono (Nat.le_succ T) hS'⟩
      | succ m ih =>
        intro i ms1 hi x
        have ex : (106 : Int32) * nI (H - 1) + nI i = nI (106 * (H - 1) + i) := by rw [show (106 : Int32) = nI 106 from rfl, pk_mul, nI_add]
        refine ⟨fun q => absurd q (nI_ge (b := 106) (by omega) (by omega)), fun _ => ?_⟩
        rw [ex, nI_clamp (show i < 2147483648 by omega), nI_clamp (show 106 * (H - 1) + i < 2147483648 by omega), nI_1]
        refine ⟨vp_in_nI (by omega) (by decide), vp_in_nI (by omega) (by decide), ih (i + 1) _ (by omega) (fun k hk => ?_)⟩
        by_cases e : k = i
        · subst e; exact pk_us
        · rw [pk_un e]; exact x k (by omega)
    exact ⟨106 + 1, key 106 0 ms rfl (fun k hk => absurd hk (Nat.not_lt_zero k))⟩
end CALLS
