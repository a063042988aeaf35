/-! PURE 12: states, history and log on both sides -/
theorem up_s {α : Type} {f : Nat → α} {k : Nat} {v : α} : va_up f k v k = v := if_pos rfl
theorem up_n {α : Type} {f : Nat → α} {k j : Nat} {v : α} (h : j ≠ k) : va_up f k v j = f j := if_neg h
theorem cpy_in {f g : Nat → Int32} {n c : Nat} (h : c < n) : va_cpy f g 0 0 n c = f c := by
  unfold va_cpy
  rw [if_pos ⟨Nat.zero_le _, by omega⟩, Nat.zero_add, Nat.sub_zero]
/-- the k'-th state is as the k-th was -/
def SnEq (nw' kp' pt' : Nat → Int32) (hr' lr' : Nat → Nat → Int32) (k' : Nat) (nw kp pt : Nat → Int32) (hr lr : Nat → Nat → Int32) (k : Nat) : Prop :=
  nw' k' = nw k ∧ kp' k' = kp k ∧ pt' k' = pt k ∧ (∀ h, h < 6 → ∀ c, c < 9 → hr' (6 * k' + h) c = hr (6 * k + h) c) ∧ (∀ r, r < 10 → ∀ c, c < 5 → lr' (10 * k' + r) c = lr (10 * k + r) c)
theorem SnEq.refl {nw kp pt : Nat → Int32} {hr lr : Nat → Nat → Int32} (k : Nat) : SnEq nw kp pt hr lr k nw kp pt hr lr k := ⟨rfl, rfl, rfl, fun _ _ _ _ => rfl, fun _ _ _ _ => rfl⟩
section HX
variable {nw kp pt : Nat → Int32} {hr lr : Nat → Nat → Int32}
theorem sp_copyFrom {v0 v1 : Nat} {Q : (Nat → Int32) → (Nat → Int32) → (Nat → Int32) → (Nat → Nat → Int32) → (Nat → Nat → Int32) → Prop} (hne : v0 ≠ v1)
    (hQ : ∀ nw' kp' pt' hr' lr', SnEq nw' kp' pt' hr' lr' v0 nw kp pt hr lr v1 → (∀ k, k ≠ v0 → SnEq nw' kp' pt' hr' lr' k nw kp pt hr lr k) → Q nw' kp' pt' hr' lr') : F_X3_copyFrom v0 v1 nw kp pt hr lr Q := by
  have e9 : (9 : Int32).toNatClampNeg = 9 := rfl
  have e5 : (5 : Int32).toNatClampNeg = 5 := rfl
  have e0 : (0 : Int32).toNatClampNeg = 0 := rfl
  have k35 : ∀ (hr' : Nat → Nat → Int32), (∀ h, h < 6 → ∀ c, c < 9 → hr' (6 * v0 + h) c = hr (6 * v1 + h) c) → (∀ k, k ≠ v0 → ∀ h, h < 6 → ∀ c, c < 9 → hr' (6 * k + h) c = hr (6 * k + h) c) →
      ∀ m i (lr' : Nat → Nat → Int32), i + m = 10 → (∀ r, r < i → ∀ c, c < 5 → lr' (10 * v0 + r) c = lr (10 * v1 + r) c) → (∀ k, k ≠ v0 → ∀ r, r < 10 → ∀ c, c < 5 → lr' (10 * k + r) c = lr (10 * k + r) c) →
      L_X3_copyFrom_35 Q (m + 1) v0 v1 (nI i) nw kp pt hr' lr' := by
    intro hr' a1 a2 m
    induction m with
    | zero =>
      intro i lr' hi b1 b2
      have hi : i = 10 := by omega
      subst hi
      refine ⟨fun _ => ?_, fun q => absurd (nI_le (a := 10) (by omega) (by omega)) q⟩
      refine hQ _ _ _ _ _ ⟨up_s, up_s, up_s, a1, b1⟩ (fun k hk => ⟨up_n hk, up_n hk, up_n hk, a2 k hk, b2 k hk⟩)
    | succ m ih =>
      intro i lr' hi b1 b2
      have ei : (nI i).toNatClampNeg = i := nI_clamp (by omega)
      refine ⟨fun q => absurd q (nI_ge (b := 10) (by omega) (by omega)), fun _ => ⟨vp_in_nI (by omega) (by decide), vp_in_nI (by omega) (by decide), ?_⟩⟩
      rw [ei, e0, e5, nI_1]
      refine ih (i + 1) _ (by omega) (fun r hr9 c hc => ?_) (fun k hk r hr9 c hc => ?_)
      · by_cases q : r = i
        · subst q
          rw [up_s, cpy_in hc]
          exact b2 v1 (Ne.symm hne) r (by omega) c hc
        · rw [up_n (by omega)]
          exact b1 r (by omega) c hc
      · rw [up_n (by omega)]
        exact b2 k hk r hr9 c hc
  have k2 : ∀ m i (hr' : Nat → Nat → Int32), i + m = 6 → (∀ h, h < i → ∀ c, c < 9 → hr' (6 * v0 + h) c = hr (6 * v1 + h) c) → (∀ k, k ≠ v0 → ∀ h, h < 6 → ∀ c, c < 9 → hr' (6 * k + h) c = hr (6 * k + h) c) →
      L_X3_copyFrom_2 Q (m + 1) v0 v1 (nI i) nw kp pt hr' lr := by
    intro m
    induction m with
    | zero =>
      intro i hr' hi a1 a2
      have hi : i = 6 := by omega
      subst hi
      refine ⟨fun _ => ⟨10 + 1, k35 hr' a1 a2 10 0 lr rfl (fun r hr9 => absurd hr9 (Nat.not_lt_zero r)) (fun k _ r _ c _ => rfl)⟩, fun q => absurd (nI_le (a := 6) (by omega) (by omega)) q⟩
    | succ m ih =>
      intro i hr' hi a1 a2
      have ei : (nI i).toNatClampNeg = i := nI_clamp (by omega)
      refine ⟨fun q => absurd q (nI_ge (b := 6) (by omega) (by omega)), fun _ => ⟨vp_in_nI (by omega) (by decide), vp_in_nI (by omega) (by decide), ?_⟩⟩
      rw [ei, e0, e9, nI_1]
      refine ih (i + 1) _ (by omega) (fun r hr9 c hc => ?_) (fun k hk r hr9 c hc => ?_)
      · by_cases q : r = i
        · subst q
          rw [up_s, cpy_in hc]
          exact a2 v1 (Ne.symm hne) r (by omega) c hc
        · rw [up_n (by omega)]
          exact a1 r (by omega) c hc
      · rw [up_n (by omega)]
        exact a2 k hk r hr9 c hc
  exact ⟨6 + 1, k2 6 0 hr rfl (fun r hr9 => absurd hr9 (Nat.not_lt_zero r)) (fun k _ r _ c _ => rfl)⟩
theorem sp_recordX {F H : Nat} {Q : Int32 → Int32 → (Nat → Int32) → (Nat → Int32) → (Nat → Int32) → (Nat → Nat → Int32) → (Nat → Nat → Int32) → Prop} (hF : F < 4) (hH : H ≤ 4)
    (hQ : ∀ nw' kp' pt' hr' lr', SnEq nw' kp' pt' hr' lr' (1 + F) nw kp pt hr lr 0 → (∀ k, k ≠ 1 + F → SnEq nw' kp' pt' hr' lr' k nw kp pt hr lr k) → Q (nI ((F + 1) % 4)) (nI (min (H + 1) 4)) nw' kp' pt' hr' lr') : F_X1_record 0 (nI F) (nI H) nw kp pt hr lr Q := by
  have eF : (nI F).toNatClampNeg = F := nI_clamp (by omega)
  have emin : (if (4 : Int32) < nI H + 1 then 4 else nI H + 1) = nI (min (H + 1) 4) := by
    rw [nI_1]
    show (if nI 4 < nI (H + 1) then nI 4 else nI (H + 1)) = _
    rw [min_if (by omega) (by omega)]
    congr 1; omega
  unfold F_X1_record B_X1_record_0 B_X1_record_48
  refine ⟨fun q => absurd q (nI_pos (by omega)), fun _ => ⟨fun _ => ⟨vp_in_nI hF (by decide), ?_⟩, fun q => absurd (nI_lt (b := 4) hF (by omega)) q⟩⟩
  rw [eF, emin]
  refine sp_copyFrom (by omega) (fun nw' kp' pt' hr' lr' a b => ⟨fun q => ?_, fun q => ?_⟩)
  · have e : F = 3 := (nI_eq (b := 3) (by omega) (by omega)).mp q
    have h := hQ nw' kp' pt' hr' lr' a b
    rw [e] at h
    exact h
  · have e : F ≠ 3 := fun e => q (by rw [e]; rfl)
    have h := hQ nw' kp' pt' hr' lr' a b
    rw [Nat.mod_eq_of_lt (by omega)] at h
    rw [nI_1]
    exact h
theorem sp_restore {F H : Nat} {Q : Int32 → Int32 → Int32 → (Nat → Int32) → (Nat → Int32) → (Nat → Int32) → (Nat → Nat → Int32) → (Nat → Nat → Int32) → Prop} (hF : F < 4) (hH : H ≤ 4)
    (h0 : H = 0 → Q (-5) (nI F) (nI H) nw kp pt hr lr)
    (hQ : 0 < H → ∀ nw' kp' pt' hr' lr', SnEq nw' kp' pt' hr' lr' 0 nw kp pt hr lr (1 + (F + 3) % 4) → (∀ k, k ≠ 0 → SnEq nw' kp' pt' hr' lr' k nw kp pt hr lr k) → Q (nI (H - 1)) (nI ((F + 3) % 4)) (nI (H - 1)) nw' kp' pt' hr' lr') : F_X1_restore 0 (nI F) (nI H) nw kp pt hr lr Q := by
  unfold F_X1_restore B_X1_restore_0
  refine ⟨fun q => ?_, fun q => ?_⟩
  · have hp : 0 < H := by
      rcases Nat.eq_zero_or_pos H with e | e
      · rw [e] at q; exact absurd q (by decide)
      · exact e
    have h36 : ∀ g : Nat, g < 4 → g = (F + 3) % 4 → B_X1_restore_36 Q 0 (nI g) (nI F) (nI H) nw kp pt hr lr := fun g hg e => by
      unfold B_X1_restore_36
      rw [nI_clamp (show g < 2147483648 by omega), nI_m1 hp]
      refine ⟨vp_in_nI hg (by decide), sp_copyFrom (by omega) (fun nw' kp' pt' hr' lr' a b => ?_)⟩
      have h := hQ hp nw' kp' pt' hr' lr'
      rw [← e] at h
      exact h a b
    refine ⟨fun q2 => ?_, fun q2 => ⟨fun q3 => absurd q3 (nI_ge (b := 4) hF (by omega)), fun _ => ?_⟩⟩
    · have e : F = 0 := by
        rcases Nat.eq_zero_or_pos F with e | e
        · exact e
        · exact absurd q2 (nI_nlt (b := 1) e (by omega))
      exact h36 3 (by omega) (by omega)
    · have e : 0 < F := by
        rcases Nat.eq_zero_or_pos F with e | e
        · rw [e] at q2; exact absurd (by decide) q2
        · exact e
      rw [nI_m1 e]
      exact h36 (F - 1) (by omega) (by omega)
  · have e : H = 0 := by
      rcases Nat.eq_zero_or_pos H with e | e
      · exact e
      · exact absurd (nI_lt (a := 0) e (by omega)) q
    exact h0 e
end HX
section HM
variable {ms mb : Nat → Int32}
theorem sp_recordM {H : Nat} {Q : (Nat → Int32) → Int32 → Prop} (hH : H ≤ 4)
    (hQ : ∀ mb', (∀ i, i < 106 → mb' (106 * (min (H + 1) 4 - 1) + i) = ms i) → (∀ j, 1 ≤ j → j < min (H + 1) 4 → ∀ i, i < 106 → mb' (106 * (min (H + 1) 4 - 1 - j) + i) = mb (106 * (H - j) + i)) → Q mb' (nI (min (H + 1) 4))) : F_X6_record ms mb (nI H) Q := by
  have h50 : ∀ (g : Nat) (mb0 : Nat → Int32), g + 1 = min (H + 1) 4 → (∀ j, 1 ≤ j → j < min (H + 1) 4 → ∀ i, i < 106 → mb0 (106 * (min (H + 1) 4 - 1 - j) + i) = mb (106 * (H - j) + i)) →
      ∀ m i (mb' : Nat → Int32), i + m = 106 → (∀ k, k < i → mb' (106 * g + k) = ms k) → (∀ k, k < 106 * g → mb' k = mb0 k) → L_X6_record_50 Q ms (m + 1) (nI i) mb' (nI g) := by
    intro g mb0 hg h0 m
    induction m with
    | zero =>
      intro i mb' hi a b
      have hi : i = 106 := by omega
      subst hi
      refine ⟨fun _ => ?_, fun q => absurd (nI_le (a := 106) (by omega) (by omega)) q⟩
      rw [nI_1, hg]
      refine hQ mb' (fun k hk => ?_) (fun j h1 h2 k hk => ?_)
      · rw [← hg, show g + 1 - 1 = g by omega]
        exact a k hk
      · rw [b _ (by omega)]
        exact h0 j h1 h2 k hk
    | succ m ih =>
      intro i mb' hi a b
      have ei : (nI i).toNatClampNeg = i := nI_clamp (by omega)
      have ex : (106 : Int32) * nI g + nI i = nI (106 * g + i) := by rw [show (106 : Int32) = nI 106 from rfl, pk_mul, nI_add]
      have hg3 : g ≤ 3 := by omega
      refine ⟨fun q => absurd q (nI_ge (b := 106) (by omega) (by omega)), fun _ => ?_⟩
      rw [ex, ei, nI_clamp (show 106 * g + i < 2147483648 by omega), nI_1]
      refine ⟨vp_in_nI (by omega) (by decide), vp_in_nI (by omega) (by decide), ih (i + 1) _ (by omega) (fun k hk => ?_) (fun k hk => ?_)⟩
      · by_cases q : k = i
        · subst q; exact pk_us
        · rw [pk_un (by omega)]; exact a k (by omega)
      · rw [pk_un (by omega)]; exact b k hk
  unfold F_X6_record B_X6_record_0 B_X6_record_48
  refine ⟨fun q => ?_, fun q => ?_⟩
  · have e : H = 4 := (nI_eq (b := 4) (by omega) (by omega)).mp q
    subst e
    have h10 : ∀ m i (mb' : Nat → Int32), i + m = 318 → (∀ k, k < i → mb' k = mb (106 + k)) → (∀ k, i ≤ k → mb' k = mb k) → L_X6_record_10 Q ms (m + 1) (nI i) mb' (nI 4) := by
      intro m
      induction m with
      | zero =>
        intro i mb' hi a b
        have hi : i = 318 := by omega
        subst hi
        refine ⟨fun _ => ?_, fun q => absurd (nI_le (a := 318) (by omega) (by omega)) q⟩
        unfold B_X6_record_48
        rw [nI_m1 (by omega)]
        refine ⟨106 + 1, h50 3 mb' rfl (fun j h1 h2 k hk => ?_) 106 0 mb' rfl (fun k hk => absurd hk (Nat.not_lt_zero k)) (fun k _ => rfl)⟩
        have h2 : j < 4 := by omega
        show mb' (106 * (4 - 1 - j) + k) = _
        rw [a _ (by omega)]
        congr 1; omega
      | succ m ih =>
        intro i mb' hi a b
        have ei : (nI i).toNatClampNeg = i := nI_clamp (by omega)
        have ex : (106 : Int32) + nI i = nI (106 + i) := by rw [show (106 : Int32) = nI 106 from rfl, nI_add]
        refine ⟨fun q => absurd q (nI_ge (b := 318) (by omega) (by omega)), fun _ => ?_⟩
        rw [ex, ei, nI_clamp (show 106 + i < 2147483648 by omega), nI_1]
        refine ⟨vp_in_nI (by omega) (by decide), vp_in_nI (by omega) (by decide), ih (i + 1) _ (by omega) (fun k hk => ?_) (fun k hk => ?_)⟩
        · by_cases q : k = i
          · subst q
            rw [pk_us]; exact b _ (by omega)
          · rw [pk_un (by omega)]; exact a k (by omega)
        · rw [pk_un (by omega)]; exact b k (by omega)
    exact ⟨318 + 1, h10 318 0 mb rfl (fun k hk => absurd hk (Nat.not_lt_zero k)) (fun k _ => rfl)⟩
  · have e : H ≠ 4 := fun e => q (by rw [e]; rfl)
    refine ⟨106 + 1, h50 H mb (by omega) (fun j h1 h2 k hk => ?_) 106 0 mb rfl (fun k hk => absurd hk (Nat.not_lt_zero k)) (fun k _ => rfl)⟩
    rw [show min (H + 1) 4 - 1 - j = H - j by omega]
end HM
/-- one state of the class beside one of the reference's: what both hold, with T tellings at most -/
def SR (T : Nat) (nw kp pt : Nat → Int32) (hr lr : Nat → Nat → Int32) (k : Nat) (f : Nat → Int32) (B : Nat) : Prop :=
  pt k = f (B + 54) ∧ (∀ h, h < 6 → ∀ c, c < 9 → hr (6 * k + h) c = f (B + (9 * h + c))) ∧
  (∃ K N : Nat, K ≤ 10 ∧ N < 10 ∧ kp k = nI K ∧ nw k = nI N ∧ f (B + 55) = nI K ∧ ∀ a, a < K → ∀ c, c < 5 → lr (10 * k + (N + 10 - a) % 10) c = f (B + (56 + 5 * (K - 1 - a) + c))) ∧
  (∀ h, h < 6 → ∀ c, c < 3 → isBo (f (B + (9 * h + c)))) ∧ (∀ h, h < 6 → ∃ a, 1 ≤ a ∧ a ≤ 12 ∧ f (B + (9 * h + 6)) = nI a) ∧
  (∀ h, h < 6 → ∃ e t : Nat, e ≤ t ∧ t ≤ T ∧ f (B + (9 * h + 7)) = nI t ∧ f (B + (9 * h + 8)) = nI e)
theorem SR_eq {T : Nat} {nw kp pt nw' kp' pt' : Nat → Int32} {hr lr hr' lr' : Nat → Nat → Int32} {k k' : Nat} {f f' : Nat → Int32} {B B' : Nat} (h : SR T nw kp pt hr lr k f B) (h1 : SnEq nw' kp' pt' hr' lr' k' nw kp pt hr lr k) (h2 : ∀ i, i < 106 → f' (B' + i) = f (B + i)) : SR T nw' kp' pt' hr' lr' k' f' B' := by
  obtain ⟨a1, a2, ⟨K, N, b1, b2, b3, b4, b5, b6⟩, a4, a5, a6⟩ := h
  obtain ⟨c1, c2, c3, c4, c5⟩ := h1
  refine ⟨?_, fun h hh c hc => ?_, ⟨K, N, b1, b2, c2.trans b3, c1.trans b4, (h2 55 (by omega)).trans b5, fun a ha c hc => ?_⟩, fun h hh c hc => ?_, fun h hh => ?_, fun h hh => ?_⟩
  · rw [c3, a1, h2 54 (by omega)]
  · rw [c4 h hh c hc, a2 h hh c hc, h2 _ (by omega)]
  · rw [c5 _ (by omega) c hc, b6 a ha c hc, h2 _ (by omega)]
  · rw [h2 _ (by omega)]; exact a4 h hh c hc
  · rw [h2 _ (by omega)]; exact a5 h hh
  · rw [h2 _ (by omega), h2 _ (by omega)]; exact a6 h hh
theorem SR_mono {T T' : Nat} {nw kp pt : Nat → Int32} {hr lr : Nat → Nat → Int32} {k : Nat} {f : Nat → Int32} {B : Nat} (hT : T ≤ T') (h : SR T nw kp pt hr lr k f B) : SR T' nw kp pt hr lr k f B := by
  obtain ⟨a1, a2, a3, a4, a5, a6⟩ := h
  refine ⟨a1, a2, a3, a4, a5, fun h hh => ?_⟩
  obtain ⟨e, t, b1, b2, b3, b4⟩ := a6 h hh
  exact ⟨e, t, b1, by omega, b3, b4⟩
/-- the histories -/
def HR (T : Nat) (F H : Nat) (nw kp pt : Nat → Int32) (hr lr : Nat → Nat → Int32) (mb : Nat → Int32) : Prop :=
  F < 4 ∧ H ≤ 4 ∧ ∀ j, j < H → SR T nw kp pt hr lr (1 + (F + 3 - j) % 4) mb (106 * (H - 1 - j))
theorem HR_mono {T T' F H : Nat} {nw kp pt : Nat → Int32} {hr lr : Nat → Nat → Int32} {mb : Nat → Int32} (hT : T ≤ T') (h : HR T F H nw kp pt hr lr mb) : HR T' F H nw kp pt hr lr mb := ⟨h.1, h.2.1, fun j hj => SR_mono hT (h.2.2 j hj)⟩
/-- record, on both sides -/
theorem HR_record {T F H : Nat} {nw kp pt nw' kp' pt' : Nat → Int32} {hr lr hr' lr' : Nat → Nat → Int32} {ms mb mb' : Nat → Int32} (hh : HR T F H nw kp pt hr lr mb) (hs : SR T nw kp pt hr lr 0 ms 0) (h1 : SnEq nw' kp' pt' hr' lr' (1 + F) nw kp pt hr lr 0) (h2 : ∀ k, k ≠ 1 + F → SnEq nw' kp' pt' hr' lr' k nw kp pt hr lr k)
    (h3 : ∀ i, i < 106 → mb' (106 * (min (H + 1) 4 - 1) + i) = ms i) (h4 : ∀ j, 1 ≤ j → j < min (H + 1) 4 → ∀ i, i < 106 → mb' (106 * (min (H + 1) 4 - 1 - j) + i) = mb (106 * (H - j) + i)) : HR T ((F + 1) % 4) (min (H + 1) 4) nw' kp' pt' hr' lr' mb' ∧ SR T nw' kp' pt' hr' lr' 0 ms 0 := by
  obtain ⟨hF, hH, hj⟩ := hh
  refine ⟨⟨by omega, by omega, fun j hj2 => ?_⟩, SR_eq hs (h2 0 (by omega)) (fun i _ => rfl)⟩
  rcases Nat.eq_zero_or_pos j with e | e
  · subst e
    rw [show 1 + ((F + 1) % 4 + 3 - 0) % 4 = 1 + F by omega]
    refine SR_eq hs h1 (fun i hi => ?_)
    rw [Nat.sub_zero, h3 i hi, Nat.zero_add]
  · have h9 := hj (j - 1) (by omega)
    have e1 : 1 + ((F + 1) % 4 + 3 - j) % 4 = 1 + (F + 3 - (j - 1)) % 4 := by omega
    rw [e1]
    refine SR_eq h9 (h2 _ (by omega)) (fun i hi => ?_)
    rw [h4 j e hj2 i hi, show H - 1 - (j - 1) = H - j by omega]
theorem HR_undo {T F H : Nat} {nw kp pt nw' kp' pt' : Nat → Int32} {hr lr hr' lr' : Nat → Nat → Int32} {mb ms' : Nat → Int32} (hh : HR T F H nw kp pt hr lr mb) (hp : 0 < H) (h1 : SnEq nw' kp' pt' hr' lr' 0 nw kp pt hr lr (1 + (F + 3) % 4)) (h2 : ∀ k, k ≠ 0 → SnEq nw' kp' pt' hr' lr' k nw kp pt hr lr k)
    (h3 : ∀ i, i < 106 → ms' i = mb (106 * (H - 1) + i)) : HR T ((F + 3) % 4) (H - 1) nw' kp' pt' hr' lr' mb ∧ SR T nw' kp' pt' hr' lr' 0 ms' 0 := by
  obtain ⟨hF, hH, hj⟩ := hh
  refine ⟨⟨by omega, by omega, fun j hj2 => ?_⟩, ?_⟩
  · have h9 := hj (j + 1) (by omega)
    rw [show 1 + ((F + 3) % 4 + 3 - j) % 4 = 1 + (F + 3 - (j + 1)) % 4 by omega, show H - 1 - 1 - j = H - 1 - (j + 1) by omega]
    exact SR_eq h9 (h2 _ (by omega)) (fun i _ => rfl)
  · have h9 := hj 0 hp
    refine SR_eq h9 h1 (fun i hi => ?_)
    rw [Nat.zero_add, h3 i hi, Nat.sub_zero]
