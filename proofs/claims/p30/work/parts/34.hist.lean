/-! PURE 12: states, history and log on both sides -/
theorem up_s {α : Type} {f : Nat → α} {k : Nat} {v : α} : va_up f k v k = v := if_pos rfl
theorem up_n {α : Type} {f : Nat → α} {k j : Nat} {v : α} (h : j ≠ k) : va_up f k v j = f j := if_neg h
theorem cpy_in {f g : Nat → Int32} {n c : Nat} (h : c < n) : va_cpy f g 0 0 n c = f c := by
  unfold va_cpy
  rw [if_pos ⟨Nat.zero_le _, by omega⟩, Nat.zero_add, Nat.sub_zero]
/-- the k'-th state is as the k-th was -/
def SnEq (nw' kp' pt' : Nat → Int32) (hr' lr' : Nat → Nat → Int32) (k' : Nat) (nw kp pt : Nat → Int32) (hr lr : Nat → Nat → Int32) (k : Nat) : Prop :=
  nw' k' = nw k ∧ kp' k' = kp k ∧ pt' k' = pt k ∧ (∀ h, h < 6 → ∀ c, c < 9 → hr' (6 * k' + h) c = hr (6 * k + h) c) ∧ (∀ r, r < 10 → ∀ c, c < 5 → lr' (10 * k' + r) c = lr (10 * k + r) c)
theorem SnEq.refl {nw kp pt : Nat → Int32} {hr lr : Nat → Nat → Int32} (k : Nat) : SnEq nw kp pt hr lr k nw kp pt hr lr k := ⟨rfl, rfl, rfl, fun _ _ _ _ => rfl, fun _ _ _ _ => rfl⟩
section HX
variable {nw kp pt : Nat → Int32} {hr lr : Nat → Nat → Int32}
theorem sp_copyFrom {v0 v1 : Nat} {Q : (Nat → Int32) → (Nat → Int32) → (Nat → Int32) → (Nat → Nat → Int32) → (Nat → Nat → Int32) → Prop} (hne : v0 ≠ v1)
    (hQ : ∀ nw' kp' pt' hr' lr', SnEq nw' kp' pt' hr' lr' v0 nw kp pt hr lr v1 → (∀ k, k ≠ v0 → SnEq nw' kp' pt' hr' lr' k nw kp pt hr lr k) → Q nw' kp' pt' hr' lr') : F_X3_copyFrom v0 v1 nw kp pt hr lr Q := by
  have e9 : (9 : Int32).toNatClampNeg = 9 := rfl
  have e5 : (5 : Int32).toNatClampNeg = 5 := rfl
  have e0 : (0 : Int32).toNatClampNeg = 0 := rfl
  have k35 : ∀ (hr' : Nat → Nat → Int32), (∀ h, h < 6 → ∀ c, c < 9 → hr' (6 * v0 + h) c = hr (6 * v1 + h) c) → (∀ k, k ≠ v0 → ∀ h, h < 6 → ∀ c, c < 9 → hr' (6 * k + h) c = hr (6 * k + h) c) →
      ∀ m i (lr' : Nat → Nat → Int32), i + m = 10 → (∀ r, r < i → ∀ c, c < 5 → lr' (10 * v0 + r) c = lr (10 * v1 + r) c) → (∀ k, k ≠ v0 → ∀ r, r < 10 → ∀ c, c < 5 → lr' (10 * k + r) c = lr (10 * k + r) c) →
      L_X3_copyFrom_35 Q (m + 1) v0 v1 (nI i) nw kp pt hr' lr' := by
    intro hr' a1 a2 m
    induction m with
    | zero =>
      intro i lr' hi b1 b2
      have hi : i = 10 := by omega
      subst hi
      refine ⟨fun _ => ?_, fun q => absurd (nI_le (a := 10) (by omega) (by omega)) q⟩
      refine hQ _ _ _ _ _ ⟨up_s, up_s, up_s, a1, b1⟩ (fun k hk => ⟨up_n hk, up_n hk, up_n hk, a2 k hk, b2 k hk⟩)
    | succ m ih =>
      intro i lr' hi b1 b2
      have ei : (nI i).toNatClampNeg = i := nI_clamp (by omega)
      refine ⟨fun q => absurd q (nI_ge (b := 10) (by omega) (by omega)), fun _ => ⟨vp_in_nI (by omega) (by decide), vp_in_nI (by omega) (by decide), ?_⟩⟩
      rw [ei, e0, e5, nI_1]
      refine ih (i + 1) _ (by omega) (fun r hr9 c hc => ?_) (fun k hk r hr9 c hc => ?_)
      · by_cases q : r = i
        · subst q
          rw [up_s, cpy_in hc]
          exact b2 v1 (Ne.symm hne) r (by omega) c hc
        · rw [up_n (by omega)]
          exact b1 r (by omega) c hc
      · rw [up_n (by omega)]
        exact b2 k hk r hr9 c hc
  have k2 : ∀ m i (hr' : Nat → Nat → Int32), i + m = 6 → (∀ h, h < i → ∀ c, c < 9 → hr' (6 * v0 + h) c = hr (6 * v1 + h) c) → (∀ k, k ≠ v0 → ∀ h, h < 6 → ∀ c, c < 9 → hr' (6 * k + h) c = hr (6 * k + h) c) →
      L_X3_copyFrom_2 Q (m + 1) v0 v1 (nI i) nw kp pt hr' lr := by
    intro m
    induction m with
    | zero =>
      intro i hr' hi a1 a2
      have hi : i = 6 := by omega
      subst hi
      refine ⟨fun _ => ⟨10 + 1, k35 hr' a1 a2 10 0 lr rfl (fun r hr9 => absurd hr9 (Nat.not_lt_zero r)) (fun k _ r _ c _ => rfl)⟩, fun q => absurd (nI_le (a := 6) (by omega) (by omega)) q⟩
    | succ m ih =>
      intro i hr' hi a1 a2
      have ei : (nI i).toNatClampNeg = i := nI_clamp (by omega)
      refine ⟨fun q => absurd q (nI_ge (b := 6) (by omega) (by omega)), fun _ => ⟨vp_in_nI (by omega) (by decide), vp_in_nI (by omega) (by decide), ?_⟩⟩
      rw [ei, e0, e9, nI_1]
      refine ih (i + 1) _ (by omega) (fun r hr9 c hc => ?_) (fun k hk r hr9 c hc => ?_)
      · by_cases q : r = i
        · subst q
          rw [up_s, cpy_in hc]
          exact a2 v1 (Ne.symm hne) r (by omega) c hc
        · rw [up_n (by omega)]
          exact a1 r (by omega) c hc
      · rw [up_n (by omega)]
        exact a2 k hk r hr9 c hc
  exact ⟨6 + 1, k2 6 0 hr rfl (fun r hr9 => absurd hr9 (Nat.not_lt_zero r)) (fun k _ r _ c _ => rfl)⟩
theorem sp_recordX {F H : Nat} {Q : Int32 → Int32 → (Nat → Int32) → (Nat → Int32) → (Nat → Int32) → (Nat → Nat → Int32) → (Nat → Nat → Int32) → Prop} (hF : F < 4) (hH : H ≤ 4)
    (hQ : ∀ nw' kp' pt' hr' lr', SnEq nw' kp' pt' hr' lr' (1 + F) nw kp pt hr lr 0 → (∀ k, k ≠ 1 + F → SnEq nw' kp' pt' hr' lr' k nw kp pt hr lr k) → Q (nI ((F + 1) % 4)) (nI (min (H + 1) 4)) nw' kp' pt' hr' lr') : F_X1_record 0 (nI F) (nI H) nw kp pt hr lr Q := by
  have eF : (nI F).toNatClampNeg = F := nI_clamp (by omega)
  have emin : (if (4 : Int32) < nI H + 1 then 4 else nI H + 1) = nI (min (H + 1) 4) := by
    rw [nI_1]
    show (if nI 4 < nI (H + 1) then nI 4 else nI (H + 1)) = _
    rw [min_if (by omega) (by omega)]
    congr 1; omega
  unfold F_X1_record B_X1_record_0 B_X1_record_48
  refine ⟨fun q => absurd q (nI_pos (by omega)), fun _ => ⟨fun _ => ⟨vp_in_nI hF (by decide), ?_⟩, fun q => absurd (nI_lt (b := 4) hF (by omega)) q⟩⟩
  rw [eF, emin]
  refine sp_copyFrom (by omega) (fun nw' kp' pt' hr' lr' a b => ⟨fun q => ?_, fun q => ?_⟩)
  · have e : F = 3 := (nI_eq (b := 3) (by omega) (by omega)).mp q
    have h := hQ nw' kp' pt' hr' lr' a b
    rw [e] at h
    exact h
  · have e : F ≠ 3 := fun e => q (by rw [e]; rfl)
    have h := hQ nw' kp' pt' hr' lr' a b
    rw [Nat.mod_eq_of_lt (by omega)] at h
    rw [nI_1]
    exact h
theorem sp_restore {F H : Nat} {Q : Int32 → Int32 → Int32 → (Nat → Int32) → (Nat → Int32) → (Nat → Int32) → (Nat → Nat → Int32) → (Nat → Nat → Int32) → Prop} (hF : F < 4) (hH : H ≤ 4)
    (h0 : H = 0 → Q (-5) (nI F) (nI H) nw kp pt hr lr)
    (hQ : 0 < H → ∀ nw' kp' pt' hr' lr', SnEq nw' kp' pt' hr' lr' 0 nw kp pt hr lr (1 + (F + 3) % 4) → (∀ k, k ≠ 0 → SnEq nw' kp' pt' hr' lr' k nw kp pt hr lr k) → Q (nI (H - 1)) (nI ((F + 3) % 4)) (nI (H - 1)) nw' kp' pt' hr' lr') : F_X1_restore 0 (nI F) (nI H) nw kp pt hr lr Q := by
  unfold F_X1_restore B_X1_restore_0
  refine ⟨fun q => ?_, fun q => ?_⟩
  · have hp : 0 < H := by
      rcases Nat.eq_zero_or_pos H with e | e
      · rw [e] at q; exact absurd q (by decide)
      · exact e
    have h36 : ∀ g : Nat, g < 4 → g = (F + 3) % 4 → B_X1_restore_36 Q 0 (nI g) (nI F) (nI H) nw kp pt hr lr := fun g hg e => by
      unfold B_X1_restore_36
      rw [nI_clamp (show g < 2147483648 by omega), nI_m1 hp]
      refine ⟨vp_in_nI hg (by decide), sp_copyFrom (by omega) (fun nw' kp' pt' hr' lr' a b => ?_)⟩
      have h := hQ hp nw' kp' pt' hr' lr'
      rw [← e] at h
      exact h a b
    refine ⟨fun q2 => ?_, fun q2 => ⟨fun q3 => absurd q3 (nI_ge (b := 4) hF (by omega)), fun _ => ?_⟩⟩
    · have e : F = 0 := by
        rcases Nat.eq_zero_or_pos F with e | e
        · exact e
        · exact absurd q2 (nI_nlt (b := 1) e (by omega))
      exact h36 3 (by omega) (by omega)
    · have e : 0 < F := by
        rcases Nat.eq_zero_or_pos F with e | e
        · rw [e] at q2; exact absurd (by decide) q2
        · exact e
      rw [nI_m1 e]
      exact h36 (F - 1) (by omega) (by omega)
  · have e : H = 0 := by
      rcases Nat.eq_zero_or_pos H with e | e
      · exact e
      · exact absurd (nI_lt (a := 0) e (by omega)) q
    exact h0 e
end HX
section HM
variable {ms mb : Nat → Int32}
end HM
