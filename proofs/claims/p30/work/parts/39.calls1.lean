section CALLS
variable {T : Nat} {tl fr hd gn gt : Int32} {tx nw kp pt ms mb mt : Nat → Int32} {hr lr : Nat → Nat → Int32} {v v1 v2 v3 : Int32}
/-! sums over the hearers -/
def sumH (g : Nat → Int32) : Nat → Int32
  | 0 => 0
  | n + 1 => sumH g n + g n
theorem sumH_congr {g g' : Nat → Int32} : ∀ n, (∀ h, h < n → g h = g' h) → sumH g n = sumH g' n
  | 0, _ => rfl
  | n + 1, h => by
    show sumH g n + g n = sumH g' n + g' n
    rw [sumH_congr n (fun k hk => h k (by omega)), h n (by omega)]
theorem sp_total {c0 cn : Nat} {g : Nat → Int32} {Q : Int32 → Prop} (hc : c0 + cn ≤ 9)
    (hg : ∀ (h : Nat) (s : Int32) (kh : Nat → Int32 → Int32 → Int32 → Int32 → Prop), h < 6 → kh 0 (nI c0) (nI cn) (s + g h) (nI h + 1) → ∃ n9 : Nat, L_X3_total_15 kh Q hr n9 0 (nI c0) (nI cn) s (nI h) (nI c0)) (hQ : Q (sumH g 6)) : F_X3_total 0 (nI c0) (nI cn) hr Q := by
  have key : ∀ m h, h + m = 6 → L_X3_total_5 Q hr (m + 1) 0 (nI c0) (nI cn) (sumH g h) (nI h) := by
    intro m
    induction m with
    | zero =>
      intro h hh
      have hh : h = 6 := by omega
      subst hh
      exact ⟨fun _ => hQ, fun q => absurd (nI_le (a := 6) (by omega) (by omega)) q⟩
    | succ m ih =>
      intro h hh
      refine ⟨fun q => absurd q (nI_ge (b := 6) (by omega) (by omega)), fun _ => hg h _ _ (by omega) ?_⟩
      rw [nI_1]
      exact ih (h + 1) (by omega)
  exact ⟨6 + 1, key 6 0 (by omega)⟩
theorem row_in {h c : Nat} (hh : h < 6) (hc : c < 9) : vp_in (nI h) 6 ∧ vp_in (nI c) 9 ∧ hr (6 * 0 + (nI h).toNatClampNeg) (nI c).toNatClampNeg = hr h c := by
  refine ⟨vp_in_nI hh (by decide), vp_in_nI hc (by decide), ?_⟩
  rw [nI_clamp (show h < 2147483648 by omega), nI_clamp (show c < 2147483648 by omega), Nat.mul_zero, Nat.zero_add]
theorem sp_total1 {c : Nat} {Q : Int32 → Prop} (hc : c < 9) (hQ : Q (sumH (fun h => hr h c) 6)) : F_X3_total 0 (nI c) 1 hr Q := by
  refine sp_total (cn := 1) (by omega) (fun h s kh hh hk => ?_) hQ
  obtain ⟨i1, i2, i3⟩ := row_in (hr := hr) hh hc
  have e1 : nI c + nI 1 = nI (c + 1) := nI_add c 1
  refine ⟨2, ⟨fun q => ?_, fun _ => ⟨fun q => absurd q (nI_ge (b := 9) hc (by omega)), fun _ => ⟨i1, i2, ⟨fun _ => ?_, fun q => ?_⟩⟩⟩⟩⟩
  · rw [e1] at q; exact absurd q (nI_ge (by omega) (by omega))
  · unfold B_X3_total_49
    rw [i3]; exact hk
  · rw [e1, nI_1] at q; exact absurd (nI_le (Nat.le_refl _) (by omega)) q
theorem sp_total3 {c : Nat} {Q : Int32 → Prop} (hc : c + 2 < 9) (hQ : Q (sumH (fun h => hr h c + hr h (c + 1) + hr h (c + 2)) 6)) : F_X3_total 0 (nI c) 3 hr Q := by
  refine sp_total (cn := 3) (by omega) (fun h s kh hh hk => ?_) hQ
  obtain ⟨i1, i2, i3⟩ := row_in (hr := hr) hh (show c < 9 by omega)
  obtain ⟨-, j2, j3⟩ := row_in (hr := hr) hh (show c + 1 < 9 by omega)
  obtain ⟨-, k2, k3⟩ := row_in (hr := hr) hh hc
  have e3 : nI c + nI 3 = nI (c + 3) := nI_add c 3
  have e1 : nI c + 1 = nI (c + 1) := nI_1 c
  have e2 : nI (c + 1) + 1 = nI (c + 2) := nI_1 (c + 1)
  have e4 : nI (c + 2) + 1 = nI (c + 3) := nI_1 (c + 2)
  refine ⟨4, ⟨fun q => ?_, fun _ => ⟨fun q => absurd q (nI_ge (b := 9) (by omega) (by omega)), fun _ => ⟨i1, i2, ?_⟩⟩⟩⟩
  · rw [e3] at q; exact absurd q (nI_ge (by omega) (by omega))
  rw [i3, e1]
  refine ⟨fun q => ?_, fun _ => ⟨fun q => absurd q (nI_ge (b := 9) (by omega) (by omega)), fun _ => ⟨i1, j2, ?_⟩⟩⟩
  · rw [e3] at q; exact absurd q (nI_ge (by omega) (by omega))
  rw [j3, e2]
  refine ⟨fun q => ?_, fun _ => ⟨fun q => absurd q (nI_ge (b := 9) (by omega) (by omega)), fun _ => ⟨i1, k2, ?_⟩⟩⟩
  · rw [e3] at q; exact absurd q (nI_ge (by omega) (by omega))
  rw [k3, e4]
  refine ⟨fun _ => ?_, fun q => ?_⟩
  · unfold B_X3_total_49
    have e9 : s + hr h c + hr h (c + 1) + hr h (c + 2) = s + (hr h c + hr h (c + 1) + hr h (c + 2)) := by
      rw [Int32.add_assoc, Int32.add_assoc, Int32.add_assoc]
    rw [e9]; exact hk
  · rw [e3] at q; exact absurd (nI_le (Nat.le_refl _) (by omega)) q
/-! the share -/
theorem n32_core {x : UInt32} (h : FP.Core.fIsNaN x = false) : vf_n32 x := by
  unfold vf_n32
  rw [UInt32.le_iff_toNat_le, UInt32.toNat_and]
  have h1 : (0x7fffffff : UInt32).toNat = 2 ^ 31 - 1 := by decide
  have h2 : (0x7f800000 : UInt32).toNat = 2139095040 := by decide
  rw [h1, h2, Nat.and_two_pow_sub_one_eq_mod]
  rw [← Bool.not_eq_true, FP.Core.isNaN_bits32] at h
  omega
theorem share_core {a b : Int32} (hb : b ≠ 0) : FP.Core.fIsNaN (FP.fdiv (FP.i2f a) (FP.i2f b)) = false := by
  refine FP.Core.fdiv_out (FP.Core.i2f_fin a).notNaN (FP.Core.i2f_fin b) (fun hz => ?_)
  exact FP.Core.i2f_ne_zero hb ((FP.Core.zero_bits232 _).mp hz)
end CALLS
