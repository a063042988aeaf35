/-! PURE D: the law's sums come out true -/
theorem share_eq {r : UInt32} (h : FP.Core.fIsNaN r = false) (op : CmpOp) : Op.cmpValue (FP.fcmp r r) op = 0 := by
  have e : FP.fcmp r r = some .eq := FP.Core.fcmp_refl h
  rw [e]
  rfl
theorem share_one : FP.Core.fIsNaN FP.fconst1 = false := by decide
section SUMS
variable {M N P : Nat} {nw kp pt : Nat → Int32} {hr lr : Nat → Nat → Int32} {Q : Int32 → Prop}
abbrev g7 (hr : Nat → Nat → Int32) : Nat → Int32 := fun h => hr h 7
abbrev g8 (hr : Nat → Nat → Int32) : Nat → Int32 := fun h => hr h 8
abbrev gk (hr : Nat → Nat → Int32) : Nat → Int32 := fun h => hr h 0 + hr h 1 + hr h 2
abbrev gd (hr : Nat → Nat → Int32) : Nat → Int32 := fun h => hr h 3 + hr h 4 + hr h 5
theorem ok_323 (hs : SC M N P nw kp pt hr lr) (hM : M ≤ 1000) (hQ : Q 1) : B_L_areSums_323 Q nw kp hr lr (nI M) (nI (min M 10)) := by
  obtain ⟨b1, b2, b3, b4, b5, b6, b7, b8, b9⟩ := hs
  unfold B_L_areSums_323 B_L_areSums_345 B_L_areSums_350
  refine dx_log (a := min M 10) (c := 0) b3 b2 (by omega) b1 (by omega) (by omega) (fun _ => ⟨fun _ => ⟨fun _ => ⟨isBo1, hQ⟩, fun q => ?_⟩, fun n => absurd rfl n⟩) (fun n => absurd n (Nat.lt_irrefl _))
  have hM0 : 0 < M := by
    rcases Nat.eq_zero_or_pos M with z | z
    · exact absurd (by rw [z]; rfl) q
    · exact z
  obtain ⟨x, x1, x2⟩ := b9 hM0
  refine dx_log (a := 0) (c := 0) b3 b2 (by omega) b1 (by omega) (by omega) (fun n => absurd n (by omega)) (fun _ => ?_)
  rw [show (N + 10 - 0) % 10 = N by omega, x2]
  exact ⟨fun n => absurd n (nI_pos (by omega)), fun _ => ⟨isBo1, hQ⟩⟩
theorem ok_256 {f : UInt32} (hs : SC M N P nw kp pt hr lr) (hM : M ≤ 1000) (h0 : M = 0 → f = FP.fconst1) (h1 : M ≠ 0 → f = FP.fdiv (FP.i2f (sumH (g7 hr) 6 - sumH (g8 hr) 6)) (FP.i2f (sumH (g7 hr) 6))) (hQ : Q 1) : B_L_areSums_256 Q nw kp hr lr (sumH (g7 hr) 6) (sumH (g8 hr) 6) (sumH (gk hr) 6) (sumH (gd hr) 6) 1 f := by
  have b8 := hs.2.2.2.2.2.2.2.1
  unfold B_L_areSums_256
  refine br1 (dx_sum0 ⟨fun _ => dx_sum1 ⟨fun _ => dx_sum2 ⟨fun _ => dx_sum3 ⟨fun _ => ?_, fun n => absurd rfl n⟩, fun n => absurd rfl n⟩, fun n => absurd rfl n⟩, fun n => absurd rfl n⟩)
  have hend : ((10 : Int32) ≤ sumH (g7 hr) 6 → B_L_areSums_323 Q nw kp hr lr (sumH (g7 hr) 6) 10) ∧ (¬ (10 : Int32) ≤ sumH (g7 hr) 6 → B_L_areSums_323 Q nw kp hr lr (sumH (g7 hr) 6) (sumH (g7 hr) 6)) := by
    have e : sumH (g7 hr) 6 = nI M := b8
    rw [e]
    have h9 := ok_323 hs hM hQ
    refine ⟨fun q => ?_, fun q => ?_⟩
    · have : 10 ≤ M := (nI_leI (a := 10) (by omega) (by omega)).mp q
      rw [show min M 10 = 10 by omega] at h9
      exact h9
    · have : ¬ 10 ≤ M := fun n => q (nI_le (a := 10) n (by omega))
      rw [show min M 10 = M by omega] at h9
      exact h9
  refine dx_share b8 (by omega) (fun z => ?_) (fun z hn => ?_)
  · rw [h0 z]
    exact ⟨fun _ => hend, fun n => absurd (share_eq share_one _) n⟩
  · rw [h1 z]
    exact ⟨fun _ => hend, fun n => absurd (share_eq hn _) n⟩
theorem ok_241 (hs : SC M N P nw kp pt hr lr) (hM : M ≤ 1000) (hQ : Q 1) : B_L_areSums_241 Q nw kp hr lr (sumH (g7 hr) 6) (sumH (g8 hr) 6) (sumH (gk hr) 6) (sumH (gd hr) 6) 1 := by
  have b8 : sumH (g7 hr) 6 = nI M := hs.2.2.2.2.2.2.2.1
  unfold B_L_areSums_241
  refine ⟨fun q => ok_256 hs hM (fun _ => rfl) (fun z => ?_) hQ, fun q => ?_⟩
  · rw [b8] at q
    exact absurd ((nI_eq (b := 0) (by omega) (by omega)).mp q) z
  · exact ⟨n32_core (share_core q), ok_256 hs hM (fun z => absurd (by rw [b8, z]; rfl) q) (fun _ => rfl) hQ⟩
theorem ok_word {kh40 : Int32 → Int32 → Int32 → Int32 → Int32 → Int32 → Prop} {h j m : Nat} {v1 v2 v3 v4 : Int32} (hs : SC M N P nw kp pt hr lr) (hh : h < 6) (hj : j < 3)
    (k : L_L_areSums_77 kh40 Q nw kp hr lr m v1 v2 (v3 + hr h j) (v4 + hr h (3 + j)) 1 (nI h) (nI (j + 1))) : L_L_areSums_77 kh40 Q nw kp hr lr (m + 1) v1 v2 v3 v4 1 (nI h) (nI j) := by
  obtain ⟨x, d, x1, d1, x2, d2, hx⟩ := (hs.2.2.2.2.2.2.1 h hh).1 j hj
  have e3 : (3 : Int32) + nI j = nI (3 + j) := nI_add 3 j
  refine ⟨fun q => absurd q (nI_ge (b := 3) (by omega) (by omega)), fun _ => ⟨fun q => absurd q (by decide), fun _ => ?_⟩⟩
  rw [e3]
  have h166 : B_L_areSums_166 kh40 (L_L_areSums_77 kh40 Q nw kp hr lr m) Q nw kp hr lr v1 v2 (v3 + hr h j) (v4 + hr h (3 + j)) (nI h) (nI j) := by
    unfold B_L_areSums_166 B_L_areSums_171
    rw [nI_1]; exact k
  refine dx_hearer hh (by omega) (dx_hearer hh (by omega) (dx_hearer hh (by omega) ⟨fun q => ?_, fun _ => dx_hearer hh (by omega) ⟨fun q => ?_, fun _ => dx_hearer hh (by omega) ⟨fun _ => h166, fun q => dx_hearer hh (by omega) ⟨fun _ => h166, fun q2 => ?_⟩⟩⟩⟩))
  · rw [d2] at q; exact absurd q (nI_pos (by omega))
  · rw [d2] at q; exact absurd q (nI_nlt (a := 9) (by omega) (by omega))
  · exfalso
    have hx1 : x = 1 := by
      rcases (show x = 0 ∨ x = 1 by omega) with z | z
      · exact absurd (by rw [x2, z]; rfl) q
      · exact z
    exact q2 (by rw [d2, hx hx1]; rfl)
theorem ok_hearer {h m : Nat} (hs : SC M N P nw kp pt hr lr) (hM : M ≤ 1000) (hh : h < 6)
    (k : L_L_areSums_40 Q nw kp hr lr m (sumH (g7 hr) (h + 1)) (sumH (g8 hr) (h + 1)) (sumH (gk hr) (h + 1)) (sumH (gd hr) (h + 1)) 1 (nI (h + 1))) : L_L_areSums_40 Q nw kp hr lr (m + 1) (sumH (g7 hr) h) (sumH (g8 hr) h) (sumH (gk hr) h) (sumH (gd hr) h) 1 (nI h) := by
  obtain ⟨-, ⟨a, a1, a2, a3⟩, ee, t, t1, t2, t3, t4⟩ := hs.2.2.2.2.2.2.1 h hh
  refine ⟨fun q => absurd q (nI_ge (b := 6) (by omega) (by omega)), fun _ => ⟨fun q => absurd q (by decide), fun _ => ?_⟩⟩
  refine dx_hearer hh (c := 7) (by omega) (dx_hearer hh (c := 8) (by omega) ⟨4, ?_⟩)
  refine ok_word (j := 0) hs hh (by omega) (ok_word (j := 1) hs hh (by omega) (ok_word (j := 2) hs hh (by omega) ⟨fun _ => ?_, fun q => absurd (by decide) q⟩))
  unfold B_L_areSums_179 B_L_areSums_233
  refine br1 (dx_hearer hh (c := 8) (by omega) (dx_hearer hh (c := 7) (by omega) ⟨fun q => ?_, fun _ => dx_hearer hh (c := 6) (by omega) ⟨fun q => ?_, fun _ => dx_hearer hh (c := 6) (by omega) ⟨fun q => ?_, fun _ => ?_⟩⟩⟩))
  · rw [t3, t4] at q; exact absurd q (nI_nlt t1 (by omega))
  · rw [a3] at q; exact absurd q (nI_nlt (b := 1) a1 (by omega))
  · rw [a3] at q; exact absurd q (nI_nlt (a := 12) a2 (by omega))
  · have ek : sumH (gk hr) h + hr h 0 + hr h 1 + hr h 2 = sumH (gk hr) (h + 1) := by
      show _ = sumH (gk hr) h + (hr h 0 + hr h 1 + hr h 2)
      rw [Int32.add_assoc, Int32.add_assoc, Int32.add_assoc]
    have ed : sumH (gd hr) h + hr h (3 + 0) + hr h (3 + 1) + hr h (3 + 2) = sumH (gd hr) (h + 1) := by
      show _ = sumH (gd hr) h + (hr h 3 + hr h 4 + hr h 5)
      rw [Int32.add_assoc, Int32.add_assoc, Int32.add_assoc]
    have k2 : L_L_areSums_40 Q nw kp hr lr m (sumH (g7 hr) h + hr h 7) (sumH (g8 hr) h + hr h 8) (sumH (gk hr) h + hr h 0 + hr h 1 + hr h 2) (sumH (gd hr) h + hr h (3 + 0) + hr h (3 + 1) + hr h (3 + 2)) 1 (nI h + 1) := by
      rw [ek, ed, nI_1]; exact k
    exact k2
theorem ok_areSums (hs : SC M N P nw kp pt hr lr) (hM : M ≤ 1000) (hQ : Q 1) : F_L_areSums nw kp hr lr Q := by
  have h6 : L_L_areSums_40 Q nw kp hr lr 1 (sumH (g7 hr) 6) (sumH (g8 hr) 6) (sumH (gk hr) 6) (sumH (gd hr) 6) 1 (nI 6) := ⟨fun _ => ok_241 hs hM hQ, fun q => absurd (by decide) q⟩
  have h0 := ok_hearer hs hM (h := 0) (by omega) (ok_hearer hs hM (h := 1) (by omega) (ok_hearer hs hM (h := 2) (by omega) (ok_hearer hs hM (h := 3) (by omega) (ok_hearer hs hM (h := 4) (by omega) (ok_hearer hs hM (h := 5) (by omega) h6)))))
  unfold F_L_areSums B_L_areSums_0 B_L_areSums_35
  exact dx_hearer_no (Or.inr (by decide)) ⟨fun _ => dx_hearer_no (Or.inl (by decide)) ⟨fun _ => ⟨7, h0⟩, fun n => absurd rfl n⟩, fun n => absurd rfl n⟩
end SUMS
