/-! PURE B: what each call answers, of the class alone -/
section DX
variable {fr hd mn e0 e1 e2 e3 e4 e5 e6 e7 e8 e9 e10 v1 v2 v3 : Int32} {tx nw kp pt : Nat → Int32} {hr lr : Nat → Nat → Int32} {sd : Nat → Int64}
theorem dx_hearer {h c : Nat} {Q : Int32 → Prop} (hh : h < 6) (hc : c < 9) (hQ : Q (hr h c)) : F_X5_hearer (nI h) (nI c) hr Q := by
  have hcl : 6 * 0 + (nI h).toNatClampNeg = h := by rw [nI_clamp (by omega)]; omega
  refine hX_yes (by omega) (br1 ⟨fun q => absurd q (nI_pos (by omega)), fun _ => ⟨fun _ => ⟨vp_in_nI (by omega) (by decide), vp_in_nI (by omega) (by decide), ?_⟩, fun q => absurd (nI_lt (b := 9) (by omega) (by omega)) q⟩⟩)
  rw [hcl, nI_clamp (show c < 2147483648 by omega)]
  exact hQ
theorem dx_hearer_no {Q : Int32 → Prop} (h : v1 < 0 ∨ (5 : Int32) < v1) (hQ : Q (-1)) : F_X5_hearer v1 v2 hr Q := hX_no h (br0 hQ)
theorem dx_sum0 {Q : Int32 → Prop} (hQ : Q (sumH (fun h => hr h 7) 6)) : F_X5_sum 0 hr Q := ⟨fun _ => sp_total1 (c := 7) (by omega) hQ, fun q => absurd rfl q⟩
theorem dx_sum1 {Q : Int32 → Prop} (hQ : Q (sumH (fun h => hr h 8) 6)) : F_X5_sum 1 hr Q := ⟨fun q => absurd q (by decide), fun _ => ⟨fun _ => sp_total1 (c := 8) (by omega) hQ, fun q => absurd rfl q⟩⟩
theorem dx_sum2 {Q : Int32 → Prop} (hQ : Q (sumH (fun h => hr h 0 + hr h 1 + hr h 2) 6)) : F_X5_sum 2 hr Q := ⟨fun q => absurd q (by decide), fun _ => ⟨fun q => absurd q (by decide), fun _ => ⟨fun _ => sp_total3 (c := 0) (by omega) hQ, fun q => absurd rfl q⟩⟩⟩
theorem dx_sum3 {Q : Int32 → Prop} (hQ : Q (sumH (fun h => hr h 3 + hr h 4 + hr h 5) 6)) : F_X5_sum 3 hr Q := ⟨fun q => absurd q (by decide), fun _ => ⟨fun q => absurd q (by decide), fun _ => ⟨fun q => absurd q (by decide), fun _ => ⟨fun _ => sp_total3 (c := 3) (by omega) hQ, fun q => absurd rfl q⟩⟩⟩⟩
theorem dx_patience {Q : Int32 → Prop} (hQ : Q (pt 0)) : F_X5_patience pt Q := hQ
theorem dx_share {s : Nat} {Q : UInt32 → Prop} (hs : sumH (fun h => hr h 7) 6 = nI s) (s1 : s < 2147483648) (h0 : s = 0 → Q FP.fconst1)
    (h1 : s ≠ 0 → FP.Core.fIsNaN (FP.fdiv (FP.i2f (sumH (fun h => hr h 7) 6 - sumH (fun h => hr h 8) 6)) (FP.i2f (sumH (fun h => hr h 7) 6))) = false → Q (FP.fdiv (FP.i2f (sumH (fun h => hr h 7) 6 - sumH (fun h => hr h 8) 6)) (FP.i2f (sumH (fun h => hr h 7) 6)))) : F_X5_share hr Q := by
  unfold F_X5_share B_X5_share_0
  refine sp_total1 (c := 7) (by omega) ⟨fun q => sp_total1 (c := 8) (by omega) ?_, fun q => ?_⟩
  · have hz : s ≠ 0 := fun e => by rw [hs, e] at q; exact absurd q (by decide)
    have hne : sumH (fun h => hr h 7) 6 ≠ 0 := fun e => by rw [e] at q; exact absurd q (by decide)
    have hn := share_core (a := sumH (fun h => hr h 7) 6 - sumH (fun h => hr h 8) 6) hne
    exact ⟨n32_core hn, h1 hz hn⟩
  · refine h0 ?_
    rw [hs] at q
    rcases Nat.eq_zero_or_pos s with z | z
    · exact z
    · exact absurd (nI_lt (a := 0) z (by omega)) q
theorem dx_log {K N a c : Nat} {Q : Int32 → Prop} (hK : kp 0 = nI K) (hN : nw 0 = nI N) (b1 : K ≤ 10) (b2 : N < 10) (ha : a < 2147483648) (hc : c < 5) (h1 : K ≤ a → Q (-5)) (h2 : a < K → Q (lr ((N + 10 - a) % 10) c)) : F_X5_log (nI a) (nI c) nw kp lr Q := by
  unfold F_X5_log B_X5_log_0 B_X5_log_41
  rw [hK]
  refine ⟨fun q => absurd q (nI_pos ha), fun _ => ⟨fun q => absurd q (nI_pos (by omega)), fun _ => ⟨fun _ => ⟨fun q => h1 ((nI_leI (by omega) ha).mp q), fun q => ?_⟩, fun q => absurd (nI_lt (b := 5) (by omega) (by omega)) q⟩⟩⟩
  have hlt : a < K := Classical.byContradiction fun n => q (nI_le (by omega) ha)
  have h14 : ∀ m : Nat, m = (N + 10 - a) % 10 → B_X3_told_14 Q nw lr 0 (nI c) (nI m) := fun m hme => by
    refine ⟨fun q => absurd q (nI_pos (by omega)), fun _ => ⟨fun q => absurd q (nI_ge (b := 10) (by omega) (by omega)), fun _ => ⟨vp_in_nI (by omega) (by decide), vp_in_nI (by omega) (by decide), ?_⟩⟩⟩
    rw [nI_clamp (show m < 2147483648 by omega), nI_clamp (show c < 2147483648 by omega), Nat.mul_zero, Nat.zero_add, hme]
    exact h2 hlt
  unfold F_X3_told B_X3_told_0
  rw [hN]
  have ez : nI N - nI a = zI ((N : Int) - a) := by rw [← zI_nat, ← zI_nat, zI_sub]
  rw [ez]
  refine ⟨fun q => ?_, fun q => ?_⟩
  · rw [show (0 : Int32) = zI 0 from rfl, zI_le (by omega) (by omega) (by omega) (by omega)] at q
    have e : zI ((N : Int) - a) = nI (N - a) := by rw [← zI_nat]; congr 1; omega
    rw [e]; exact h14 _ (by omega)
  · rw [show (0 : Int32) = zI 0 from rfl, zI_le (by omega) (by omega) (by omega) (by omega)] at q
    have e : zI ((N : Int) - a) + 10 = nI (N + 10 - a) := by
      rw [show (10 : Int32) = zI 10 from rfl, zI_add, ← zI_nat]; congr 1; omega
    rw [e]; exact h14 _ (by omega)
theorem dx_putWord {h j F H : Nat} {k : Int32} {Q : Int32 → Int32 → Int32 → (Nat → Int32) → (Nat → Int32) → (Nat → Int32) → (Nat → Nat → Int32) → (Nat → Nat → Int32) → Prop} (hh : h < 6) (hj : j < 3) (hF : F < 4) (hH : H ≤ 4)
    (hQ : ∀ nw1 kp1 pt1 hr1 lr1 hr2, SnEq nw1 kp1 pt1 hr1 lr1 (1 + F) nw kp pt hr lr 0 → (∀ k, k ≠ 1 + F → SnEq nw1 kp1 pt1 hr1 lr1 k nw kp pt hr lr k) → hr2 h = upd (upd (hr1 h) j k) (3 + j) 0 → (∀ i, i ≠ h → hr2 i = hr1 i) → Q (hr2 h 0 + hr2 h 1 + hr2 h 2) (nI ((F + 1) % 4)) (nI (min (H + 1) 4)) nw1 kp1 pt1 hr2 lr1) : F_X5_putWord (nI h) (nI j) k (nI F) (nI H) nw kp pt hr lr Q := by
  refine hX_yes (by omega) (br1 (wX_yes (by omega) (br1 (sp_recordX hF hH (fun nw1 kp1 pt1 hr1 lr1 s1 s2 => ?_)))))
  have ej : ((0 : Int32) + nI j).toNatClampNeg = j := by rw [Int32.zero_add, nI_clamp (by omega)]
  have ej3 : ((3 : Int32) + nI j).toNatClampNeg = 3 + j := by rw [show (3 : Int32) = nI 3 from rfl, nI_add, nI_clamp (by omega)]
  have ij : vp_in ((0 : Int32) + nI j) 9 := by rw [Int32.zero_add]; exact vp_in_nI (by omega) (by decide)
  have ij3 : vp_in ((3 : Int32) + nI j) 9 := by rw [show (3 : Int32) = nI 3 from rfl, nI_add]; exact vp_in_nI (by omega) (by decide)
  have hc : 6 * 0 + (nI h).toNatClampNeg = h := by rw [nI_clamp (by omega)]; omega
  rw [hc, ej, ej3]
  refine ⟨vp_in_nI (by omega) (by decide), ij, ij3, ?_⟩
  rw [up_s]
  generalize hg : va_up (va_up hr1 h (upd (hr1 h) j k)) h (upd (upd (hr1 h) j k) (3 + j) 0) = hr2
  have g1 : hr2 h = upd (upd (hr1 h) j k) (3 + j) 0 := by rw [← hg, up_s]
  have g2 : ∀ i, i ≠ h → hr2 i = hr1 i := fun i hi => by rw [← hg, up_n hi, up_n hi]
  have l3 : ∀ (c : Nat), c < 3 → ((0 : Int32) + nI c).toNatClampNeg = c ∧ vp_in ((0 : Int32) + nI c) 9 := fun c hc => ⟨by rw [Int32.zero_add, nI_clamp (by omega)], by rw [Int32.zero_add]; exact vp_in_nI (by omega) (by decide)⟩
  have z0 := l3 0 (by omega)
  have z1 := l3 1 (by omega)
  have z2 := l3 2 (by omega)
  refine ⟨4, ⟨fun q => absurd q (by decide), fun _ => ⟨z0.2, ⟨fun q => absurd q (by decide), fun _ => ⟨z1.2, ⟨fun q => absurd q (by decide), fun _ => ⟨z2.2, ⟨fun _ => ?_, fun q => absurd (by decide) q⟩⟩⟩⟩⟩⟩⟩⟩
  rw [show ((0 : Int32) + 0).toNatClampNeg = 0 from rfl, show ((0 : Int32) + (0 + 1)).toNatClampNeg = 1 from rfl, show ((0 : Int32) + (0 + 1 + 1)).toNatClampNeg = 2 from rfl]
  have h9 := hQ nw1 kp1 pt1 hr1 lr1 hr2 s1 s2 g1 g2
  rw [Int32.zero_add]
  exact h9
theorem dx_attend {h a F H : Nat} {Q : Int32 → Int32 → Int32 → (Nat → Int32) → (Nat → Int32) → (Nat → Int32) → (Nat → Nat → Int32) → (Nat → Nat → Int32) → Prop} (hh : h < 6) (a1 : 1 ≤ a) (a2 : a ≤ 12) (hF : F < 4) (hH : H ≤ 4)
    (hQ : ∀ nw1 kp1 pt1 hr1 lr1, SnEq nw1 kp1 pt1 hr1 lr1 (1 + F) nw kp pt hr lr 0 → (∀ k, k ≠ 1 + F → SnEq nw1 kp1 pt1 hr1 lr1 k nw kp pt hr lr k) → Q (hr1 h 6) (nI ((F + 1) % 4)) (nI (min (H + 1) 4)) nw1 kp1 pt1 (va_up hr1 h (upd (hr1 h) 6 (nI a))) lr1) : F_X5_attend (nI h) (nI a) (nI F) (nI H) nw kp pt hr lr Q := by
  refine hX_yes (by omega) (br1 ⟨fun q => absurd q (nI_nlt (b := 1) a1 (by omega)), fun _ => ⟨fun _ => sp_recordX hF hH (fun nw1 kp1 pt1 hr1 lr1 s1 s2 => ?_), fun q => absurd (nI_le (b := 12) a2 (by omega)) q⟩⟩)
  have hc : 6 * 0 + (nI h).toNatClampNeg = h := by rw [nI_clamp (by omega)]; omega
  have i6 : vp_in (6 : Int32) 9 := vp_in_nI (n := 6) (by omega) (by decide)
  rw [hc, show (6 : Int32).toNatClampNeg = 6 from rfl]
  exact ⟨vp_in_nI (by omega) (by decide), i6, i6, hQ _ _ _ _ _ s1 s2⟩
theorem dx_set {a F H : Nat} {Q : Int32 → Int32 → Int32 → (Nat → Int32) → (Nat → Int32) → (Nat → Int32) → (Nat → Nat → Int32) → (Nat → Nat → Int32) → Prop} (a1 : 1 ≤ a) (a2 : a ≤ 9) (hF : F < 4) (hH : H ≤ 4)
    (hQ : ∀ nw1 kp1 pt1 hr1 lr1, SnEq nw1 kp1 pt1 hr1 lr1 (1 + F) nw kp pt hr lr 0 → (∀ k, k ≠ 1 + F → SnEq nw1 kp1 pt1 hr1 lr1 k nw kp pt hr lr k) → Q (pt1 0) (nI ((F + 1) % 4)) (nI (min (H + 1) 4)) nw1 kp1 (va_up pt1 0 (nI a)) hr1 lr1) : F_X5_set (nI a) (nI F) (nI H) nw kp pt hr lr Q :=
  ⟨fun q => absurd q (nI_nlt (b := 1) a1 (by omega)), fun _ => ⟨fun _ => sp_recordX hF hH (fun nw1 kp1 pt1 hr1 lr1 s1 s2 => hQ _ _ _ _ _ s1 s2), fun q => absurd (nI_le (b := 9) a2 (by omega)) q⟩⟩
theorem dx_append {w : List Nat} {c : Nat} {Q : Int32 → Int32 → (Nat → Int32) → Prop} (hl : w.length < 20) (hs : SAY tx w) (c1 : 32 ≤ c) (c2 : c ≤ 126) (hQ : ∀ tx', SAY tx' (w ++ [c]) → Q (nI (w.length + 1)) (nI (w.length + 1)) tx') : F_X5_append (nI c) (nI w.length) tx Q := by
  have ei : vp_nar .char (((nI c).toUInt32 % 65536).toInt32) = nI c := by rw [i2c_nI (by omega), nar_char (by omega)]
  refine ⟨fun q => absurd q (nI_nlt (b := 32) c1 (by omega)), fun _ => ⟨fun _ => ⟨fun q => absurd q (nI_pos (by omega)), fun _ => ⟨fun q => ?_, fun q => absurd (nI_lt (b := 20) hl (by omega)) q⟩⟩, fun q => absurd (nI_le (b := 126) c2 (by omega)) q⟩⟩
  rw [ei, nI_clamp (show w.length < 2147483648 by omega), nI_1]
  refine ⟨vp_in_nI hl (by decide), hQ _ (fun i hi => ?_)⟩
  rw [List.length_append] at hi
  have hi : i < w.length + 1 := hi
  by_cases e : i < w.length
  · rw [pk_un (by omega), getD_app _ _ _ _ e]; exact hs i e
  · have e2 : i = w.length := by omega
    subst e2
    rw [pk_us, getD_end]
theorem dx_clearText {tl : Int32} {Q : Int32 → Int32 → Prop} (hQ : Q tl 0) : F_X5_clearText tl Q := hQ
theorem dx_ways {n : Nat} {Q : Int32 → Int32 → (Nat → Int64) → Prop} (h1 : 1 ≤ n) (hn : n < 8000) (hQ : ∀ mn' sd', Q (nI (Ws n).length) mn' sd') : F_X5_ways (nI n) mn sd Q := nX_yes h1 hn (br1 (sp_find h1 hn (fun sd' hS => hQ _ _)))
theorem dx_wayLength {n p : Nat} {Q : Int32 → Int32 → (Nat → Int64) → Prop} (h1 : 1 ≤ n) (hn : n < 8000) (hp : p < (Ws n).length) (hQ : ∀ mn' sd', Q (nI ((Ws n).getD p []).length) mn' sd') : F_X5_wayLength (nI n) (nI p) mn sd Q := by
  obtain ⟨f1, f2, f3⟩ := Ws_facts h1 hn
  have hw := f1 _ (getD_mem hp)
  exact nX_yes h1 hn (br1 ⟨fun q => sp_find h1 hn (fun sd' hS => ⟨fun q2 => absurd q2 (nI_ge hp (by omega)), fun q2 => sp_at hS (by omega) hp (sp_length hw.1 hw.2 (hQ _ _))⟩), fun q => absurd (nI_pos' (by omega)) q⟩)
theorem dx_wayAt {n p i : Nat} {Q : Int32 → Int32 → (Nat → Int64) → Prop} (h1 : 1 ≤ n) (hn : n < 8000) (hp : p < (Ws n).length) (hi : i < ((Ws n).getD p []).length) (hQ : ∀ mn' sd', Q (nI (((Ws n).getD p []).getD i 0)) mn' sd') : F_X5_wayAt (nI n) (nI p) (nI i) mn sd Q := by
  obtain ⟨f1, f2, f3⟩ := Ws_facts h1 hn
  have hw := f1 _ (getD_mem hp)
  have hw9 := hw.2
  refine nX_yes h1 hn (br1 ⟨fun q => absurd q (nI_pos (by omega)), fun _ => ⟨fun _ => sp_find h1 hn (fun sd' hS => ⟨fun q => ?_, fun q => absurd (nI_lt hp (by omega)) q⟩), fun q => absurd (nI_pos' (by omega)) q⟩⟩)
  refine sp_at hS (by omega) hp (sp_length hw.1 hw.2 ⟨fun q2 => absurd q2 (nI_ge hi (by omega)), fun q2 => ?_⟩)
  have ex : nI ((Ws n).getD p []).length - 1 - nI i = nI (((Ws n).getD p []).length - 1 - i) := by rw [nI_m1 (by omega), pk_sub (by omega)]
  rw [ex]
  refine sp_character hw.1 hw.2 (by omega) ?_
  rw [show ((Ws n).getD p []).length - 1 - (((Ws n).getD p []).length - 1 - i) = i by omega]
  exact hQ _ _
theorem dx_styled {n st : Nat} {Q : Int32 → Int32 → (Nat → Int64) → Prop} (h1 : 1 ≤ n) (hn : n < 8000) (hs : st ≤ 3) (hQ : ∀ mn' sd', Q (nI (stP (Ws n) st)) mn' sd') : F_X5_styled (nI n) (nI st) mn sd Q := by
  obtain ⟨f1, f2, f3⟩ := Ws_facts h1 hn
  exact sX_yes hs (br1 (nX_yes h1 hn (br1 (sp_find h1 hn (fun sd' hS => sp_placeOfStyle hS (by omega) f1 hs (hQ _ _))))))
theorem dx_understood {h n p a : Nat} {Q : Int32 → Int32 → (Nat → Int64) → Int32 → Int32 → Int32 → Int32 → Int32 → Int32 → Int32 → Int32 → Int32 → Int32 → Int32 → Prop} (hh : h < 6) (h1 : 1 ≤ n) (hn : n < 8000) (hp : p < (Ws n).length) (ha : hr h 6 = nI a) (a2 : a ≤ 12)
    (hQ : ∀ mn sd a0 a1 a2 a3 a4 a5 a6 a7 a8 a9 a10, Q (if hrd (hr h) ((Ws n).getD p []) = 0 then -5 else hrd (hr h) ((Ws n).getD p [])) mn sd a0 a1 a2 a3 a4 a5 a6 a7 a8 a9 a10) : F_X5_understood (nI h) (nI n) (nI p) hr mn sd e0 e1 e2 e3 e4 e5 e6 e7 e8 e9 e10 Q := by
  obtain ⟨f1, f2, f3⟩ := Ws_facts h1 hn
  have hw := f1 _ (getD_mem hp)
  refine hX_yes (by omega) (br1 (nX_yes h1 hn (br1 ⟨fun _ => sp_find h1 hn (fun sd' hS4 => ⟨fun q => ?_, fun q => absurd (nI_lt hp (by omega)) q⟩), fun q => absurd (nI_pos' (by omega)) q⟩)))
  refine sp_at hS4 (by omega) hp (sp_heard hw.1 hw.2 (by omega) ha (by omega) (fun b0 b1 b2 b3 b4 b5 b6 b7 b8 b9 b10 => sp_orNone (fun q2 => ?_) (fun q2 => ?_)))
  · have h9 := hQ (nI (Ws n).length) sd' b0 b1 b2 b3 b4 b5 b6 b7 b8 b9 b10
    rw [if_pos q2] at h9
    exact h9
  · have h9 := hQ (nI (Ws n).length) sd' b0 b1 b2 b3 b4 b5 b6 b7 b8 b9 b10
    rw [if_neg q2] at h9
    exact h9
theorem dx_reach {n st : Nat} {Q : Int32 → Int32 → (Nat → Int64) → Int32 → Int32 → Int32 → Int32 → Int32 → Int32 → Int32 → Int32 → Int32 → Int32 → Int32 → Prop} (h1 : 1 ≤ n) (hn : n < 8000) (hs : st ≤ 3) (ha : ∀ h, h < 6 → ∃ a, a ≤ 12 ∧ hr h 6 = nI a)
    (hQ : ∀ mn sd a0 a1 a2 a3 a4 a5 a6 a7 a8 a9 a10, Q (rcd hr ((Ws n).getD (stP (Ws n) st) []) (nI n)) mn sd a0 a1 a2 a3 a4 a5 a6 a7 a8 a9 a10) : F_X5_reach (nI n) (nI st) hr mn sd e0 e1 e2 e3 e4 e5 e6 e7 e8 e9 e10 Q := by
  obtain ⟨f1, f2, f3⟩ := Ws_facts h1 hn
  have hp := stP_lt (st := st) f2
  exact sX_yes hs (br1 (nX_yes h1 hn (br1 (sp_find h1 hn (fun sd' hS4 => sp_placeOfStyle hS4 (by omega) f1 hs (sp_at hS4 (by omega) hp (sp_reachedX (f1 _ (getD_mem hp)) ha (fun _ _ _ _ _ _ _ _ _ _ _ => hQ _ _ _ _ _ _ _ _ _ _ _ _ _))))))))
theorem dx_bestWay {h n a : Nat} {Q : Int32 → Int32 → (Nat → Int64) → Int32 → Int32 → Int32 → Int32 → Int32 → Int32 → Int32 → Int32 → Int32 → Int32 → Int32 → Prop} (hh : h < 6) (h1 : 1 ≤ n) (hn : n < 8000) (ha : hr h 6 = nI a) (a2 : a ≤ 12)
    (hQ : ∀ mn sd a0 a1 a2 a3 a4 a5 a6 a7 a8 a9 a10, Q (bst (hr h) n) mn sd a0 a1 a2 a3 a4 a5 a6 a7 a8 a9 a10) : F_X5_bestWay (nI h) (nI n) hr mn sd e0 e1 e2 e3 e4 e5 e6 e7 e8 e9 e10 Q :=
  hX_yes (by omega) (br1 (nX_yes h1 hn (br1 (sp_firstU h1 hn (by omega) ha a2 (fun _ _ _ _ _ _ _ _ _ _ _ _ _ => hQ _ _ _ _ _ _ _ _ _ _ _ _ _)))))
theorem cw_nat {c : Nat → Int32} {L : Nat} : ∀ (n k : Nat) (b : Nat) (m : Int32), k + n = L → b < L → ∃ r : Nat, r < L ∧ cw c k n (nI b) m = nI r
  | 0, _, b, _, _, hb => ⟨b, hb, rfl⟩
  | n + 1, k, b, m, hk, hb => by
    unfold cw
    by_cases q : c k ≤ m
    · rw [if_pos q]; exact cw_nat n (k + 1) b m (by omega) hb
    · rw [if_neg q]; exact cw_nat n (k + 1) k (c k) (by omega) (by omega)
theorem dx_commonWay {n : Nat} {Q : Int32 → Int32 → (Nat → Int64) → Int32 → Int32 → Int32 → Int32 → Int32 → Int32 → Int32 → Int32 → Int32 → Int32 → Int32 → Prop} (h1 : 1 ≤ n) (hn : n < 8000) (ha : ∀ h, h < 6 → ∃ a, a ≤ 12 ∧ hr h 6 = nI a)
    (hQ : ∀ r : Nat, r < (Ws n).length → ∀ mn sd a0 a1 a2 a3 a4 a5 a6 a7 a8 a9 a10, Q (nI r) mn sd a0 a1 a2 a3 a4 a5 a6 a7 a8 a9 a10) : F_X5_commonWay (nI n) hr mn sd e0 e1 e2 e3 e4 e5 e6 e7 e8 e9 e10 Q := by
  obtain ⟨f1, f2, f3⟩ := Ws_facts h1 hn
  refine nX_yes h1 hn (br1 (sp_find h1 hn (fun sd' hS4 => ?_)))
  have keyX : ∀ m k, k + m = (Ws n).length → ∀ b mo9, (∀ mn sd a0 a1 a2 a3 a4 a5 a6 a7 a8 a9 a10, Q (cw (fun p => rcd hr ((Ws n).getD p []) (nI n)) k m b mo9) mn sd a0 a1 a2 a3 a4 a5 a6 a7 a8 a9 a10) →
      ∀ e0 e1 e2 e3 e4 e5 e6 e7 e8 e9 e10, L_X5_commonWay_25 Q hr (m + 1) (nI n) b mo9 (nI k) (nI (Ws n).length) sd' e0 e1 e2 e3 e4 e5 e6 e7 e8 e9 e10 := by
    intro m
    induction m with
    | zero =>
      intro k hk b mo9 hq e0 e1 e2 e3 e4 e5 e6 e7 e8 e9 e10
      exact ⟨fun _ => hq _ _ _ _ _ _ _ _ _ _ _ _ _, fun q => absurd (nI_le (by omega) (by omega)) q⟩
    | succ m ih =>
      intro k hk b mo9 hq e0 e1 e2 e3 e4 e5 e6 e7 e8 e9 e10
      have hk2 : k < (Ws n).length := by omega
      unfold cw at hq
      refine ⟨fun q => absurd q (nI_ge hk2 (by omega)), fun _ => sp_at hS4 (by omega) hk2 (sp_reachedX (f1 _ (getD_mem hk2)) ha (fun _ _ _ _ _ _ _ _ _ _ _ => ⟨fun q => ?_, fun q => ?_⟩))⟩
      · unfold B_X5_commonWay_65
        rw [nI_1]
        rw [if_pos q] at hq
        exact ih (k + 1) (by omega) _ _ hq _ _ _ _ _ _ _ _ _ _ _
      · unfold B_X5_commonWay_65
        rw [nI_1]
        rw [if_neg q] at hq
        exact ih (k + 1) (by omega) _ _ hq _ _ _ _ _ _ _ _ _ _ _
  refine ⟨(Ws n).length + 1, keyX (Ws n).length 0 (by omega) 0 0 (fun _ _ _ _ _ _ _ _ _ _ _ _ _ => ?_) _ _ _ _ _ _ _ _ _ _ _⟩
  obtain ⟨r, r1, r2⟩ := cw_nat (c := fun p => rcd hr ((Ws n).getD p []) (nI n)) (L := (Ws n).length) (Ws n).length 0 0 0 (by omega) (by omega)
  have r2 : cw (fun p => rcd hr ((Ws n).getD p []) (nI n)) 0 (Ws n).length 0 0 = nI r := r2
  rw [r2]
  exact hQ r r1 _ _ _ _ _ _ _ _ _ _ _ _ _
theorem dx_untellable1 {h n a : Nat} {Q : Int32 → Int32 → (Nat → Int64) → Int32 → Int32 → Int32 → Int32 → Int32 → Int32 → Int32 → Int32 → Int32 → Int32 → Int32 → Prop} (hh : h < 6) (h1 : 1 ≤ n) (hn : n < 8000) (ha : hr h 6 = nI a) (a2 : a ≤ 12)
    (hQ : ∀ mn sd a0 a1 a2 a3 a4 a5 a6 a7 a8 a9 a10, Q (if bst (hr h) n = -5 then 1 else 0) mn sd a0 a1 a2 a3 a4 a5 a6 a7 a8 a9 a10) : F_X5_untellable (nI h) (nI n) 1 hr mn sd e0 e1 e2 e3 e4 e5 e6 e7 e8 e9 e10 Q := by
  have elast : (if (7999 : Int32) < nI n + 1 - 1 then 7999 else nI n + 1 - 1) = nI n := by
    rw [nI_1, nI_m1 (by omega), show n + 1 - 1 = n by omega, if_neg (show ¬ (7999 : Int32) < nI n from nI_nlt (a := 7999) (b := n) (by omega) (by omega))]
  refine hX_yes (by omega) (br1 (nX_yes h1 hn (br1 ⟨fun q => absurd q (by decide), fun _ => ⟨fun _ => ?_, fun q => absurd (by decide) q⟩⟩)))
  rw [elast]
  refine ⟨2, ⟨fun q => absurd q (nI_nlt (by omega) (by omega)), fun _ => sp_firstU h1 hn (by omega) ha a2 (fun b0 b1 b2 b3 b4 b5 b6 b7 b8 b9 b10 b11 b12 => ⟨fun q => ?_, fun q => ?_⟩)⟩⟩
  · have h9 := hQ b0 b1 b2 b3 b4 b5 b6 b7 b8 b9 b10 b11 b12
    unfold B_X5_untellable_71
    rw [nI_1]
    refine ⟨fun _ => ?_, fun q3 => absurd (nI_lt (by omega) (by omega)) q3⟩
    first
    | (rw [if_pos q] at h9; exact h9)
    | (rw [if_neg q] at h9; exact h9)
  · have h9 := hQ b0 b1 b2 b3 b4 b5 b6 b7 b8 b9 b10 b11 b12
    unfold B_X5_untellable_71
    rw [nI_1]
    refine ⟨fun _ => ?_, fun q3 => absurd (nI_lt (by omega) (by omega)) q3⟩
    first
    | (rw [if_neg q] at h9; exact h9)
    | (rw [if_pos q] at h9; exact h9)
/-! the text -/
section TX
variable {w : List Nat}
theorem dx_fault_ok {Q : Int32 → Int32 → Int32 → Int32 → Int32 → Int32 → Int32 → Int32 → Int32 → Int32 → Int32 → Int32 → Prop} (hl : w.length ≤ 20) (hs : SAY tx w) (ok : okr w S0) (hQ : ∀ a0 a1 a2 a3 a4 a5 a6 a7 a8 a9 a10, Q (-5) a0 a1 a2 a3 a4 a5 a6 a7 a8 a9 a10) : F_X5_fault (nI w.length) tx e0 e1 e2 e3 e4 e5 e6 e7 e8 e9 e10 Q := sp_faultX hl hs (fun _ => hQ) (fun n => absurd ok n)
theorem not_okr_nil : ¬ okr [] S0 := fun h => absurd (okr_nil h) not_compl0
theorem SAY_nil : SAY tx [] := fun i hi => absurd hi (Nat.not_lt_zero i)
theorem dx_fault0 {Q : Int32 → Int32 → Int32 → Int32 → Int32 → Int32 → Int32 → Int32 → Int32 → Int32 → Int32 → Int32 → Prop} (hQ : ∀ a0 a1 a2 a3 a4 a5 a6 a7 a8 a9 a10, Q 0 a0 a1 a2 a3 a4 a5 a6 a7 a8 a9 a10) : F_X5_fault 0 tx e0 e1 e2 e3 e4 e5 e6 e7 e8 e9 e10 Q := sp_faultX (w := []) (Nat.zero_le _) SAY_nil (fun ok => absurd ok not_okr_nil) (fun _ => hQ)
theorem zero_ne5 : (0 : Int32) ≠ -5 := by decide
theorem dx_meaning_ok {n : Nat} {Q : Int32 → Int32 → Int32 → Int32 → Int32 → Int32 → Int32 → Int32 → Int32 → Int32 → Int32 → Int32 → Prop} (hl : w.length ≤ 20) (hs : SAY tx w) (hw : wok w) (ok : okr w S0) (hv1 : val (fin w S0) = nI n) (hQ : ∀ a0 a1 a2 a3 a4 a5 a6 a7 a8 a9 a10, Q (nI n) a0 a1 a2 a3 a4 a5 a6 a7 a8 a9 a10) : F_X5_meaning (nI w.length) tx e0 e1 e2 e3 e4 e5 e6 e7 e8 e9 e10 Q := by
  have hlim : lim w := fun d hd => (hw.1 d hd).2
  unfold F_X5_meaning B_X5_meaning_0 B_X5_meaning_22
  refine sp_faultX hl hs (fun _ _ _ _ _ _ _ _ _ _ _ _ => ⟨fun _ => sp_packed hl hs hlim (sp_meant hw.1 hw.2 (fun b0 b1 b2 b3 b4 b5 b6 b7 b8 b9 b10 => ?_)), fun q => absurd rfl q⟩) (fun n => absurd ok n)
  rw [okr_hv ok, hv1]
  exact hQ _ _ _ _ _ _ _ _ _ _ _
theorem dx_meaning0 {Q : Int32 → Int32 → Int32 → Int32 → Int32 → Int32 → Int32 → Int32 → Int32 → Int32 → Int32 → Int32 → Prop} (hQ : ∀ a0 a1 a2 a3 a4 a5 a6 a7 a8 a9 a10, Q (-3) a0 a1 a2 a3 a4 a5 a6 a7 a8 a9 a10) : F_X5_meaning 0 tx e0 e1 e2 e3 e4 e5 e6 e7 e8 e9 e10 Q := by
  unfold F_X5_meaning B_X5_meaning_0 B_X5_meaning_22
  exact dx_fault0 (fun _ _ _ _ _ _ _ _ _ _ _ => ⟨fun q => absurd q zero_ne5, fun _ => hQ _ _ _ _ _ _ _ _ _ _ _⟩)
theorem dx_understoodText {h a : Nat} {Q : Int32 → Int32 → Int32 → Int32 → Int32 → Int32 → Int32 → Int32 → Int32 → Int32 → Int32 → Int32 → Prop} (hh : h < 6) (hl : w.length ≤ 20) (hs : SAY tx w) (hw : wok w) (ok : okr w S0) (ha : hr h 6 = nI a) (a2 : a ≤ 12)
    (hQ : ∀ a0 a1 a2 a3 a4 a5 a6 a7 a8 a9 a10, Q (if hrd (hr h) w = 0 then -5 else hrd (hr h) w) a0 a1 a2 a3 a4 a5 a6 a7 a8 a9 a10) : F_X5_understoodText (nI h) (nI w.length) tx hr e0 e1 e2 e3 e4 e5 e6 e7 e8 e9 e10 Q := by
  have hlim : lim w := fun d hd => (hw.1 d hd).2
  refine hX_yes (by omega) (br1 (sp_faultX hl hs (fun _ _ _ _ _ _ _ _ _ _ _ _ => ⟨fun _ => sp_packed hl hs hlim (sp_heard hw.1 hw.2 hh ha (by omega) (fun b0 b1 b2 b3 b4 b5 b6 b7 b8 b9 b10 => sp_orNone (fun q2 => ?_) (fun q2 => ?_))), fun q => absurd rfl q⟩) (fun n => absurd ok n)))
  · have h9 := hQ b0 b1 b2 b3 b4 b5 b6 b7 b8 b9 b10
    rw [if_pos q2] at h9
    exact h9
  · have h9 := hQ b0 b1 b2 b3 b4 b5 b6 b7 b8 b9 b10
    rw [if_neg q2] at h9
    exact h9
theorem dx_understoodText0 {h : Nat} {Q : Int32 → Int32 → Int32 → Int32 → Int32 → Int32 → Int32 → Int32 → Int32 → Int32 → Int32 → Int32 → Prop} (hh : h < 6) (hQ : ∀ a0 a1 a2 a3 a4 a5 a6 a7 a8 a9 a10, Q (-3) a0 a1 a2 a3 a4 a5 a6 a7 a8 a9 a10) : F_X5_understoodText (nI h) 0 tx hr e0 e1 e2 e3 e4 e5 e6 e7 e8 e9 e10 Q :=
  hX_yes (by omega) (br1 (dx_fault0 (fun _ _ _ _ _ _ _ _ _ _ _ => ⟨fun q => absurd q zero_ne5, fun _ => hQ _ _ _ _ _ _ _ _ _ _ _⟩)))
theorem dx_placeOfText {n p : Nat} {Q : Int32 → Int32 → (Nat → Int64) → Int32 → Int32 → Int32 → Int32 → Int32 → Int32 → Int32 → Int32 → Int32 → Int32 → Int32 → Prop} (h1 : 1 ≤ n) (hn : n < 8000) (hp : p < (Ws n).length) (ep2 : (Ws n).getD p [] = w) (hs : SAY tx w) (ok : okr w S0) (hval : val (fin w S0) = nI n)
    (hQ : ∀ mn sd a0 a1 a2 a3 a4 a5 a6 a7 a8 a9 a10, Q (nI p) mn sd a0 a1 a2 a3 a4 a5 a6 a7 a8 a9 a10) : F_X5_placeOfText (nI w.length) tx mn sd e0 e1 e2 e3 e4 e5 e6 e7 e8 e9 e10 Q := by
  obtain ⟨r1, r2, r3, r4⟩ := raw_facts h1 hn
  obtain ⟨f1, f2, f3⟩ := Ws_facts h1 hn
  have hwk : wok w := by rw [← ep2]; exact f1 _ (getD_mem hp)
  have hlim : lim w := fun d hd => (hwk.1 d hd).2
  have hw9 := hwk.2
  have hv1 : hv 1 1 1 (w.map nI) S0 = nI n := (okr_hv ok).trans hval
  have huniq : ∀ i, i < (Ws n).length → (Ws n).getD i [] = w → i = p := fun i hi e => by
    have g1 := Ws_rk r2 hi
    have g2 := Ws_rk r2 hp
    rw [e] at g1
    rw [ep2] at g2
    omega
  unfold F_X5_placeOfText B_X5_placeOfText_0
  refine sp_faultX (by omega) hs (fun _ _ _ _ _ _ _ _ _ _ _ _ => ⟨fun _ => ?_, fun q => absurd rfl q⟩) (fun n => absurd ok n)
  refine sp_packed (by omega) hs hlim (sp_meant hwk.1 hwk.2 (fun _ _ _ _ _ _ _ _ _ _ _ => ?_))
  rw [hv1]
  refine sp_find h1 hn (fun sd' hS4 => ?_)
  have hX : ∀ Q : Int32 → Prop, Q (nI p) → F_X4_placeOf (pkL w) (nI (Ws n).length) sd' Q := fun Q hq => by
    have key : ∀ m k, k + m = (Ws n).length → k ≤ p → L_X4_placeOf_2 Q (nI (Ws n).length) sd' (m + 1) (pkL w) (nI k) := by
      intro m
      induction m with
      | zero => intro k hk hkp; omega
      | succ m ih =>
        intro k hk hkp
        have hk2 : k < (Ws n).length := by omega
        refine ⟨fun q => absurd q (nI_ge hk2 (by omega)), fun _ => ⟨fun q => absurd q (nI_ge (b := 16) (by omega) (by omega)), fun _ => ⟨vp_in_nI (by omega) (by decide), ?_⟩⟩⟩
        rw [nI_clamp (show k < 2147483648 by omega), hS4 k hk2, lg_cmp_eq]
        refine ⟨fun q => ?_, fun q => ?_⟩
        · have e : pkN ((Ws n).getD k []) = pkN w := lN_inj (pkN_lim (f1 _ (getD_mem hk2))) (pkN_lim hwk) q
          have e2 := pkN_inj (f1 _ (getD_mem hk2)).1 hwk.1 e
          rw [huniq k hk2 e2]; exact hq
        · rw [nI_1]
          refine ih (k + 1) (by omega) ?_
          have : k ≠ p := fun e => q (by rw [e, ep2])
          omega
    exact ⟨(Ws n).length + 1, key (Ws n).length 0 (by omega) (by omega)⟩
  exact hX _ (hQ _ _ _ _ _ _ _ _ _ _ _ _ _)
theorem dx_placeOfText0 {Q : Int32 → Int32 → (Nat → Int64) → Int32 → Int32 → Int32 → Int32 → Int32 → Int32 → Int32 → Int32 → Int32 → Int32 → Int32 → Prop} (hQ : ∀ mn sd a0 a1 a2 a3 a4 a5 a6 a7 a8 a9 a10, Q (-3) mn sd a0 a1 a2 a3 a4 a5 a6 a7 a8 a9 a10) : F_X5_placeOfText 0 tx mn sd e0 e1 e2 e3 e4 e5 e6 e7 e8 e9 e10 Q := by
  unfold F_X5_placeOfText B_X5_placeOfText_0
  exact dx_fault0 (fun _ _ _ _ _ _ _ _ _ _ _ => ⟨fun q => absurd q zero_ne5, fun _ => hQ _ _ _ _ _ _ _ _ _ _ _ _ _⟩)
end TX
end DX
