/-! PURE 21: the text's calls -/
section TXTS
variable {w : List Nat}
theorem okr_hv (h : okr w S0) : hv 1 1 1 (w.map nI) S0 = val (fin w S0) := by
  unfold hv
  exact if_pos h
theorem fault_okr {f gg gb gu gh gk gl : Int32} (hl : w.length ≤ 20) (hF : FaultR (w.map nI) f gg gb gu gh gk gl) : (okr w S0 → f = -1) ∧ (¬ okr w S0 → f = nI (w.length - (erun 1 1 (w.map nI) S0).1)) := by
  rcases hF with ⟨h1, h2⟩ | ⟨k, h1, h2, h3⟩
  · refine ⟨fun _ => h1, fun q => absurd ?_ q⟩
    obtain ⟨S', g1, g2, g3⟩ := h2 1 1
    unfold okr
    rw [g1]; exact ⟨rfl, g2⟩
  · obtain ⟨S', g1, g2⟩ := h3 1 1
    rw [List.length_map] at h2
    refine ⟨fun q => ?_, fun _ => by rw [g1]; exact h2⟩
    exfalso
    unfold okr at q
    rw [g1] at q
    exact g2 q.1 q.2
theorem sp_faultX {tx : Nat → Int32} {e0 e1 e2 e3 e4 e5 e6 e7 e8 e9 e10 : Int32} {Q : Int32 → Int32 → Int32 → Int32 → Int32 → Int32 → Int32 → Int32 → Int32 → Int32 → Int32 → Int32 → Prop} (hl : w.length ≤ 20) (hs : SAY tx w)
    (h1 : okr w S0 → ∀ a0 a1 a2 a3 a4 a5 a6 a7 a8 a9 a10, Q (-5) a0 a1 a2 a3 a4 a5 a6 a7 a8 a9 a10) (h0 : ¬ okr w S0 → ∀ a0 a1 a2 a3 a4 a5 a6 a7 a8 a9 a10, Q (nI (w.length - (erun 1 1 (w.map nI) S0).1)) a0 a1 a2 a3 a4 a5 a6 a7 a8 a9 a10) : F_X5_fault (nI w.length) tx e0 e1 e2 e3 e4 e5 e6 e7 e8 e9 e10 Q := by
  have h50 : ∀ S : ES, erun 1 1 [] S = erun 1 1 (w.map nI) S0 → B_X5_fault_50 Q (nI w.length) tx 1 1 1 S.1 S.2.1 S.2.2.1 S.2.2.2.1 S.2.2.2.2.1 S.2.2.2.2.2.1 S.2.2.2.2.2.2.1 S.2.2.2.2.2.2.2 := fun S hS => by
    unfold B_X5_fault_50 B_X5_fault_69
    have hS : ((0, S) : Nat × ES) = erun 1 1 (w.map nI) S0 := hS
    refine sp_isComplete (fun q => br1 ?_) (fun q => br0 ?_)
    · refine h1 ?_ _ _ _ _ _ _ _ _ _ _ _
      unfold okr
      rw [← hS]; exact ⟨rfl, q⟩
    · have h9 := h0 (by
        unfold okr
        rw [← hS]
        exact fun n => q n.2)
      rw [← hS] at h9
      exact h9 _ _ _ _ _ _ _ _ _ _ _
  have key : ∀ m i, i + m = w.length → ∀ S : ES, erun 1 1 ((w.map nI).drop i) S = erun 1 1 (w.map nI) S0 →
      L_X5_fault_12 Q (nI w.length) tx (m + 1) (nI i) 1 1 1 S.1 S.2.1 S.2.2.1 S.2.2.2.1 S.2.2.2.2.1 S.2.2.2.2.2.1 S.2.2.2.2.2.2.1 S.2.2.2.2.2.2.2 := by
    intro m
    induction m with
    | zero =>
      intro i hi S hS
      rw [List.drop_eq_nil_of_le (by rw [List.length_map]; omega)] at hS
      exact ⟨fun _ => h50 S hS, fun q => absurd (nI_le (by omega) (by omega)) q⟩
    | succ m ih =>
      intro i hi S hS
      have hi2 : i < w.length := by omega
      have hd : (w.map nI).drop i = nI (w.getD i 0) :: (w.map nI).drop (i + 1) := by
        rw [List.drop_eq_getElem_cons (by rw [List.length_map]; exact hi2), List.getElem_map, List.getD_eq_getElem?_getD, List.getElem?_eq_getElem hi2]
        rfl
      rw [hd] at hS
      refine ⟨fun q => absurd q (nI_ge hi2 (by omega)), fun _ => ⟨fun q => absurd q (nI_ge (b := 20) (by omega) (by omega)), fun _ => ⟨vp_in_nI (by omega) (by decide), ?_⟩⟩⟩
      rw [nI_clamp (show i < 2147483648 by omega), hs i hi2]
      refine sp_take (fun q => br0 ?_) (fun q a1 a2 a3 a4 a5 a6 a7 a8 hst => br1 ?_)
      · rw [erun_no q] at hS
        have ek : (erun 1 1 (w.map nI) S0).1 = w.length - i := by
          rw [← hS, List.length_cons, List.length_drop, List.length_map]; omega
        have h9 := h0 (fun n => by
          have := n.1
          rw [ek] at this
          omega)
        rw [ek, show w.length - (w.length - i) = i by omega] at h9
        exact h9 _ _ _ _ _ _ _ _ _ _ _
      · have hg := erun_go (e0 := 1) (e2 := 1) (hv := S.2.2.1) (ls := S.2.2.2.1) (ct := S.2.2.2.2.1) (gr := S.2.2.2.2.2.1) (ba := S.2.2.2.2.2.2.1) (un := S.2.2.2.2.2.2.2) (r := (w.map nI).drop (i + 1)) q
        rw [hst] at hg
        have h1 := ih (i + 1) (by omega) (a1, a2, a3, a4, a5, a6, a7, a8) (hg.symm.trans hS)
        rw [nI_1]
        exact h1
  unfold F_X5_fault B_X5_fault_0
  exact sp_listen isBo1 isBo1 isBo1 ⟨w.length + 1, key w.length 0 (by omega) S0 (by rw [List.drop_zero])⟩
theorem sp_packed {tx : Nat → Int32} {Q : Int64 → Prop} (hl : w.length ≤ 20) (hs : SAY tx w) (hw : lim w) (hQ : Q (pkL w)) : F_X5_packedText (nI w.length) tx Q := by
  have key : ∀ m i, i + m = w.length → L_X5_packedText_4 Q (nI w.length) tx (m + 1) (pkL (w.take i)) (nI i) := by
    intro m
    induction m with
    | zero =>
      intro i hi
      have hi : i = w.length := by omega
      subst hi
      rw [List.take_length]
      exact ⟨fun _ => hQ, fun q => absurd (nI_le (Nat.le_refl _) (by omega)) q⟩
    | succ m ih =>
      intro i hi
      have hi2 : i < w.length := by omega
      have h5 := ih (i + 1) (by omega)
      rw [getD_append w 0 i hi2] at h5
      have hd : w.getD i 0 < 128 := by
        rw [List.getD_eq_getElem?_getD, List.getElem?_eq_getElem hi2]
        exact hw _ (List.getElem_mem _)
      refine ⟨fun q => absurd q (nI_ge hi2 (by omega)), fun _ => ⟨fun q => absurd q (nI_ge (b := 20) (by omega) (by omega)), fun _ => ⟨vp_in_nI (by omega) (by decide), ?_⟩⟩⟩
      rw [nI_clamp (show i < 2147483648 by omega), hs i hi2]
      refine sp_then ?_ hd
      rw [nI_1]; exact h5
  exact ⟨w.length + 1, key w.length 0 (by omega)⟩
theorem sp_textFault {mt my : Nat → Int32} {gs ga gg gb gu gh gk gl : Int32} {Q : Int32 → (Nat → Int32) → Int32 → Int32 → Int32 → Int32 → Int32 → Int32 → Int32 → Int32 → Prop} (hl : w.length ≤ 20) (hs : SAY mt w) (hw : lim w)
    (hQ : ∀ f my' gs ga gg gb gu gh gk gl, SAY my' w → FaultR (w.map nI) f gg gb gu gh gk gl → Q f my' gs ga gg gb gu gh gk gl) : F_X6_textFault mt (nI w.length) my gs ga gg gb gu gh gk gl Q := by
  have key : ∀ m i (my' : Nat → Int32), i + m = w.length → (∀ k, k < i → my' k = nI (w.getD k 0)) → L_X6_textFault_2 Q mt (nI w.length) (m + 1) (nI i) my' gs ga gg gb gu gh gk gl := by
    intro m
    induction m with
    | zero =>
      intro i my' hi hk
      have hi : i = w.length := by omega
      subst hi
      refine ⟨fun _ => sp_faultOf hl (fun f gs ga gg gb gu gh gk gl hF => ?_), fun q => absurd (nI_le (Nat.le_refl _) (by omega)) q⟩
      rw [SAY_seg (w := w) hk] at hF
      exact hQ _ _ _ _ _ _ _ _ _ _ hk hF
    | succ m ih =>
      intro i my' hi hk
      have hi2 : i < w.length := by omega
      have hd : w.getD i 0 < 128 := by
        rw [List.getD_eq_getElem?_getD, List.getElem?_eq_getElem hi2]
        exact hw _ (List.getElem_mem _)
      have ii : vp_in (nI i) 20 := vp_in_nI (by omega) (by decide)
      refine ⟨fun q => absurd q (nI_ge hi2 (by omega)), fun _ => ⟨ii, ii, ?_⟩⟩
      rw [nI_clamp (show i < 2147483648 by omega), hs i hi2, nar_char (by omega), nI_1]
      refine ih (i + 1) _ (by omega) (fun k hk2 => ?_)
      by_cases e : k = i
      · subst e; exact pk_us
      · rw [pk_un e]; exact hk k (by omega)
  exact ⟨w.length + 1, key w.length 0 my (by omega) (fun k hk => absurd hk (Nat.not_lt_zero k))⟩
theorem lim_of (h : ∀ d ∈ w, 32 ≤ d ∧ d ≤ 126) : lim w := fun d hd => by have := h d hd; omega
end TXTS
theorem lt0_m1 : (-1 : Int32) < 0 := by decide
section CALLS
variable {T : Nat} {tl fr hd gn gt : Int32} {tx nw kp pt ms mb mt : Nat → Int32} {hr lr : Nat → Nat → Int32} {v v1 v2 v3 : Int32}
variable {mn e0 e1 e2 e3 e4 e5 e6 e7 e8 e9 e10 gm gs ga gg gb gu gh gk gl : Int32} {sd : Nat → Int64} {my mw ml mo : Nat → Int32}
theorem eq_fault (hR : RR T tl tx fr hd nw kp pt hr lr ms mb mt gn gt) : F_X5_fault tl tx e0 e1 e2 e3 e4 e5 e6 e7 e8 e9 e10 (fun r _ _ _ _ _ _ _ _ _ _ _ => F_X6_fault mt gn my gs ga gg gb gu gh gk gl (fun q _ _ _ _ _ _ _ _ _ => q = r ∧ RR (T + 1) tl tx fr hd nw kp pt hr lr ms mb mt gn gt)) := by
  have hR0 := RR_1 hR
  obtain ⟨w, F, H, ⟨w1, w2, rfl, rfl, w5, w6⟩, x1, x2, x3, hH, hS⟩ := hR
  have hlim := lim_of w2
  refine sp_faultX w1 w5 (fun ok _ _ _ _ _ _ _ _ _ _ _ => ?_) (fun nok _ _ _ _ _ _ _ _ _ _ _ => ?_)
  · refine sp_textFault w1 w6 hlim (fun f my' gs ga gg gb gu gh gk gl hs hF => ?_)
    rw [(fault_okr w1 hF).1 ok]
    exact ⟨fun q => absurd q (by decide), fun _ => ⟨rfl, hR0⟩⟩
  · refine sp_textFault w1 w6 hlim (fun f my' gs ga gg gb gu gh gk gl hs hF => ?_)
    rw [(fault_okr w1 hF).2 nok]
    exact ⟨fun _ => ⟨rfl, hR0⟩, fun q => absurd (nI_pos' (by omega)) q⟩
theorem eq_meaning (hR : RR T tl tx fr hd nw kp pt hr lr ms mb mt gn gt) : F_X5_meaning tl tx e0 e1 e2 e3 e4 e5 e6 e7 e8 e9 e10 (fun r _ _ _ _ _ _ _ _ _ _ _ => F_X6_meaning mt gn my gs ga gg gb gu gh gk gl (fun q _ _ _ _ _ _ _ _ _ => q = r ∧ RR (T + 1) tl tx fr hd nw kp pt hr lr ms mb mt gn gt)) := by
  have hR0 := RR_1 hR
  obtain ⟨w, F, H, ⟨w1, w2, rfl, rfl, w5, w6⟩, x1, x2, x3, hH, hS⟩ := hR
  have hlim := lim_of w2
  unfold F_X5_meaning B_X5_meaning_0 B_X5_meaning_22
  refine sp_faultX w1 w5 (fun ok _ _ _ _ _ _ _ _ _ _ _ => ⟨fun _ => ?_, fun q => absurd rfl q⟩) (fun nok _ _ _ _ _ _ _ _ _ _ _ => ⟨fun q => ?_, fun _ => ?_⟩)
  · obtain ⟨n, h1, hn, hm, hval⟩ := text_way hlim ok
    have hwk := (raw_facts h1 hn).1 _ hm
    refine sp_packed w1 w5 hlim (sp_meant hwk.1 hwk.2 (fun _ _ _ _ _ _ _ _ _ _ _ => ?_))
    refine sp_textFault w1 w6 hlim (fun f my' gs ga gg gb gu gh gk gl hs hF => ?_)
    have hv9 := (hv_fault hF (by rw [List.length_map]; exact w1) 1 1 1).1
    rw [(fault_okr w1 hF).1 ok] at hv9 ⊢
    refine ⟨fun q => absurd q (by decide), fun _ => sp_meaningBy ⟨(hv9 lt0_m1).symm, hR0⟩⟩
  · exfalso
    rw [show (-5 : Int32) = zI (-5) from rfl, ← zI_nat, zI_eq (by omega) (by omega) (by omega) (by omega)] at q
    omega
  · refine sp_textFault w1 w6 hlim (fun f my' gs ga gg gb gu gh gk gl hs hF => ?_)
    rw [(fault_okr w1 hF).2 nok]
    exact ⟨fun _ => ⟨rfl, hR0⟩, fun q => absurd (nI_pos' (by omega)) q⟩
theorem eq_understoodText (hR : RR T tl tx fr hd nw kp pt hr lr ms mb mt gn gt) : F_X5_understoodText v1 tl tx hr e0 e1 e2 e3 e4 e5 e6 e7 e8 e9 e10 (fun r _ _ _ _ _ _ _ _ _ _ _ => F_X6_understoodText v1 ms mt gn my gs ga gg gb gu gh gk gl (fun q _ _ _ _ _ _ _ _ _ => q = r ∧ RR (T + 1) tl tx fr hd nw kp pt hr lr ms mb mt gn gt)) := by
  have hR0 := RR_1 hR
  rcases rng v1 5 (by omega) with n1 | ⟨h, hh, rfl⟩
  · exact hX_no n1 (br0 (hM_no n1 (br0 ⟨rfl, hR0⟩)))
  obtain ⟨w, F, H, ⟨w1, w2, rfl, rfl, w5, w6⟩, x1, x2, x3, hH, hS⟩ := hR
  have hlim := lim_of w2
  obtain ⟨a, a1, a2, a3⟩ := SR_att hS (show h < 6 by omega)
  have hrow := RR_row hS (show h < 6 by omega)
  refine hX_yes hh (br1 (sp_faultX w1 w5 (fun ok _ _ _ _ _ _ _ _ _ _ _ => ⟨fun _ => ?_, fun q => absurd rfl q⟩) (fun nok _ _ _ _ _ _ _ _ _ _ _ => ⟨fun q => ?_, fun _ => ?_⟩)))
  · obtain ⟨n, h1, hn, hm, hval⟩ := text_way hlim ok
    have hwk := (raw_facts h1 hn).1 _ hm
    have hgo : ∀ r : Int32, r = (if hrd (hr h) w = 0 then -5 else hrd (hr h) w) → F_X6_understoodText (nI h) ms mt (nI w.length) my gs ga gg gb gu gh gk gl (fun q _ _ _ _ _ _ _ _ _ => q = r ∧ RR (T + 1) (nI w.length) tx fr hd nw kp pt hr lr ms mb mt (nI w.length) gt) := fun r hr9 => by
      refine hM_yes hh (br1 (sp_textFault w1 w6 hlim (fun f my' gs ga gg gb gu gh gk gl hs hF => ?_)))
      rw [(fault_okr w1 hF).1 ok]
      refine ⟨fun _ => sp_understands w1 rfl (SAY_seg hs) (by omega) a3 (by omega) (fun _ _ _ _ _ _ _ _ => ⟨fun q2 => ?_, fun q2 => ?_⟩), fun q => absurd lt0_m1 q⟩
      · rw [hrd_congr hrow, if_pos q2] at hr9
        exact ⟨hr9.symm, hR0⟩
      · rw [hrd_congr hrow, if_neg q2] at hr9
        exact ⟨hr9.symm, hR0⟩
    refine sp_packed w1 w5 hlim (sp_heard hwk.1 hwk.2 (by omega) (by rw [hrow 6 (by omega)]; exact a3) (by omega) (fun _ _ _ _ _ _ _ _ _ _ _ => sp_orNone (fun q2 => hgo _ ?_) (fun q2 => hgo _ ?_)))
    · rw [if_pos q2]
    · rw [if_neg q2]
  · exfalso
    rw [show (-5 : Int32) = zI (-5) from rfl, ← zI_nat, zI_eq (by omega) (by omega) (by omega) (by omega)] at q
    omega
  · refine hM_yes hh (br1 (sp_textFault w1 w6 hlim (fun f my' gs ga gg gb gu gh gk gl hs hF => ?_)))
    rw [(fault_okr w1 hF).2 nok]
    exact ⟨fun q => absurd q (nI_pos (by omega)), fun _ => ⟨rfl, hR0⟩⟩
theorem eq_tellText (hR : RR T tl tx fr hd nw kp pt hr lr ms mb mt gn gt) : F_X5_tellText v1 tl tx e0 e1 e2 e3 e4 e5 e6 e7 e8 e9 e10 fr hd nw kp pt hr lr (fun r _ _ _ _ _ _ _ _ _ _ _ fr' hd' nw' kp' pt' hr' lr' => F_X6_tellText v1 mt gn ms mb my gs ga gg gb gu gh gk gl gt (fun q ms' mb' _ _ _ _ _ _ _ _ _ gt' => q = r ∧ RR (T + 1) tl tx fr' hd' nw' kp' pt' hr' lr' ms' mb' mt gn gt')) := by
  have hR0 := RR_1 hR
  rcases rng v1 5 (by omega) with n1 | ⟨h, hh, rfl⟩
  · exact hX_no n1 (br0 (hM_no n1 (br0 ⟨rfl, hR0⟩)))
  obtain ⟨w, F, H, hT, rfl, rfl, rfl, hH, hS⟩ := hR
  obtain ⟨w1, w2, rfl, rfl, w5, w6⟩ := id hT
  have hlim := lim_of w2
  refine hX_yes hh (br1 (sp_faultX w1 w5 (fun ok _ _ _ _ _ _ _ _ _ _ _ => ⟨fun _ => ?_, fun q => absurd rfl q⟩) (fun nok _ _ _ _ _ _ _ _ _ _ _ => ⟨fun q => ?_, fun _ => ?_⟩)))
  · obtain ⟨n, h1, hn, hm, hval⟩ := text_way hlim ok
    have hwk := (raw_facts h1 hn).1 _ hm
    have hv1 : hv 1 1 1 (w.map nI) S0 = nI n := (okr_hv ok).trans hval
    refine sp_packed w1 w5 hlim (sp_meant hwk.1 hwk.2 (fun _ _ _ _ _ _ _ _ _ _ _ => ?_))
    rw [hv1]
    refine eq_say hwk (show h < 6 by omega) hT hH hS (fun r _ _ _ _ _ _ _ _ _ _ _ fr' hd' nw' kp' pt' hr' lr' hgo => ?_)
    refine hM_yes hh (br1 (sp_textFault w1 w6 hlim (fun f my' gs ga gg gb gu gh gk gl hs hF => ?_)))
    have hv9 := (hv_fault hF (by rw [List.length_map]; exact w1) 1 1 1).1
    rw [(fault_okr w1 hF).1 ok] at hv9 ⊢
    refine ⟨fun _ => sp_meaningBy ?_, fun q => absurd lt0_m1 q⟩
    rw [← hv9 lt0_m1, hv1]
    exact hgo _ _ _ _ _ _ _ _ _ _ hs (fun ms' mb' _ _ _ _ _ _ _ _ gt' hRR => ⟨rfl, hRR⟩)
  · exfalso
    rw [show (-5 : Int32) = zI (-5) from rfl, ← zI_nat, zI_eq (by omega) (by omega) (by omega) (by omega)] at q
    omega
  · refine hM_yes hh (br1 (sp_textFault w1 w6 hlim (fun f my' gs ga gg gb gu gh gk gl hs hF => ?_)))
    rw [(fault_okr w1 hF).2 nok]
    exact ⟨fun q => absurd q (nI_pos (by omega)), fun _ => ⟨rfl, hR0⟩⟩
theorem sp_isText {j : Nat} {w tw : List Nat} {Q : Int32 → Prop} (hj : j < 16) (hA : WA mw ml j w) (hw : wok w) (hs : SAY mt tw) (hl : tw.length ≤ 20) (htl : lim tw) (hQ : Q (if w = tw then 1 else 0)) : F_X6_isText (nI j) mt mw ml (nI tw.length) Q := by
  obtain ⟨a1, a2⟩ := hA
  have hw9 := hw.2
  have ej : (nI j).toNatClampNeg = j := nI_clamp (by omega)
  unfold F_X6_isText B_X6_isText_0 B_X6_isText_18
  rw [ej, a1]
  refine ⟨vp_in_nI hj (by decide), fun q => ?_, fun q => ?_⟩
  · have hlen : w.length = tw.length := (nI_eq (by omega) (by omega)).mp q
    have hend0 : w ≠ tw → ∀ n i, L_X6_isText_21 Q mt mw ml (nI tw.length) (n + 1) (nI j) 0 i := fun hne n i => by
      rw [if_neg hne] at hQ
      exact ⟨fun _ => ⟨isBo0, hQ⟩, fun _ => ⟨fun _ => ⟨isBo0, hQ⟩, fun q => absurd rfl q⟩⟩
    have key : ∀ m i, i + m = tw.length → (∀ k, k < i → w.getD k 0 = tw.getD k 0) → L_X6_isText_21 Q mt mw ml (nI tw.length) (m + 2) (nI j) 1 (nI i) := by
      intro m
      induction m with
      | zero =>
        intro i hi hk
        have e : w = tw := list_eqD w tw hlen (fun k hk2 => hk k (by omega))
        rw [if_pos e] at hQ
        exact ⟨fun _ => ⟨isBo1, hQ⟩, fun q => absurd (nI_le (by omega) (by omega)) q⟩
      | succ m ih =>
        intro i hi hk
        have hi2 : i < tw.length := by omega
        have e10 : (10 : Int32) * nI j + nI i = nI (10 * j + i) := by rw [show (10 : Int32) = nI 10 from rfl, pk_mul, nI_add]
        have b1 : w.getD i 0 < 128 := by
          rw [List.getD_eq_getElem?_getD, List.getElem?_eq_getElem (by omega)]
          exact (hw.1 _ (List.getElem_mem _)).2
        have b2 : tw.getD i 0 < 128 := by
          rw [List.getD_eq_getElem?_getD, List.getElem?_eq_getElem hi2]
          exact htl _ (List.getElem_mem _)
        refine ⟨fun q => absurd q (nI_ge hi2 (by omega)), fun _ => ⟨fun q => absurd q (by decide), fun _ => ?_⟩⟩
        rw [e10, nI_clamp (show 10 * j + i < 2147483648 by omega), nI_clamp (show i < 2147483648 by omega), a2 i (by omega), hs i hi2]
        refine ⟨vp_in_nI (by omega) (by decide), vp_in_nI (by omega) (by decide), fun q2 => ?_, fun q2 => ?_⟩
        · unfold B_X6_isText_58
          rw [nI_1]
          refine ih (i + 1) (by omega) (fun k hk2 => ?_)
          by_cases e : k = i
          · rw [e]; exact code_eq b1 b2 q2
          · exact hk k (by omega)
        · unfold B_X6_isText_58
          show L_X6_isText_21 Q mt mw ml (nI tw.length) (m + 1 + 1) (nI j) 0 (nI i + 1)
          exact hend0 (fun e => q2 (by rw [e])) (m + 1) _
    exact ⟨tw.length + 2, key tw.length 0 (by omega) (fun k hk => absurd hk (Nat.not_lt_zero k))⟩
  · have hne : w ≠ tw := fun e => q (by rw [e])
    rw [if_neg hne] at hQ
    exact ⟨1, ⟨fun _ => ⟨isBo0, hQ⟩, fun _ => ⟨fun _ => ⟨isBo0, hQ⟩, fun q => absurd rfl q⟩⟩⟩
theorem eq_placeOfText (hR : RR T tl tx fr hd nw kp pt hr lr ms mb mt gn gt) : F_X5_placeOfText tl tx mn sd e0 e1 e2 e3 e4 e5 e6 e7 e8 e9 e10 (fun r _ _ _ _ _ _ _ _ _ _ _ _ _ => F_X6_placeOfText mt gn my mw ml mo gm gs ga gg gb gu gh gk gl (fun q _ _ _ _ _ _ _ _ _ _ _ _ _ => q = r ∧ RR (T + 1) tl tx fr hd nw kp pt hr lr ms mb mt gn gt)) := by
  have hR0 := RR_1 hR
  obtain ⟨w, F, H, ⟨w1, w2, rfl, rfl, w5, w6⟩, x1, x2, x3, hH, hS⟩ := hR
  have hlim := lim_of w2
  unfold F_X5_placeOfText B_X5_placeOfText_0
  refine sp_faultX w1 w5 (fun ok _ _ _ _ _ _ _ _ _ _ _ => ⟨fun _ => ?_, fun q => absurd rfl q⟩) (fun nok _ _ _ _ _ _ _ _ _ _ _ => ⟨fun q => ?_, fun _ => ?_⟩)
  · obtain ⟨n, h1, hn, hm, hval⟩ := text_way hlim ok
    obtain ⟨r1, r2, r3, r4⟩ := raw_facts h1 hn
    have hwk := r1 _ hm
    have hv1 : hv 1 1 1 (w.map nI) S0 = nI n := (okr_hv ok).trans hval
    obtain ⟨f1, f2, f3⟩ := Ws_facts h1 hn
    obtain ⟨p1, p2⟩ := Ws_rank r2
    obtain ⟨p, hp, ep⟩ := List.getElem_of_mem (p2.mem_iff.mpr hm)
    have ep2 : (Ws n).getD p [] = w := by
      rw [List.getD_eq_getElem?_getD, List.getElem?_eq_getElem hp]
      exact ep
    have huniq : ∀ i, i < (Ws n).length → (Ws n).getD i [] = w → i = p := fun i hi e => by
      have g1 := Ws_rk r2 hi
      have g2 := Ws_rk r2 hp
      rw [e] at g1
      rw [ep2] at g2
      omega
    refine sp_packed w1 w5 hlim (sp_meant hwk.1 hwk.2 (fun _ _ _ _ _ _ _ _ _ _ _ => ?_))
    rw [hv1]
    refine sp_find h1 hn (fun sd' hS4 => ?_)
    have hX : ∀ Q : Int32 → Prop, Q (nI p) → F_X4_placeOf (pkL w) (nI (Ws n).length) sd' Q := fun Q hq => by
      have key : ∀ m k, k + m = (Ws n).length → k ≤ p → L_X4_placeOf_2 Q (nI (Ws n).length) sd' (m + 1) (pkL w) (nI k) := by
        intro m
        induction m with
        | zero => intro k hk hkp; omega
        | succ m ih =>
          intro k hk hkp
          have hk2 : k < (Ws n).length := by omega
          refine ⟨fun q => absurd q (nI_ge hk2 (by omega)), fun _ => ⟨fun q => absurd q (nI_ge (b := 16) (by omega) (by omega)), fun _ => ⟨vp_in_nI (by omega) (by decide), ?_⟩⟩⟩
          rw [nI_clamp (show k < 2147483648 by omega), hS4 k hk2, lg_cmp_eq]
          refine ⟨fun q => ?_, fun q => ?_⟩
          · have e : pkN ((Ws n).getD k []) = pkN w := lN_inj (pkN_lim (f1 _ (getD_mem hk2))) (pkN_lim hwk) q
            have e2 := pkN_inj (f1 _ (getD_mem hk2)).1 hwk.1 e
            rw [huniq k hk2 e2]; exact hq
          · rw [nI_1]
            refine ih (k + 1) (by omega) ?_
            have : k ≠ p := fun e => q (by rw [e, ep2])
            omega
      exact ⟨(Ws n).length + 1, key (Ws n).length 0 (by omega) (by omega)⟩
    refine hX _ ?_
    refine sp_textFault w1 w6 hlim (fun f my' gs ga gg gb gu gh gk gl hs hF => ?_)
    have hv9 := (hv_fault hF (by rw [List.length_map]; exact w1) 1 1 1).1
    rw [(fault_okr w1 hF).1 ok] at hv9 ⊢
    refine ⟨fun _ => sp_meaningBy ?_, fun q => absurd lt0_m1 q⟩
    rw [← hv9 lt0_m1, hv1]
    refine sp_makes h1 hn (fun mw' ml' mo' hM => ?_)
    have key : ∀ m k, k + m = (Ws n).length → L_X6_placeOfText_26 (fun q _ _ _ _ _ _ _ _ _ _ _ _ _ => q = nI p ∧ RR (T + 1) (nI w.length) tx fr hd nw kp pt hr lr ms mb mt (nI w.length) gt) mt (nI w.length) (m + 1) (if p < k then nI p else -5) (nI k) my' mw' ml' mo' (nI (Ws n).length) gs ga gg gb gu gh gk gl := by
      intro m
      induction m with
      | zero =>
        intro k hk
        refine ⟨fun _ => ⟨?_, hR0⟩, fun q => absurd (nI_le (by omega) (by omega)) q⟩
        rw [if_pos (by omega)]
      | succ m ih =>
        intro k hk
        have hk2 : k < (Ws n).length := by omega
        have h5 := ih (k + 1) (by omega)
        obtain ⟨j, hj, ej, a1⟩ := hM k hk2
        refine ⟨fun q => absurd q (nI_ge hk2 (by omega)), fun _ => ⟨vp_in_nI (by omega) (by decide), ?_⟩⟩
        rw [nI_clamp (show k < 2147483648 by omega), ej]
        refine sp_isText hj a1 (f1 _ (getD_mem hk2)) w6 w1 hlim ?_
        by_cases e : (Ws n).getD k [] = w
        · have ek := huniq k hk2 e
          rw [if_pos e]
          refine br1 ?_
          unfold B_X6_placeOfText_52
          rw [nI_1]
          rw [if_pos (by omega)] at h5
          rw [ek] at h5 ⊢
          exact h5
        · have hkp : k ≠ p := fun e2 => e (by rw [e2]; exact ep2)
          rw [if_neg e]
          refine br0 ?_
          unfold B_X6_placeOfText_52
          rw [nI_1]
          by_cases q : p < k
          · rw [if_pos q]
            rw [if_pos (by omega)] at h5
            exact h5
          · rw [if_neg q]
            rw [if_neg (by omega)] at h5
            exact h5
    have h0 := key (Ws n).length 0 (by omega)
    rw [if_neg (Nat.not_lt_zero p)] at h0
    exact ⟨(Ws n).length + 1, h0⟩
  · exfalso
    rw [show (-5 : Int32) = zI (-5) from rfl, ← zI_nat, zI_eq (by omega) (by omega) (by omega) (by omega)] at q
    omega
  · refine sp_textFault w1 w6 hlim (fun f my' gs ga gg gb gu gh gk gl hs hF => ?_)
    rw [(fault_okr w1 hF).2 nok]
    exact ⟨fun q => absurd q (nI_pos (by omega)), fun _ => ⟨rfl, hR0⟩⟩
end CALLS
