/-! THE LAW'S LOOP, AND ITS WAY FROM THE ENTRY -/
theorem and31 (y : Int32) : ∃ t : Nat, t < 32 ∧ (y &&& 31) = nI t := by
  refine ⟨y.toBitVec.toNat % 32, by omega, ?_⟩
  apply Int32.toBitVec_inj.mp
  show y.toBitVec &&& BitVec.ofNat 32 (2 ^ 5 - 1) = BitVec.ofNat 32 (y.toBitVec.toNat % 32)
  apply BitVec.eq_of_toNat_eq
  rw [BitVec.toNat_and, BitVec.toNat_ofNat, BitVec.toNat_ofNat]
  rw [show (2 ^ 5 - 1) % 2 ^ 32 = 2 ^ 5 - 1 by decide, Nat.and_two_pow_sub_one_eq_mod]
  omega
theorem loop_in {L k : Nat} (hL : L ≤ 2048) (h : ¬ nI L - 4 < nI (4 * k)) (hk : k ≤ 600) : 4 * k + 4 ≤ L := by
  by_cases a : 4 ≤ L
  · have e : nI L - 4 = nI (L - 4) := by
      have e1 : nI L = nI (L - 4) + nI 4 := by rw [nI_add, show L - 4 + 4 = L by omega]
      rw [e1, show nI 4 = (4 : Int32) by decide]
      exact Int32.add_sub_cancel _ _
    rw [e] at h
    rcases Nat.lt_or_ge (L - 4) (4 * k) with q | q
    · exact absurd (nI_lt q (by omega)) h
    · omega
  · have hp : (0 : Int32) ≤ nI (4 * k) := nI_pos' (by omega)
    have hm : nI L - 4 < 0 := by
      rcases (show L = 0 ∨ L = 1 ∨ L = 2 ∨ L = 3 by omega) with rfl | rfl | rfl | rfl <;> decide
    exact absurd (Int32.lt_of_lt_of_le hm hp) h
theorem INV.up {adX adM : Nat → Nat} {cA : Nat → ClassId} {T : Nat} {w : va_W} (h : INV adX adM cA T w) : INV adX adM cA (T + 1) w := by
  obtain ⟨tl, tx, mn, sd, e0, e1, e2, e3, e4, e5, e6, e7, e8, e9, e10, fr, hd, nw, kp, pt, hr, lr, ms, mb, my, mt, mw, ml, mo, gm, gs, ga, gg, gb, gu, gh, gk, gl, gn, gt, rfl, hR⟩ := h
  exact INV.mk1 (RR_1 hR)
section LOOP
variable {p : Program} {l : Launch} {e : Env} {s : State} {m : MethodId} {below : List Frame} {meth : Method} {c : Code} {Q : State → Prop}
variable {D : va_G} {cA : Nat → ClassId} {adX adM : Nat → Nat} {b L T : Nat} {xs : Nat → Int32} {iv : Int32} {w : va_W}
set_option maxHeartbeats 4000000 in
set_option maxRecDepth 100000 in
theorem law_turn (C : CxX p s m #[.ref b] c D (tysX cA) RL cL_law 8 wsL_law) (hX : va_X b L xs s s.heap) (hbl : b < s.heap.size) (h0 : vp_in iv L) (h1 : vp_in (iv + 1) L) (h2 : vp_in (iv + 2) L) (h3 : vp_in (iv + 3) L) (hT : T ≤ 100000) (hI : INV adX adM cA T w) (K : ∀ w2 : va_W, INV adX adM cA (T + 1) w2 → GoX p l e room_1 s m #[.ref b] below meth c D (fun q : Nat => s.heap.size ≤ q) 8 110 1467 Q 907 [(3, .int iv), (2, .ref (adM 0)), (1, .ref (adX 0)), (0, .ref b)] [] w2) : GoX p l e room_1 s m #[.ref b] below meth c D (fun q : Nat => s.heap.size ≤ q) 8 110 1467 Q 26 [(3, .int iv), (2, .ref (adM 0)), (1, .ref (adX 0)), (0, .ref b)] [] w := by
  refine g_aload_n C 3 dL_law_26 rfl rfl ?_
  refine g_iload_n C 0 dL_law_27 rfl rfl ?_
  refine g_sld C hX hbl (Nat.not_le.mpr hbl) h0 dL_law_28 ?_
  refine g_bipush C (31 : Int32) dL_law_29 (by decide) ?_
  refine g_iand C dL_law_31 ?_
  obtain ⟨t, ht, et⟩ := and31 (xs iv.toNatClampNeg)
  rw [et]
  match t, ht with
  | 0, _ => exact g_tableIn C 124 156 dL_law_32 (by decide) (by decide) rfl (by decide) (L_learn C hX hbl h1 h2 h3 hT hI K)
  | 1, _ => exact g_tableIn C 157 189 dL_law_32 (by decide) (by decide) rfl (by decide) (L_unlearn C hX hbl h1 h2 h3 hT hI K)
  | 2, _ => exact g_tableIn C 190 222 dL_law_32 (by decide) (by decide) rfl (by decide) (L_attend C hX hbl h1 h2 h3 hT hI K)
  | 3, _ => exact g_tableIn C 223 255 dL_law_32 (by decide) (by decide) rfl (by decide) (L_set C hX hbl h1 h2 h3 hT hI K)
  | 4, _ => exact g_tableIn C 246 278 dL_law_32 (by decide) (by decide) rfl (by decide) (L_tell C hX hbl h1 h2 h3 hT hI K)
  | 5, _ => exact g_tableIn C 289 321 dL_law_32 (by decide) (by decide) rfl (by decide) (L_tellText C hX hbl h1 h2 h3 hT hI K)
  | 6, _ => exact g_tableIn C 312 344 dL_law_32 (by decide) (by decide) rfl (by decide) (L_append C hX hbl h1 h2 h3 hT hI K)
  | 7, _ => exact g_tableIn C 335 367 dL_law_32 (by decide) (by decide) rfl (by decide) (L_clearText C hX hbl h1 h2 h3 hT hI K)
  | 8, _ => exact g_tableIn C 348 380 dL_law_32 (by decide) (by decide) rfl (by decide) (L_fault C hX hbl h1 h2 h3 hT hI K)
  | 9, _ => exact g_tableIn C 361 393 dL_law_32 (by decide) (by decide) rfl (by decide) (L_meaning C hX hbl h1 h2 h3 hT hI K)
  | 10, _ => exact g_tableIn C 374 406 dL_law_32 (by decide) (by decide) rfl (by decide) (L_undo C hX hbl h1 h2 h3 hT hI K)
  | 11, _ => exact g_tableIn C 387 419 dL_law_32 (by decide) (by decide) rfl (by decide) (L_ways C hX hbl h1 h2 h3 hT hI K)
  | 12, _ => exact g_tableIn C 410 442 dL_law_32 (by decide) (by decide) rfl (by decide) (L_wayLength C hX hbl h1 h2 h3 hT hI K)
  | 13, _ => exact g_tableIn C 443 475 dL_law_32 (by decide) (by decide) rfl (by decide) (L_wayAt C hX hbl h1 h2 h3 hT hI K)
  | 14, _ => exact g_tableIn C 486 518 dL_law_32 (by decide) (by decide) rfl (by decide) (L_styled C hX hbl h1 h2 h3 hT hI K)
  | 15, _ => exact g_tableIn C 519 551 dL_law_32 (by decide) (by decide) rfl (by decide) (L_placeOfText C hX hbl h1 h2 h3 hT hI K)
  | 16, _ => exact g_tableIn C 532 564 dL_law_32 (by decide) (by decide) rfl (by decide) (L_hearer C hX hbl h1 h2 h3 hT hI K)
  | 17, _ => exact g_tableIn C 565 597 dL_law_32 (by decide) (by decide) rfl (by decide) (L_understood C hX hbl h1 h2 h3 hT hI K)
  | 18, _ => exact g_tableIn C 608 640 dL_law_32 (by decide) (by decide) rfl (by decide) (L_understoodText C hX hbl h1 h2 h3 hT hI K)
  | 19, _ => exact g_tableIn C 631 663 dL_law_32 (by decide) (by decide) rfl (by decide) (L_bestWay C hX hbl h1 h2 h3 hT hI K)
  | 20, _ => exact g_tableIn C 664 696 dL_law_32 (by decide) (by decide) rfl (by decide) (L_commonWay C hX hbl h1 h2 h3 hT hI K)
  | 21, _ => exact g_tableIn C 687 719 dL_law_32 (by decide) (by decide) rfl (by decide) (L_reach C hX hbl h1 h2 h3 hT hI K)
  | 22, _ => exact g_tableIn C 720 752 dL_law_32 (by decide) (by decide) rfl (by decide) (L_untellable C hX hbl h1 h2 h3 hT hI K)
  | 23, _ => exact g_tableIn C 763 795 dL_law_32 (by decide) (by decide) rfl (by decide) (L_log C hX hbl h1 h2 h3 hT hI K)
  | 24, _ => exact g_tableIn C 796 828 dL_law_32 (by decide) (by decide) rfl (by decide) (L_sum C hX hbl h1 h2 h3 hT hI K)
  | 25, _ => exact g_tableIn C 819 851 dL_law_32 (by decide) (by decide) rfl (by decide) (L_patience C hX hbl h1 h2 h3 hT hI K)
  | 26, _ => exact g_tableIn C 832 864 dL_law_32 (by decide) (by decide) rfl (by decide) (L_share C hX hbl h1 h2 h3 hT hI K)
  | 27, _ => exact g_tableOut C 907 dL_law_32 (by decide) (by decide) (K w hI.up)
  | 28, _ => exact g_tableOut C 907 dL_law_32 (by decide) (by decide) (K w hI.up)
  | 29, _ => exact g_tableOut C 907 dL_law_32 (by decide) (by decide) (K w hI.up)
  | 30, _ => exact g_tableOut C 907 dL_law_32 (by decide) (by decide) (K w hI.up)
  | 31, _ => exact g_tableOut C 907 dL_law_32 (by decide) (by decide) (K w hI.up)
  | t + 32, h => exact absurd h (by omega)
theorem law_loop (hL : L ≤ 2048) (C : CxX p s m #[.ref b] c D (tysX cA) RL cL_law 8 wsL_law) (hX : va_X b L xs s s.heap) (hbl : b < s.heap.size) (hE : ∀ (v : Int32) (w : va_W), GoX p l e room_1 s m #[.ref b] below meth c D (fun q : Nat => s.heap.size ≤ q) 8 110 1467 Q 914 [(3, .int v), (2, .ref (adM 0)), (1, .ref (adX 0)), (0, .ref b)] [.int 1] w) : ∀ (n k : Nat) (w : va_W), k ≤ 512 → 600 ≤ k + n → INV adX adM cA k w → GoX p l e room_1 s m #[.ref b] below meth c D (fun q : Nat => s.heap.size ≤ q) 8 110 1467 Q 18 [(3, .int (nI (4 * k))), (2, .ref (adM 0)), (1, .ref (adX 0)), (0, .ref b)] [] w := by
  intro n
  induction n with
  | zero =>
    intro k w h1 h2
    exact absurd h2 (by omega)
  | succ n ih =>
    intro k w hk hn hI
    refine g_iload_n C 0 dL_law_18 rfl rfl ?_
    refine g_aload_n C 3 dL_law_19 rfl rfl ?_
    refine g_slen C hX hbl (Nat.not_le.mpr hbl) dL_law_20 ?_
    refine g_iconst C (4 : Int32) dL_law_21 (by decide) ?_
    refine g_isub C dL_law_22 ?_
    refine g_icmp_gt C 913 dL_law_23 (by decide) (fun _ => ?_) (fun q => ?_)
    · refine g_iconst C (1 : Int32) dL_law_913 (by decide) ?_
      exact hE _ w
    · have hl : 4 * k + 4 ≤ L := loop_in hL q (by omega)
      have at0 : vp_in (nI (4 * k)) L := vpD (nI_in (by omega) (by omega))
      have at1 : ∀ j, j < 4 → vp_in (nI (4 * k) + nI j) L := fun j hj => by
        rw [nI_add]
        exact vpD (nI_in (by omega) (by omega))
      refine law_turn C hX hbl at0 (at1 1 (by omega)) (at1 2 (by omega)) (at1 3 (by omega)) (T := k) (by omega) hI (fun w2 hI2 => ?_)
      refine g_iinc C (v := nI (4 * (k + 1))) (lv2 := [(3, .int (nI (4 * (k + 1)))), (2, .ref (adM 0)), (1, .ref (adX 0)), (0, .ref b)]) 0 dL_law_907 rfl ?_ (by decide) rfl ?_
      · show nI (4 * k) + nI 4 = nI (4 * (k + 1))
        rw [nI_add, show 4 * k + 4 = 4 * (k + 1) by omega]
      · exact g_goto C 18 dL_law_910 (by decide) (ih (k + 1) w2 (by omega) (by omega) hI2)
end LOOP
theorem woL_5c : Cond.classLink RL 7 RX5 ∈ wsL_law := by decide +kernel
theorem woL_5i : Cond.instantiable RX5 6 ∈ wsL_law := by decide +kernel
theorem woL_5n : Cond.initialized RX5 ∈ wsL_law := by decide +kernel
theorem woL_5l : Cond.methodLink RL 9 yX5_init ∈ wsL_law := by decide +kernel
theorem woL_5m : Cond.instanceMethod yX5_init ∈ wsL_law := by decide +kernel
theorem woL_6c : Cond.classLink RL 10 RX6 ∈ wsL_law := by decide +kernel
theorem woL_6i : Cond.instantiable RX6 18 ∈ wsL_law := by decide +kernel
theorem woL_6n : Cond.initialized RX6 ∈ wsL_law := by decide +kernel
theorem woL_6l : Cond.methodLink RL 12 yX6_init ∈ wsL_law := by decide +kernel
theorem woL_6m : Cond.instanceMethod yX6_init ∈ wsL_law := by decide +kernel
section GO
variable {p : Program} {l : Launch} {e : Env} {s : State} {m : MethodId} {below : List Frame} {meth : Method} {c : Code} {Q : State → Prop}
variable {D : va_G} {cA : Nat → ClassId} {b L : Nat} {xs : Nat → Int32}
set_option maxHeartbeats 4000000 in
set_option maxRecDepth 100000 in
theorem law_go (hL : L ≤ 2048) (C : CxX p s m #[.ref b] c D (tysX cA) RL cL_law 8 wsL_law) (hO : KO s) (hX : va_X b L xs s s.heap) (hbl : b < s.heap.size) (hE : ∀ (lv : List (Nat × Value)) (w : va_W), GoX p l e room_1 s m #[.ref b] below meth c D (fun q : Nat => s.heap.size ≤ q) 8 110 1467 Q 914 lv [.int 1] w) : GoX p l e room_1 s m #[.ref b] below meth c D (fun q : Nat => s.heap.size ≤ q) 8 0 0 Q 0 [(0, .ref b)] [] [] := by
  refine g_new C (fun _ h => h) inlX5 tyX5 tyX5_ok woL_5c woL_5i woL_5n (ci := 4) rfl [.null, .null, .null, .int 0, .null, .null] dfX5 (by decide) (by decide) dL_law_0 (fun x => ?_)
  refine g_dup C dL_law_3 rfl ?_
  refine g_callI (wc := oX5 x) C hO (fun _ h => h) (c_X5_init l D cA x) gL_law_X5_init rfl rfl rfl woL_5n woL_5l woL_5m rfl (by decide +kernel) (by decide) (Nat.le_of_ble_eq_true rfl) (by decide) dL_law_4 (fun u _ => ?_)
  refine g_re (w2 := WX0 cA x u) (fun H h => W5_P (by rw [List.nil_append] at h; exact h)) (fun B h => W5_D (by rw [List.nil_append] at h; exact h)) ?_
  refine g_astore_n C (lv2 := [(1, .ref x), (0, .ref b)]) dL_law_7 rfl (by decide) rfl ?_
  refine g_new C (fun _ h => h) inlX6 tyX6 tyX6_ok woL_6c woL_6i woL_6n (ci := 5) rfl [.null, .null, .null, .null, .null, .null, .null, .int 0, .int 0, .int 0, .int 0, .int 0, .int 0, .int 0, .int 0, .int 0, .int 0, .int 0] dfX6 (by decide) (by decide) dL_law_8 (fun x2 => ?_)
  refine g_dup C dL_law_11 rfl ?_
  refine g_callI (wc := oX6 x2) C hO (fun _ h => h) (c_X6_init l D cA x2) gL_law_X6_init rfl rfl rfl woL_6n woL_6l woL_6m rfl (by decide +kernel) (by decide) (Nat.le_of_ble_eq_true rfl) (by decide) dL_law_12 (fun v _ => ?_)
  refine g_astore_n C (lv2 := [(2, .ref x2), (1, .ref x), (0, .ref b)]) dL_law_15 rfl (by decide) rfl ?_
  refine g_iconst C (0 : Int32) dL_law_16 (by decide) ?_
  refine g_istore_n C (lv2 := [(3, .int 0), (2, .ref x2), (1, .ref x), (0, .ref b)]) dL_law_17 rfl (by decide) rfl ?_
  refine g_wide (k9 := 110) (n9 := 1467) (by decide) (by decide) ?_
  exact law_loop (adX := adX5 x u) (adM := adM x2 v) hL C hX hbl (fun v w => hE _ w) 600 0 _ (by omega) (by omega) (INV_first (D := D))
end GO
theorem law_K {s : State} {b : Nat} (hts : ∀ w ∈ lw_tbl, w.before #[Value.ref b] s = true) : ∃ (D : va_G) (cA : Nat → ClassId), va_K D vwCl (tysX cA) s ∧ KO s := by
  obtain ⟨k0, j0, g0⟩ := u_known (C := RX0) (T := TX0) (N := 11) (n := 11) hts inX0 (hts (.instantiable RX0 11) (by decide +kernel))
  obtain ⟨k1, j1, g1⟩ := u_known (C := RX1) (T := TX1) (N := 3) (n := 3) hts inX1 (hts (.instantiable RX1 3) (by decide +kernel))
  obtain ⟨k2, j2, g2⟩ := u_known (C := RX3) (T := TX3) (N := 5) (n := 5) hts inX3 (hts (.instantiable RX3 5) (by decide +kernel))
  obtain ⟨k3, j3, g3⟩ := u_known (C := RX4) (T := TX4) (N := 2) (n := 2) hts inX4 (hts (.instantiable RX4 2) (by decide +kernel))
  obtain ⟨k4, j4, g4⟩ := u_known (C := RX5) (T := TX5) (N := 6) (n := 6) hts inX5 (hts (.instantiable RX5 6) (by decide +kernel))
  obtain ⟨k5, j5, g5⟩ := u_known (C := RX6) (T := TX6) (N := 18) (n := 18) hts inX6 (hts (.instantiable RX6 18) (by decide +kernel))
  have hao : (Cond.arrayOver (.object "ScoreNumbers$State")).before #[Value.ref b] s = true := hts _ (by decide +kernel)
  have haa : (Cond.arrayOver (.array .int)).before #[Value.ref b] s = true := hts _ (by decide +kernel)
  have hac : (Cond.arrayClass .char).before #[Value.ref b] s = true := hts _ (by decide +kernel)
  have hai : (Cond.arrayClass .int).before #[Value.ref b] s = true := hts _ (by decide +kernel)
  have hal : (Cond.arrayClass .long).before #[Value.ref b] s = true := hts _ (by decide +kernel)
  have hnw : nsWays.before #[Value.ref b] s = true := hts _ (by decide +kernel)
  have hne : nsEar.before #[Value.ref b] s = true := hts _ (by decide +kernel)
  have hO : KO s := by
    refine ⟨?_, va_AO.of hao, va_Nw.of rfl hnw, va_Nw.of rfl hne⟩
    unfold va_AOA
    simp only [Cond.before, Cond.holds, Cond.value] at haa ⊢
    exact haa
  obtain ⟨c0, y0, z0, a1, a2, a3⟩ := Cond.arrayClass_spec hac
  obtain ⟨c1, y1, z1, b1, b2, b3⟩ := Cond.arrayClass_spec hai
  obtain ⟨c2, y2, z2, d1, d2, d3⟩ := Cond.arrayClass_spec hal
  obtain ⟨z3, c3, y3, f1, f2, f3, f4, f5⟩ := Cond.arrayOver_spec hao
  obtain ⟨z4, c4, y4, h1, h2, h3, h4⟩ := Cond.arrayOver_specA haa
  refine ⟨(fun k => [k0, k1, k2, k3, k4, k5].getD k 0, fun k => [j0, j1, j2, j3, j4, j5].getD k (fun _ => 0)), fun k => [c0, c1, c2, c3, c4].getD k 0, ⟨fun k q hq => ?_, fun k q hq => ?_⟩, hO⟩
  · match k, hq with
    | 0, hq => cases hq; exact g0
    | 1, hq => cases hq; exact g1
    | 2, hq => cases hq; exact g2
    | 3, hq => cases hq; exact g3
    | 4, hq => cases hq; exact g4
    | 5, hq => cases hq; exact g5
    | k + 6, hq => cases hq
  · match k, hq with
    | 0, hq => cases hq; exact ⟨fun n z => ⟨fun k h => (by cases h), y0, a2, z0, a3⟩, a1⟩
    | 1, hq => cases hq; exact ⟨fun n z => ⟨fun k h => (by cases h), y1, b2, z1, b3⟩, b1⟩
    | 2, hq => cases hq; exact ⟨fun n z => ⟨fun k h => (by cases h), y2, d2, z2, d3⟩, d1⟩
    | 3, hq => cases hq; exact ⟨fun n z => ⟨fun k h => (by cases h), y3, f3, z3, f4⟩, ⟨y3, z3, f3, f4, f1, f5⟩⟩
    | 4, hq => cases hq; exact ⟨fun n z => ⟨fun k h => (by cases h), y4, h2, z4, h3⟩, h4⟩
    | k + 5, hq => cases hq
