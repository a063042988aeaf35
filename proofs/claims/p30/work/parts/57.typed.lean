/-! PURE E: a way is typed -/
theorem raw_way {n p : Nat} (h1 : 1 ≤ n) (hn : n < 8000) (hp : p < (Ws n).length) : okr ((Ws n).getD p []) S0 ∧ val (fin ((Ws n).getD p []) S0) = nI n ∧ (∀ d ∈ (Ws n).getD p [], 32 ≤ d ∧ d ≤ 126) ∧ wok ((Ws n).getD p []) ∧ 1 ≤ ((Ws n).getD p []).length := by
  obtain ⟨r1, r2, r3, r4⟩ := raw_facts h1 hn
  have hm : (Ws n).getD p [] ∈ rawW n := (Ws_rank r2).2.mem_iff.mp (getD_mem hp)
  obtain ⟨a, b, c⟩ := raw_sound h1 hn hm
  refine ⟨a, b, c, r1 _ hm, ?_⟩
  rcases Nat.eq_zero_or_pos ((Ws n).getD p []).length with z | z
  · rw [List.eq_nil_of_length_eq_zero z] at a
    exact absurd a not_okr_nil
  · exact z
section TYPED
variable {M N P : Nat} {nw kp pt tx : Nat → Int32} {hr lr : Nat → Nat → Int32} {tl mn e0 e1 e2 e3 e4 e5 e6 e7 e8 e9 e10 : Int32} {sd : Nat → Int64}
theorem ok_isTyped {n p : Nat} {w : List Nat} {Q : Int32 → Int32 → (Nat → Int32) → Int32 → (Nat → Int64) → Int32 → Int32 → Int32 → Int32 → Int32 → Int32 → Int32 → Int32 → Int32 → Int32 → Int32 → Prop} (hs : SC M N P nw kp pt hr lr) (h1 : 1 ≤ n) (hn : n < 8000) (hp : p < (Ws n).length) (hw : (Ws n).getD p [] = w) (ht : TT tl)
    (hQ : ∀ tx mn sd e0 e1 e2 e3 e4 e5 e6 e7 e8 e9 e10, SAY tx w → Q 1 (nI w.length) tx mn sd e0 e1 e2 e3 e4 e5 e6 e7 e8 e9 e10) : F_L_isTyped (nI n) (nI p) hr tl tx mn sd e0 e1 e2 e3 e4 e5 e6 e7 e8 e9 e10 Q := by
  obtain ⟨ok, hval, htx, hwk, hl1⟩ := raw_way h1 hn hp
  rw [hw] at ok hval htx hwk hl1
  have hw9 := hwk.2
  -- the hearers
  have kh : ∀ m h, h + m = 6 → ∀ tx mn sd e0 e1 e2 e3 e4 e5 e6 e7 e8 e9 e10, SAY tx w → L_L_isTyped_111 Q hr (m + 1) (nI n) (nI p) 1 (nI h) (nI w.length) tx mn sd e0 e1 e2 e3 e4 e5 e6 e7 e8 e9 e10 := by
    intro m
    induction m with
    | zero =>
      intro h hh tx mn sd e0 e1 e2 e3 e4 e5 e6 e7 e8 e9 e10 hsay
      have hh : h = 6 := by omega
      subst hh
      exact ⟨fun _ => ⟨isBo1, hQ _ _ _ _ _ _ _ _ _ _ _ _ _ _ hsay⟩, fun q => absurd (by decide) q⟩
    | succ m ih =>
      intro h hh tx mn sd e0 e1 e2 e3 e4 e5 e6 e7 e8 e9 e10 hsay
      have h6 : h < 6 := by omega
      obtain ⟨a, a1, a2, a3⟩ := SC_att hs h6
      refine ⟨fun q => absurd q (nI_ge (b := 6) h6 (by omega)), fun _ => ⟨fun q => absurd q (by decide), fun _ => ?_⟩⟩
      refine dx_understoodText h6 (by omega) hsay hwk ok a3 a2 (fun _ _ _ _ _ _ _ _ _ _ _ => dx_understood h6 h1 hn hp a3 a2 (fun _ _ _ _ _ _ _ _ _ _ _ _ _ => ?_))
      rw [hw]
      refine ⟨fun _ => ?_, fun n => absurd rfl n⟩
      unfold B_L_isTyped_145
      rw [nI_1]
      exact ih (h + 1) (by omega) _ _ _ _ _ _ _ _ _ _ _ _ _ _ hsay
  have k71 : ∀ tx mn sd, SAY tx w → B_L_isTyped_71 Q hr (nI n) (nI p) 1 (nI w.length) tx mn sd e0 e1 e2 e3 e4 e5 e6 e7 e8 e9 e10 := fun tx mn sd hsay => by
    unfold B_L_isTyped_71 B_L_isTyped_106
    refine br1 (dx_fault_ok (by omega) hsay ok (fun _ _ _ _ _ _ _ _ _ _ _ => ⟨fun _ => dx_meaning_ok (by omega) hsay hwk ok hval (fun _ _ _ _ _ _ _ _ _ _ _ => ⟨fun _ => dx_placeOfText h1 hn hp hw hsay ok hval (fun _ _ _ _ _ _ _ _ _ _ _ _ _ => ⟨fun _ => ⟨7, ?_⟩, fun n => absurd rfl n⟩), fun n => absurd rfl n⟩), fun n => absurd rfl n⟩))
    exact kh 6 0 (by omega) _ _ _ _ _ _ _ _ _ _ _ _ _ _ hsay
  have kt : ∀ m k, k + m = w.length → ∀ tx mn sd, SAY tx (w.take k) → L_L_isTyped_28 Q hr (m + 1) (nI n) (nI p) (nI w.length) 1 (nI k) (nI k) tx mn sd e0 e1 e2 e3 e4 e5 e6 e7 e8 e9 e10 := by
    intro m
    induction m with
    | zero =>
      intro k hk tx mn sd hsay
      have hk : k = w.length := by omega
      subst hk
      rw [List.take_length] at hsay
      exact ⟨fun _ => k71 _ _ _ hsay, fun q => absurd (nI_le (Nat.le_refl _) (by omega)) q⟩
    | succ m ih =>
      intro k hk tx mn sd hsay
      have hk2 : k < w.length := by omega
      have hlen : (w.take k).length = k := by rw [List.length_take]; omega
      have hc := htx (w.getD k 0) (by
        rw [List.getD_eq_getElem?_getD, List.getElem?_eq_getElem hk2]
        exact List.getElem_mem _)
      refine ⟨fun q => absurd q (nI_ge hk2 (by omega)), fun _ => ⟨fun q => absurd q (by decide), fun _ => ?_⟩⟩
      refine dx_wayAt h1 hn hp (by rw [hw]; exact hk2) (fun mn' sd' => ?_)
      rw [hw]
      have hap := dx_append (w := w.take k) (tx := tx) (c := w.getD k 0) (Q := fun r_77 tl_78 tx_79 => ((r_77 = (nI k + (1 : Int32)) → (B_L_isTyped_63 (L_L_isTyped_28 Q hr (m + 1)) Q hr (nI n) (nI p) (nI w.length) (nI k) (1 : Int32) tl_78 tx_79 mn' sd' e0 e1 e2 e3 e4 e5 e6 e7 e8 e9 e10)) ∧ (¬ r_77 = (nI k + (1 : Int32)) → (B_L_isTyped_63 (L_L_isTyped_28 Q hr (m + 1)) Q hr (nI n) (nI p) (nI w.length) (nI k) (0 : Int32) tl_78 tx_79 mn' sd' e0 e1 e2 e3 e4 e5 e6 e7 e8 e9 e10)))) (by omega) hsay hc.1 hc.2 (fun tx' hsay' => by
          rw [hlen]
          refine ⟨fun _ => ?_, fun n => absurd (nI_1 k).symm n⟩
          unfold B_L_isTyped_63
          rw [nI_1]
          rw [← getD_append w 0 k hk2] at hsay'
          exact ih (k + 1) (by omega) _ _ _ hsay')
      rw [hlen] at hap
      exact hap
  unfold F_L_isTyped B_L_isTyped_0 B_L_isTyped_23
  refine dx_wayLength h1 hn hp (fun mn' sd' => dx_clearText ⟨fun q => ?_, fun _ => ⟨fun q => ?_, fun _ => ?_⟩⟩)
  · obtain ⟨t, t1, t2⟩ := ht
    rw [t2] at q
    exact absurd q (nI_pos (by omega))
  · rw [hw] at q
    exact absurd q (nI_ge (a := 0) (by omega) (by omega))
  · rw [hw]
    exact ⟨w.length + 1, kt w.length 0 (by omega) _ _ _ (by rw [List.take_zero]; exact SAY_nil)⟩
end TYPED
