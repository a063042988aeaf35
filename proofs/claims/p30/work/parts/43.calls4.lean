section TXTS
variable {w : List Nat}
theorem okr_hv (h : okr w S0) : hv 1 1 1 (w.map nI) S0 = val (fin w S0) := by
  unfold hv
  exact if_pos h
theorem sp_faultX {tx : Nat → Int32} {e0 e1 e2 e3 e4 e5 e6 e7 e8 e9 e10 : Int32} {Q : Int32 → Int32 → Int32 → Int32 → Int32 → Int32 → Int32 → Int32 → Int32 → Int32 → Int32 → Int32 → Prop} (hl : w.length ≤ 20) (hs : SAY tx w)
    (h1 : okr w S0 → ∀ a0 a1 a2 a3 a4 a5 a6 a7 a8 a9 a10, Q (-5) a0 a1 a2 a3 a4 a5 a6 a7 a8 a9 a10) (h0 : ¬ okr w S0 → ∀ a0 a1 a2 a3 a4 a5 a6 a7 a8 a9 a10, Q (nI (w.length - (erun 1 1 (w.map nI) S0).1)) a0 a1 a2 a3 a4 a5 a6 a7 a8 a9 a10) : F_X5_fault (nI w.length) tx e0 e1 e2 e3 e4 e5 e6 e7 e8 e9 e10 Q := by
  have h50 : ∀ S : ES, erun 1 1 [] S = erun 1 1 (w.map nI) S0 → B_X5_fault_50 Q (nI w.length) tx 1 1 1 S.1 S.2.1 S.2.2.1 S.2.2.2.1 S.2.2.2.2.1 S.2.2.2.2.2.1 S.2.2.2.2.2.2.1 S.2.2.2.2.2.2.2 := fun S hS => by
    unfold B_X5_fault_50 B_X5_fault_69
    have hS : ((0, S) : Nat × ES) = erun 1 1 (w.map nI) S0 := hS
    refine sp_isComplete (fun q => br1 ?_) (fun q => br0 ?_)
    · refine h1 ?_ _ _ _ _ _ _ _ _ _ _ _
      unfold okr
      rw [← hS]; exact ⟨rfl, q⟩
    · have h9 := h0 (by
        unfold okr
        rw [← hS]
        exact fun n => q n.2)
      rw [← hS] at h9
      exact h9 _ _ _ _ _ _ _ _ _ _ _
  have key : ∀ m i, i + m = w.length → ∀ S : ES, erun 1 1 ((w.map nI).drop i) S = erun 1 1 (w.map nI) S0 →
      L_X5_fault_12 Q (nI w.length) tx (m + 1) (nI i) 1 1 1 S.1 S.2.1 S.2.2.1 S.2.2.2.1 S.2.2.2.2.1 S.2.2.2.2.2.1 S.2.2.2.2.2.2.1 S.2.2.2.2.2.2.2 := by
    intro m
    induction m with
    | zero =>
      intro i hi S hS
      rw [List.drop_eq_nil_of_le (by rw [List.length_map]; omega)] at hS
      exact ⟨fun _ => h50 S hS, fun q => absurd (nI_le (by omega) (by omega)) q⟩
    | succ m ih =>
      intro i hi S hS
      have hi2 : i < w.length := by omega
      have hd : (w.map nI).drop i = nI (w.getD i 0) :: (w.map nI).drop (i + 1) := by
        rw [List.drop_eq_getElem_cons (by rw [List.length_map]; exact hi2), List.getElem_map, List.getD_eq_getElem?_getD, List.getElem?_eq_getElem hi2]
        rfl
      rw [hd] at hS
      refine ⟨fun q => absurd q (nI_ge hi2 (by omega)), fun _ => ⟨fun q => absurd q (nI_ge (b := 20) (by omega) (by omega)), fun _ => ⟨vp_in_nI (by omega) (by decide), ?_⟩⟩⟩
      rw [nI_clamp (show i < 2147483648 by omega), hs i hi2]
      refine sp_take (fun q => br0 ?_) (fun q a1 a2 a3 a4 a5 a6 a7 a8 hst => br1 ?_)
      · rw [erun_no q] at hS
        have ek : (erun 1 1 (w.map nI) S0).1 = w.length - i := by
          rw [← hS, List.length_cons, List.length_drop, List.length_map]; omega
        have h9 := h0 (fun n => by
          have := n.1
          rw [ek] at this
          omega)
        rw [ek, show w.length - (w.length - i) = i by omega] at h9
        exact h9 _ _ _ _ _ _ _ _ _ _ _
      · have hg := erun_go (e0 := 1) (e2 := 1) (hv := S.2.2.1) (ls := S.2.2.2.1) (ct := S.2.2.2.2.1) (gr := S.2.2.2.2.2.1) (ba := S.2.2.2.2.2.2.1) (un := S.2.2.2.2.2.2.2) (r := (w.map nI).drop (i + 1)) q
        rw [hst] at hg
        have h1 := ih (i + 1) (by omega) (a1, a2, a3, a4, a5, a6, a7, a8) (hg.symm.trans hS)
        rw [nI_1]
        exact h1
  unfold F_X5_fault B_X5_fault_0
  exact sp_listen isBo1 isBo1 isBo1 ⟨w.length + 1, key w.length 0 (by omega) S0 (by rw [List.drop_zero])⟩
theorem sp_packed {tx : Nat → Int32} {Q : Int64 → Prop} (hl : w.length ≤ 20) (hs : SAY tx w) (hw : lim w) (hQ : Q (pkL w)) : F_X5_packedText (nI w.length) tx Q := by
  have key : ∀ m i, i + m = w.length → L_X5_packedText_4 Q (nI w.length) tx (m + 1) (pkL (w.take i)) (nI i) := by
    intro m
    induction m with
    | zero =>
      intro i hi
      have hi : i = w.length := by omega
      subst hi
      rw [List.take_length]
      exact ⟨fun _ => hQ, fun q => absurd (nI_le (Nat.le_refl _) (by omega)) q⟩
    | succ m ih =>
      intro i hi
      have hi2 : i < w.length := by omega
      have h5 := ih (i + 1) (by omega)
      rw [getD_append w 0 i hi2] at h5
      have hd : w.getD i 0 < 128 := by
        rw [List.getD_eq_getElem?_getD, List.getElem?_eq_getElem hi2]
        exact hw _ (List.getElem_mem _)
      refine ⟨fun q => absurd q (nI_ge hi2 (by omega)), fun _ => ⟨fun q => absurd q (nI_ge (b := 20) (by omega) (by omega)), fun _ => ⟨vp_in_nI (by omega) (by decide), ?_⟩⟩⟩
      rw [nI_clamp (show i < 2147483648 by omega), hs i hi2]
      refine sp_then ?_ hd
      rw [nI_1]; exact h5
  exact ⟨w.length + 1, key w.length 0 (by omega)⟩
theorem lim_of (h : ∀ d ∈ w, 32 ≤ d ∧ d ≤ 126) : lim w := fun d hd => by have := h d hd; omega
end TXTS
section CALLS
variable {T : Nat} {tl fr hd gn gt : Int32} {tx nw kp pt ms mb mt : Nat → Int32} {hr lr : Nat → Nat → Int32} {v v1 v2 v3 : Int32}
variable {mn e0 e1 e2 e3 e4 e5 e6 e7 e8 e9 e10 gm gs ga gg gb gu gh gk gl : Int32} {sd : Nat → Int64} {my mw ml mo : Nat → Int32}
end CALLS
