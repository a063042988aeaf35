/-! PURE 5: what is understood of a spoken number, on both sides -/
/-- what is understood behind the state S -/
def hv (e0 e1 e2 : Int32) (l : List Int32) (S : ES) : Int32 := if (erun e0 e2 l S).1 = 0 ∧ compl (erun e0 e2 l S).2.1 then numb e1 (erun e0 e2 l S).2 else 0
def kn (row : Nat → Int32) (j : Nat) : Int32 := if row j = 1 then 1 else 0
/-- what a hearer with this row understands of w -/
def hrd (row : Nat → Int32) (w : List Nat) : Int32 := hv (kn row 0) (kn row 1) (kn row 2) ((w.map nI).take (row 6).toNatClampNeg) S0
theorem hv_nil {e0 e1 e2 : Int32} {S : ES} : hv e0 e1 e2 [] S = if compl S.1 then numb e1 S else 0 := by
  unfold hv
  by_cases q : compl S.1
  · rw [if_pos q, if_pos ⟨rfl, q⟩]; rfl
  · rw [if_neg q, if_neg (fun n => q n.2)]
theorem hv_no {e0 e1 e2 c : Int32} {r : List Int32} {S : ES} (h : fol S.1 S.2.1 c = -1) : hv e0 e1 e2 (c :: r) S = 0 := by
  unfold hv
  rw [erun_no h]
  exact if_neg (fun n => absurd n.1 (by show (c :: r).length ≠ 0; exact Nat.succ_ne_zero _))
theorem hv_go {e0 e1 e2 c st bh hv' ls ct gr ba un : Int32} {r : List Int32} (h : fol st bh c ≠ -1) : hv e0 e1 e2 (c :: r) (st, bh, hv', ls, ct, gr, ba, un) = hv e0 e1 e2 r (stepS e0 e2 c st bh hv' ls ct gr ba un) := by
  unfold hv
  rw [erun_go h]
theorem sp_hear {w : List Nat} {a : Nat} {e0 e1 e2 : Int32} {Q : Int32 → Int32 → Int32 → Int32 → Int32 → Int32 → Int32 → Int32 → Int32 → Prop} (hw : okc w) (hl : w.length ≤ 9) (ha : a < 2147483648)
    (h : ∀ a1 a2 a3 a4 a5 a6 a7 a8, Q (hv e0 e1 e2 ((w.map nI).take a) S0) a1 a2 a3 a4 a5 a6 a7 a8) : F_X0_hear (pkL w) (nI a) e0 e1 e2 0 0 0 0 1 0 0 0 Q := by
  unfold F_X0_hear B_X0_hear_0
  refine sp_length hw hl ?_
  have hlen : ((w.map nI).take a).length = min a w.length := by rw [List.length_take, List.length_map]
  have h48 : ∀ S : ES, (∀ a1 a2 a3 a4 a5 a6 a7 a8, Q (hv e0 e1 e2 [] S) a1 a2 a3 a4 a5 a6 a7 a8) → B_X0_hear_48 Q e0 e1 e2 S.1 S.2.1 S.2.2.1 S.2.2.2.1 S.2.2.2.2.1 S.2.2.2.2.2.1 S.2.2.2.2.2.2.1 S.2.2.2.2.2.2.2 := fun S hS => by
    unfold B_X0_hear_48 B_X0_hear_63
    rw [hv_nil] at hS
    refine sp_isComplete (fun q => ⟨fun n => absurd n (by decide), fun _ => ?_⟩) (fun q => ⟨fun _ => ?_, fun n => absurd rfl n⟩)
    · rw [if_pos q] at hS
      exact sp_number (S := S) (hS _ _ _ _ _ _ _ _)
    · rw [if_neg q] at hS
      exact hS _ _ _ _ _ _ _ _
  have key : ∀ k i, i + k = min a w.length → ∀ S : ES, (∀ a1 a2 a3 a4 a5 a6 a7 a8, Q (hv e0 e1 e2 (((w.map nI).take a).drop i) S) a1 a2 a3 a4 a5 a6 a7 a8) →
      L_X0_hear_9 Q e0 e1 e2 (k + 1) (pkL w) (nI a) (nI w.length) (nI i) S.1 S.2.1 S.2.2.1 S.2.2.2.1 S.2.2.2.2.1 S.2.2.2.2.2.1 S.2.2.2.2.2.2.1 S.2.2.2.2.2.2.2 := by
    intro k
    induction k with
    | zero =>
      intro i hi S hS
      rw [List.drop_eq_nil_of_le (by rw [hlen]; omega)] at hS
      refine ⟨fun _ => h48 S hS, fun q => ⟨fun _ => h48 S hS, fun q2 => ?_⟩⟩
      exfalso
      rcases Nat.lt_or_ge i w.length with h1 | h1
      · exact q2 (nI_le (by omega) (by omega))
      · exact q (nI_le h1 (by omega))
    | succ k ih =>
      intro i hi S hS
      have hi1 : i < w.length := by omega
      have hi2 : i < a := by omega
      have hd : ((w.map nI).take a).drop i = nI (w.getD i 0) :: ((w.map nI).take a).drop (i + 1) := by
        rw [List.drop_eq_getElem_cons (by rw [hlen]; omega), List.getElem_take, List.getElem_map, List.getD_eq_getElem?_getD, List.getElem?_eq_getElem hi1]
        rfl
      rw [hd] at hS
      refine ⟨fun q => absurd q (nI_ge hi1 (by omega)), fun _ => ⟨fun q => absurd q (nI_ge hi2 (by omega)), fun _ => ?_⟩⟩
      have e : nI w.length - 1 - nI i = nI (w.length - 1 - i) := by
        show nI w.length - nI 1 - nI i = _
        rw [pk_sub (by omega), pk_sub (by omega)]
      rw [e]
      refine sp_character hw hl (by omega) ?_
      rw [show w.length - 1 - (w.length - 1 - i) = i by omega]
      refine sp_take (fun q => ⟨fun _ => ?_, fun n => absurd rfl n⟩) (fun q a1 a2 a3 a4 a5 a6 a7 a8 hst => ⟨fun n => absurd n (by decide), fun _ => ?_⟩)
      · rw [hv_no q] at hS
        exact hS _ _ _ _ _ _ _ _
      · have hg := hv_go (e0 := e0) (e1 := e1) (e2 := e2) (hv' := S.2.2.1) (ls := S.2.2.2.1) (ct := S.2.2.2.2.1) (gr := S.2.2.2.2.2.1) (ba := S.2.2.2.2.2.2.1) (un := S.2.2.2.2.2.2.2) (r := ((w.map nI).take a).drop (i + 1)) q
        rw [hst] at hg
        have h1 := ih (i + 1) (by omega) (a1, a2, a3, a4, a5, a6, a7, a8) (fun b1 b2 b3 b4 b5 b6 b7 b8 => by
          rw [← hg]; exact hS b1 b2 b3 b4 b5 b6 b7 b8)
        rw [nI_1]
        exact h1
  exact ⟨min a w.length + 1, key (min a w.length) 0 (by omega) S0 (by rw [List.drop_zero]; exact h)⟩
theorem sp_listen {v1 v2 v3 e0 e1 e2 e3 e4 e5 e6 e7 e8 e9 e10 : Int32} {Q : Int32 → Int32 → Int32 → Int32 → Int32 → Int32 → Int32 → Int32 → Int32 → Int32 → Int32 → Prop} (h1 : isBo v1) (h2 : isBo v2) (h3 : isBo v3) (h : Q v1 v2 v3 0 0 0 0 1 0 0 0) : F_X0_listen v1 v2 v3 e0 e1 e2 e3 e4 e5 e6 e7 e8 e9 e10 Q := ⟨h1, h2, h3, h⟩
theorem sp_meant {w : List Nat} {e0 e1 e2 e3 e4 e5 e6 e7 e8 e9 e10 : Int32} {Q : Int32 → Int32 → Int32 → Int32 → Int32 → Int32 → Int32 → Int32 → Int32 → Int32 → Int32 → Int32 → Prop} (hw : okc w) (hl : w.length ≤ 9)
    (h : ∀ a0 a1 a2 a3 a4 a5 a6 a7 a8 a9 a10, Q (hv 1 1 1 (w.map nI) S0) a0 a1 a2 a3 a4 a5 a6 a7 a8 a9 a10) : F_X5_meant (pkL w) e0 e1 e2 e3 e4 e5 e6 e7 e8 e9 e10 Q := by
  unfold F_X5_meant B_X5_meant_0
  refine sp_listen isBo1 isBo1 isBo1 ?_
  have e : (w.map nI).take 12 = w.map nI := List.take_of_length_le (by rw [List.length_map]; omega)
  refine sp_hear (a := 12) hw hl (by omega) (fun a1 a2 a3 a4 a5 a6 a7 a8 => ?_)
  rw [e]
  exact h _ _ _ _ _ _ _ _ _ _ _
theorem sp_heard {w : List Nat} {hn a : Nat} {hr : Nat → Nat → Int32} {e0 e1 e2 e3 e4 e5 e6 e7 e8 e9 e10 : Int32} {Q : Int32 → Int32 → Int32 → Int32 → Int32 → Int32 → Int32 → Int32 → Int32 → Int32 → Int32 → Int32 → Prop} (hw : okc w) (hl : w.length ≤ 9) (hh : hn < 6) (ha : hr hn 6 = nI a) (ha2 : a < 2147483648)
    (h : ∀ a0 a1 a2 a3 a4 a5 a6 a7 a8 a9 a10, Q (hrd (hr hn) w) a0 a1 a2 a3 a4 a5 a6 a7 a8 a9 a10) : F_X5_heard (nI hn) (pkL w) hr e0 e1 e2 e3 e4 e5 e6 e7 e8 e9 e10 Q := by
  have hc : 6 * 0 + (nI hn).toNatClampNeg = hn := by rw [nI_clamp (by omega)]; omega
  have e0' : (0 : Int32).toNatClampNeg = 0 := rfl
  have e1' : (1 : Int32).toNatClampNeg = 1 := rfl
  have e2' : (2 : Int32).toNatClampNeg = 2 := rfl
  have e6' : (6 : Int32).toNatClampNeg = 6 := rfl
  have h54 : ∀ s1 s2 s3 : Int32, isBo s1 → isBo s2 → isBo s3 → s1 = kn (hr hn) 0 → s2 = kn (hr hn) 1 → s3 = kn (hr hn) 2 → B_X5_heard_54 Q hr (pkL w) hn s1 s2 s3 e0 e1 e2 e3 e4 e5 e6 e7 e8 e9 e10 := fun s1 s2 s3 b1 b2 b3 q1 q2 q3 => by
    unfold B_X5_heard_54
    refine sp_listen b1 b2 b3 ⟨vp_in_nI (n := 6) (by omega) (by omega), ?_⟩
    rw [e6', ha]
    refine sp_hear hw hl ha2 (fun a1 a2 a3 a4 a5 a6 a7 a8 => ?_)
    have h9 := h s1 s2 s3 a1 a2 a3 a4 a5 a6 a7 a8
    unfold hrd at h9
    rw [← q1, ← q2, ← q3, ha, nI_clamp (by omega)] at h9
    exact h9
  have h41 : ∀ s1 s2 : Int32, isBo s1 → isBo s2 → s1 = kn (hr hn) 0 → s2 = kn (hr hn) 1 → B_X5_heard_41 Q hr (pkL w) hn s1 s2 e0 e1 e2 e3 e4 e5 e6 e7 e8 e9 e10 := fun s1 s2 b1 b2 q1 q2 => by
    unfold B_X5_heard_41
    rw [e2']
    exact ⟨vp_in_nI (n := 2) (by omega) (by omega), fun q => h54 s1 s2 1 b1 b2 isBo1 q1 q2 (by unfold kn; rw [if_pos q]), fun q => h54 s1 s2 0 b1 b2 isBo0 q1 q2 (by unfold kn; rw [if_neg q])⟩
  have h28 : ∀ s1 : Int32, isBo s1 → s1 = kn (hr hn) 0 → B_X5_heard_28 Q hr (pkL w) hn s1 e0 e1 e2 e3 e4 e5 e6 e7 e8 e9 e10 := fun s1 b1 q1 => by
    unfold B_X5_heard_28
    rw [e1']
    exact ⟨vp_in_nI (n := 1) (by omega) (by omega), fun q => h41 s1 1 b1 isBo1 q1 (by unfold kn; rw [if_pos q]), fun q => h41 s1 0 b1 isBo0 q1 (by unfold kn; rw [if_neg q])⟩
  unfold F_X5_heard B_X5_heard_0
  rw [hc, e0']
  exact ⟨vp_in_nI (by omega) (by omega), vp_in_nI (n := 0) (by omega) (by omega), fun q => h28 1 isBo1 (by unfold kn; rw [if_pos q]), fun q => h28 0 isBo0 (by unfold kn; rw [if_neg q])⟩
