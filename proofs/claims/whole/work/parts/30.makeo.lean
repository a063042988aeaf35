/-! PURE 10: the reference orders the ways -/
theorem sp_isAhead {mw ml : Nat → Int32} {j1 j2 : Nat} {u v : List Nat} {Q : Int32 → Prop} (h1 : j1 < 16) (h2 : j2 < 16) (hu : wok u) (hv : wok v) (a1 : WA mw ml j1 u) (a2 : WA mw ml j2 v) (hQ : Q (if pkN u < pkN v then 1 else 0)) : F_X6_isAhead (nI j1) (nI j2) mw ml Q := by
  obtain ⟨l1, m1⟩ := a1
  obtain ⟨l2, m2⟩ := a2
  have e1 : (nI j1).toNatClampNeg = j1 := nI_clamp (by omega)
  have e2 : (nI j2).toNatClampNeg = j2 := nI_clamp (by omega)
  have hu9 := hu.2
  have hv9 := hv.2
  have i1 := vp_in_nI h1 (show 16 < 2 ^ 31 by decide)
  have i2 := vp_in_nI h2 (show 16 < 2 ^ 31 by decide)
  have x1 : ∀ k : Nat, (10 : Int32) * nI j1 + nI k = nI (10 * j1 + k) := fun k => by rw [show (10 : Int32) = nI 10 from rfl, pk_mul, nI_add]
  have x2 : ∀ k : Nat, (10 : Int32) * nI j2 + nI k = nI (10 * j2 + k) := fun k => by rw [show (10 : Int32) = nI 10 from rfl, pk_mul, nI_add]
  unfold F_X6_isAhead B_X6_isAhead_0 B_X6_isAhead_35
  rw [e1, e2, l1, l2]
  have h118 : ¬ pkN u < pkN v → B_X6_isAhead_118 Q mw ml := fun q => by
    rw [if_neg q] at hQ
    exact ⟨isBo0, hQ⟩
  have h119 : pkN u < pkN v → B_X6_isAhead_119 Q mw ml 1 := fun q => by
    rw [if_pos q] at hQ
    exact ⟨isBo1, hQ⟩
  refine ⟨i1, i2, fun q => ?_, fun q => ⟨i1, i2, fun q2 => ⟨isBo0, ?_⟩, fun q2 => ⟨isBo1, ?_⟩⟩⟩
  · have hl : u.length = v.length := (nI_eq (by omega) (by omega)).mp q
    have h79 : ∀ k, k ≤ u.length → (∀ i, i < k → u.getD i 0 = v.getD i 0) → (k < u.length → u.getD k 0 ≠ v.getD k 0) → B_X6_isAhead_79 Q mw ml (nI j1) (nI j2) (nI k) := fun k hk he hne => by
      unfold B_X6_isAhead_79
      rw [e1, l1]
      refine ⟨i1, fun q => ?_, fun q => ?_⟩
      · have hk2 : k = u.length := by
          have := (nI_leI (by omega) (by omega)).mp q
          omega
        have euv : u = v := list_eqD u v hl (fun i hi => he i (by omega))
        refine h118 ?_
        rw [euv]; exact Nat.lt_irrefl _
      · have hk2 : k < u.length := Classical.byContradiction fun n => q (nI_le (by omega) (by omega))
        have hl2 := lex_lt u v hu.1 hv.1 hl k he hk2 (hne hk2)
        have bu : u.getD k 0 < 128 := by
          rw [List.getD_eq_getElem?_getD, List.getElem?_eq_getElem hk2]
          exact (hu.1 _ (List.getElem_mem _)).2
        have bv : v.getD k 0 < 128 := by
          rw [List.getD_eq_getElem?_getD, List.getElem?_eq_getElem (by omega)]
          exact (hv.1 _ (List.getElem_mem _)).2
        rw [x1, x2, nI_clamp (by omega), nI_clamp (by omega), m1 k hk2, m2 k (by omega)]
        refine ⟨vp_in_nI (by omega) (by decide), vp_in_nI (by omega) (by decide), fun q3 => ?_, fun q3 => ?_⟩
        · have := (nI_leI (by omega) (by omega)).mp q3
          refine h118 (fun n => ?_)
          have := hl2.mp n
          omega
        · have : ¬ v.getD k 0 ≤ u.getD k 0 := fun n => q3 (nI_le n (by omega))
          exact h119 (hl2.mpr (by omega))
    have key : ∀ m k, k + m = u.length → (∀ i, i < k → u.getD i 0 = v.getD i 0) → L_X6_isAhead_38 Q mw ml (m + 1) (nI j1) (nI j2) (nI k) := by
      intro m
      induction m with
      | zero =>
        intro k hk he
        refine ⟨i1, fun q => h79 k (by omega) he (fun n => absurd n (by omega)), fun q => ?_⟩
        rw [e1, l1] at q
        exact absurd (nI_le (by omega) (by omega)) q
      | succ m ih =>
        intro k hk he
        have hk2 : k < u.length := by omega
        have bu : u.getD k 0 < 128 := by
          rw [List.getD_eq_getElem?_getD, List.getElem?_eq_getElem hk2]
          exact (hu.1 _ (List.getElem_mem _)).2
        have bv : v.getD k 0 < 128 := by
          rw [List.getD_eq_getElem?_getD, List.getElem?_eq_getElem (by omega)]
          exact (hv.1 _ (List.getElem_mem _)).2
        refine ⟨i1, fun q => ?_, fun q => ?_⟩
        · rw [e1, l1] at q
          exact absurd q (nI_ge hk2 (by omega))
        · rw [x1, x2, nI_clamp (by omega), nI_clamp (by omega), m1 k hk2, m2 k (by omega)]
          refine ⟨vp_in_nI (by omega) (by decide), vp_in_nI (by omega) (by decide), fun q3 => ?_, fun q3 => ?_⟩
          · have e := (nI_eq (by omega) (by omega)).mp q3
            rw [nI_1]
            refine ih (k + 1) (by omega) (fun i hi => ?_)
            by_cases e9 : i = k
            · rw [e9]; exact e
            · exact he i (by omega)
          · exact h79 k (by omega) he (fun _ n => q3 (by rw [n]))
    exact ⟨u.length + 1, key u.length 0 (by omega) (fun i hi => absurd hi (Nat.not_lt_zero i))⟩
  · have hle := (nI_leI (by omega) (by omega)).mp q2
    have hne : u.length ≠ v.length := fun n => q (by rw [n])
    have := pk_short hv.1 hu.1 (by omega)
    rw [if_neg (by omega)] at hQ
    exact hQ
  · have hlt : u.length < v.length := Classical.byContradiction fun n => q2 (nI_le (by omega) (by omega))
    have := pk_short hu.1 hv.1 hlt
    rw [if_pos this] at hQ
    exact hQ
/-- the ways W stand in their order -/
def MWs (mw ml mo : Nat → Int32) (W : List (List Nat)) : Prop := ∀ p, p < W.length → ∃ j, j < 16 ∧ mo p = nI j ∧ WA mw ml j (W.getD p [])
theorem getD_append {α : Type} (L : List α) (d : α) (j : Nat) (hj : j < L.length) : L.take (j + 1) = L.take j ++ [L.getD j d] := by
  rw [List.take_succ, List.getD_eq_getElem?_getD, List.getElem?_eq_getElem hj]
  rfl
theorem sp_orders {mw ml mo : Nat → Int32} {L : List (List Nat)} {Q : (Nat → Int32) → (Nat → Int32) → (Nat → Int32) → Int32 → Prop} (hL : ∀ y ∈ L, wok y) (hl : L.length ≤ 16) (hd : L.Pairwise (fun a b => pkN a ≠ pkN b)) (hP : ∀ k, k < L.length → WA mw ml k (L.getD k []))
    (hQ : ∀ mo', (∀ j, j < L.length → mo' (rk L (L.getD j [])) = nI j) → Q mw ml mo' (nI L.length)) : ∃ n9 : Nat, L_X6_makes_79 Q n9 0 mw ml mo (nI L.length) := by
  have hinj : ∀ i j, i < L.length → j < L.length → i ≠ j → rk L (L.getD i []) ≠ rk L (L.getD j []) := fun i j hi hj hij => by
    have hpk : pkN (L.getD i []) ≠ pkN (L.getD j []) := by
      rw [List.getD_eq_getElem?_getD, List.getD_eq_getElem?_getD, List.getElem?_eq_getElem hi, List.getElem?_eq_getElem hj]
      rw [List.pairwise_iff_getElem] at hd
      rcases Nat.lt_or_ge i j with q | q
      · exact hd i j hi hj q
      · exact (hd j i hj hi (by omega)).symm
    rcases Nat.lt_or_ge (pkN (L.getD i [])) (pkN (L.getD j [])) with q | q
    · have := rk_lt (getD_mem hi) q; omega
    · have := rk_lt (L := L) (getD_mem hj) (show pkN (L.getD j []) < pkN (L.getD i []) by omega); omega
  have inner : ∀ (kh : Int32 → (Nat → Int32) → (Nat → Int32) → (Nat → Int32) → Int32 → Prop) (w : Nat) (mo : Nat → Int32), w < L.length → kh (nI w + 1) mw ml (upd mo (rk L (L.getD w [])) (nI w)) (nI L.length) →
      ∃ n9 : Nat, L_X6_makes_92 kh Q n9 (nI w) 0 0 mw ml mo (nI L.length) := fun kh w mo hw hk => by
    have key : ∀ m i, i + m = L.length → L_X6_makes_92 kh Q (m + 1) (nI w) (nI ((L.take i).countP (fun y => decide (pkN y < pkN (L.getD w []))))) (nI i) mw ml mo (nI L.length) := by
      intro m
      induction m with
      | zero =>
        intro i hi
        have hi : i = L.length := by omega
        subst hi
        rw [List.take_length]
        have hb := rk_bound (getD_mem hw)
        refine ⟨fun _ => ⟨vp_in_nI (show rk L (L.getD w []) < 16 by omega) (by decide), ?_⟩, fun q => absurd (nI_le (Nat.le_refl _) (by omega)) q⟩
        have ec : (nI (L.countP (fun y => decide (pkN y < pkN (L.getD w []))))).toNatClampNeg = rk L (L.getD w []) := nI_clamp (show rk L (L.getD w []) < _ by omega)
        rw [ec]
        exact hk
      | succ m ih =>
        intro i hi
        have hi2 : i < L.length := by omega
        refine ⟨fun q => absurd q (nI_ge hi2 (by omega)), fun _ => ?_⟩
        refine sp_isAhead (by omega) (by omega) (hL _ (getD_mem hi2)) (hL _ (getD_mem hw)) (hP i hi2) (hP w hw) ?_
        have h5 := ih (i + 1) (by omega)
        rw [getD_append L [] i hi2, List.countP_append] at h5
        by_cases q : pkN (L.getD i []) < pkN (L.getD w [])
        · rw [if_pos q]
          refine ⟨fun n => absurd n (by decide), fun _ => ?_⟩
          unfold B_X6_makes_117
          have e1 : List.countP (fun y => decide (pkN y < pkN (L.getD w []))) [L.getD i []] = 1 := by
            rw [List.countP_cons, if_pos (by simpa using q)]; rfl
          rw [e1] at h5
          rw [nI_1, nI_1]
          exact h5
        · rw [if_neg q]
          refine ⟨fun _ => ?_, fun n => absurd rfl n⟩
          unfold B_X6_makes_117
          have e1 : List.countP (fun y => decide (pkN y < pkN (L.getD w []))) [L.getD i []] = 0 := by
            rw [List.countP_cons, if_neg (by simpa using q)]; rfl
          rw [e1] at h5
          rw [Int32.add_zero, nI_1]
          exact h5
    exact ⟨L.length + 1, key L.length 0 (by omega)⟩
  have outer : ∀ m w (mo : Nat → Int32), w + m = L.length → (∀ j, j < w → mo (rk L (L.getD j [])) = nI j) → L_X6_makes_79 Q (m + 1) (nI w) mw ml mo (nI L.length) := by
    intro m
    induction m with
    | zero =>
      intro w mo hw hm
      refine ⟨fun _ => hQ mo (fun j hj => hm j (by omega)), fun q => absurd (nI_le (by omega) (by omega)) q⟩
    | succ m ih =>
      intro w mo hw hm
      have hw2 : w < L.length := by omega
      refine ⟨fun q => absurd q (nI_ge hw2 (by omega)), fun _ => inner _ w mo hw2 ?_⟩
      rw [nI_1]
      refine ih (w + 1) _ (by omega) (fun j hj => ?_)
      by_cases e : j = w
      · subst e; exact pk_us
      · rw [pk_un (hinj j w (by omega) hw2 e)]
        exact hm j (by omega)
  exact ⟨L.length + 1, outer L.length 0 mo (by omega) (fun j hj => absurd hj (Nat.not_lt_zero j))⟩
