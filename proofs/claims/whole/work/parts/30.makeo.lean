/-! PURE 10: the reference orders the ways -/
theorem sp_isAhead {mw ml : Nat → Int32} {j1 j2 : Nat} {u v : List Nat} {Q : Int32 → Prop} (h1 : j1 < 16) (h2 : j2 < 16) (hu : wok u) (hv : wok v) (a1 : WA mw ml j1 u) (a2 : WA mw ml j2 v) (hQ : Q (if pkN u < pkN v then 1 else 0)) : F_X6_isAhead (nI j1) (nI j2) mw ml Q := by
  obtain ⟨l1, m1⟩ := a1
  obtain ⟨l2, m2⟩ := a2
  have e1 : (nI j1).toNatClampNeg = j1 := nI_clamp (by omega)
  have e2 : (nI j2).toNatClampNeg = j2 := nI_clamp (by omega)
  have hu9 := hu.2
  have hv9 := hv.2
  have i1 := vp_in_nI h1 (show 16 < 2 ^ 31 by decide)
  have i2 := vp_in_nI h2 (show 16 < 2 ^ 31 by decide)
  have x1 : ∀ k : Nat, (10 : Int32) * nI j1 + nI k = nI (10 * j1 + k) := fun k => by rw [show (10 : Int32) = nI 10 from rfl, pk_mul, nI_add]
  have x2 : ∀ k : Nat, (10 : Int32) * nI j2 + nI k = nI (10 * j2 + k) := fun k => by rw [show (10 : Int32) = nI 10 from rfl, pk_mul, nI_add]
  unfold F_X6_isAhead B_X6_isAhead_0 B_X6_isAhead_35
  rw [e1, e2, l1, l2]
  have h118 : ¬ pkN u < pkN v → B_X6_isAhead_118 Q mw ml := fun q => by
    rw [if_neg q] at hQ
    exact ⟨isBo0, hQ⟩
  have h119 : pkN u < pkN v → B_X6_isAhead_119 Q mw ml 1 := fun q => by
    rw [if_pos q] at hQ
    exact ⟨isBo1, hQ⟩
  refine ⟨i1, i2, fun q => ?_, fun q => ⟨i1, i2, fun q2 => ⟨isBo0, ?_⟩, fun q2 => ⟨isBo1, ?_⟩⟩⟩
  · have hl : u.length = v.length := (nI_eq (by omega) (by omega)).mp q
    have h79 : ∀ k, k ≤ u.length → (∀ i, i < k → u.getD i 0 = v.getD i 0) → (k < u.length → u.getD k 0 ≠ v.getD k 0) → B_X6_isAhead_79 Q mw ml (nI j1) (nI j2) (nI k) := fun k hk he hne => by
      unfold B_X6_isAhead_79
      rw [e1, l1]
      refine ⟨i1, fun q => ?_, fun q => ?_⟩
      · have hk2 : k = u.length := by
          have := (nI_leI (by omega) (by omega)).mp q
          omega
        have euv : u = v := list_eqD u v hl (fun i hi => he i (by omega))
        refine h118 ?_
        rw [euv]; exact Nat.lt_irrefl _
      · have hk2 : k < u.length := Classical.byContradiction fun n => q (nI_le (by omega) (by omega))
        have hl2 := lex_lt u v hu.1 hv.1 hl k he hk2 (hne hk2)
        have bu : u.getD k 0 < 128 := by
          rw [List.getD_eq_getElem?_getD, List.getElem?_eq_getElem hk2]
          exact (hu.1 _ (List.getElem_mem _)).2
        have bv : v.getD k 0 < 128 := by
          rw [List.getD_eq_getElem?_getD, List.getElem?_eq_getElem (by omega)]
          exact (hv.1 _ (List.getElem_mem _)).2
        rw [x1, x2, nI_clamp (by omega), nI_clamp (by omega), m1 k hk2, m2 k (by omega)]
        refine ⟨vp_in_nI (by omega) (by decide), vp_in_nI (by omega) (by decide), fun q3 => ?_, fun q3 => ?_⟩
        · have := (nI_leI (by omega) (by omega)).mp q3
          refine h118 (fun n => ?_)
          have := hl2.mp n
          omega
        · have : ¬ v.getD k 0 ≤ u.getD k 0 := fun n => q3 (nI_le n (by omega))
          exact h119 (hl2.mpr (by omega))
    have key : ∀ m k, k + m = u.length → (∀ i, i < k → u.getD i 0 = v.getD i 0) → L_X6_isAhead_38 Q mw ml (m + 1) (nI j1) (nI j2) (nI k) := by
      intro m
      induction m with
      | zero =>
        intro k hk he
        refine ⟨i1, fun q => h79 k (by omega) he (fun n => absurd n (by omega)), fun q => ?_⟩
        rw [e1, l1] at q
        exact absurd (nI_le (by omega) (by omega)) q
      | succ m ih =>
        intro k hk he
        have hk2 : k < u.length := by omega
        have bu : u.getD k 0 < 128 := by
          rw [List.getD_eq_getElem?_getD, List.getElem?_eq_getElem hk2]
          exact (hu.1 _ (List.getElem_mem _)).2
        have bv : v.getD k 0 < 128 := by
          rw [List.getD_eq_getElem?_getD, List.getElem?_eq_getElem (by omega)]
          exact (hv.1 _ (List.getElem_mem _)).2
        refine ⟨i1, fun q => ?_, fun q => ?_⟩
        · rw [e1, l1] at q
          exact absurd q (nI_ge hk2 (by omega))
        · rw [x1, x2, nI_clamp (by omega), nI_clamp (by omega), m1 k hk2, m2 k (by omega)]
          refine ⟨vp_in_nI (by omega) (by decide), vp_in_nI (by omega) (by decide), fun q3 => ?_, fun q3 => ?_⟩
          · have e := (nI_eq (by omega) (by omega)).mp q3
            rw [nI_1]
            refine ih (k + 1) (by omega) (fun i hi => ?_)
            by_cases e9 : i = k
            · rw [e9]; exact e
            · exact he i (by omega)
          · exact h79 k (by omega) he (fun _ n => q3 (by rw [n]))
    exact ⟨u.length + 1, key u.length 0 (by omega) (fun i hi => absurd hi (Nat.not_lt_zero i))⟩
  · have hle := (nI_leI (by omega) (by omega)).mp q2
    have hne : u.length ≠ v.length := fun n => q (by rw [n])
    have := pk_short hv.1 hu.1 (by omega)
    rw [if_neg (by omega)] at hQ
    exact hQ
  · have hlt : u.length < v.length := Classical.byContradiction fun n => q2 (nI_le (by omega) (by omega))
    have := pk_short hu.1 hv.1 hlt
    rw [if_pos this] at hQ
    exact hQ
/-- the ways W stand in their order -/
def MWs (mw ml mo : Nat → Int32) (W : List (List Nat)) : Prop := ∀ p, p < W.length → ∃ j, j < 16 ∧ mo p = nI j ∧ WA mw ml j (W.getD p [])
theorem getD_append {α : Type} (L : List α) (d : α) (j : Nat) (hj : j < L.length) : L.take (j + 1) = L.take j ++ [L.getD j d] := by
  rw [List.take_succ, List.getD_eq_getElem?_getD, List.getElem?_eq_getElem hj]
  rfl
theorem sp_orders {mw ml mo : Nat → Int32} {L : List (List Nat)} {Q : (Nat → Int32) → (Nat → Int32) → (Nat → Int32) → Int32 → Prop} (hL : ∀ y ∈ L, wok y) (hl : L.length ≤ 16) (hd : L.Pairwise (fun a b => pkN a ≠ pkN b)) (hP : ∀ k, k < L.length → WA mw ml k (L.getD k []))
    (hQ : ∀ mo', (∀ j, j < L.length → mo' (rk L (L.getD j [])) = nI j) → Q mw ml mo' (nI L.length)) : ∃ n9 : Nat, L_X6_makes_79 Q n9 0 mw ml mo (nI L.length) := by
  have hinj : ∀ i j, i < L.length → j < L.length → i ≠ j → rk L (L.getD i []) ≠ rk L (L.getD j []) := fun i j hi hj hij => by
    have hpk : pkN (L.getD i []) ≠ pkN (L.getD j []) := by
      rw [List.getD_eq_getElem?_getD, List.getD_eq_getElem?_getD, List.getElem?_eq_getElem hi, List.getElem?_eq_getElem hj]
      rw [List.pairwise_iff_getElem] at hd
      rcases Nat.lt_or_ge i j with q | q
      · exact hd i j hi hj q
      · exact (hd j i hj hi (by omega)).symm
    rcases Nat.lt_or_ge (pkN (L.getD i [])) (pkN (L.getD j [])) with q | q
    · have := rk_lt (getD_mem hi) q; omega
    · have := rk_lt (L := L) (getD_mem hj) (show pkN (L.getD j []) < pkN (L.getD i []) by omega); omega
  have inner : ∀ (kh : Int32 → (Nat → Int32) → (Nat → Int32) → (Nat → Int32) → Int32 → Prop) (w : Nat) (mo : Nat → Int32), w < L.length → kh (nI w + 1) mw ml (upd mo (rk L (L.getD w [])) (nI w)) (nI L.length) →
      ∃ n9 : Nat, L_X6_makes_92 kh Q n9 (nI w) 0 0 mw ml mo (nI L.length) := fun kh w mo hw hk => by
    have key : ∀ m i, i + m = L.length → L_X6_makes_92 kh Q (m + 1) (nI w) (nI ((L.take i).countP (fun y => decide (pkN y < pkN (L.getD w []))))) (nI i) mw ml mo (nI L.length) := by
      intro m
      induction m with
      | zero =>
        intro i hi
        have hi : i = L.length := by omega
        subst hi
        rw [List.take_length]
        have hb := rk_bound (getD_mem hw)
        refine ⟨fun _ => ⟨vp_in_nI (show rk L (L.getD w []) < 16 by omega) (by decide), ?_⟩, fun q => absurd (nI_le (Nat.le_refl _) (by omega)) q⟩
        have ec : (nI (L.countP (fun y => decide (pkN y < pkN (L.getD w []))))).toNatClampNeg = rk L (L.getD w []) := nI_clamp (show rk L (L.getD w []) < _ by omega)
        rw [ec]
        exact hk
      | succ m ih =>
        intro i hi
        have hi2 : i < L.length := by omega
        refine ⟨fun q => absurd q (nI_ge hi2 (by omega)), fun _ => ?_⟩
        refine sp_isAhead (by omega) (by omega) (hL _ (getD_mem hi2)) (hL _ (getD_mem hw)) (hP i hi2) (hP w hw) ?_
        have h5 := ih (i + 1) (by omega)
        rw [getD_append L [] i hi2, List.countP_append] at h5
        by_cases q : pkN (L.getD i []) < pkN (L.getD w [])
        · rw [if_pos q]
          refine ⟨fun n => absurd n (by decide), fun _ => ?_⟩
          unfold B_X6_makes_117
          have e1 : List.countP (fun y => decide (pkN y < pkN (L.getD w []))) [L.getD i []] = 1 := by
            rw [List.countP_cons, if_pos (by simpa using q)]; rfl
          rw [e1] at h5
          rw [nI_1, nI_1]
          exact h5
        · rw [if_neg q]
          refine ⟨fun _ => ?_, fun n => absurd rfl n⟩
          unfold B_X6_makes_117
          have e1 : List.countP (fun y => decide (pkN y < pkN (L.getD w []))) [L.getD i []] = 0 := by
            rw [List.countP_cons, if_neg (by simpa using q)]; rfl
          rw [e1] at h5
          rw [Int32.add_zero, nI_1]
          exact h5
    exact ⟨L.length + 1, key L.length 0 (by omega)⟩
  have outer : ∀ m w (mo : Nat → Int32), w + m = L.length → (∀ j, j < w → mo (rk L (L.getD j [])) = nI j) → L_X6_makes_79 Q (m + 1) (nI w) mw ml mo (nI L.length) := by
    intro m
    induction m with
    | zero =>
      intro w mo hw hm
      refine ⟨fun _ => hQ mo (fun j hj => hm j (by omega)), fun q => absurd (nI_le (by omega) (by omega)) q⟩
    | succ m ih =>
      intro w mo hw hm
      have hw2 : w < L.length := by omega
      refine ⟨fun q => absurd q (nI_ge hw2 (by omega)), fun _ => inner _ w mo hw2 ?_⟩
      rw [nI_1]
      refine ih (w + 1) _ (by omega) (fun j hj => ?_)
      by_cases e : j = w
      · subst e; exact pk_us
      · rw [pk_un (hinj j w (by omega) hw2 e)]
        exact hm j (by omega)
  exact ⟨L.length + 1, outer L.length 0 mo (by omega) (fun j hj => absurd hj (Nat.not_lt_zero j))⟩
def mH (n h : Nat) : List (List Nat) := if h ≠ 1 ∧ 200 * h ≤ n ∧ n < 200 * h + 400 then (if h = 0 then smL n else grL h (n - 200 * h)) else []
theorem hs_eq : ∀ q, q < 40 → (List.range' 1 38).filter (fun h => decide (h ≠ 1 ∧ h ≤ q ∧ q < h + 2)) = List.range' (max 2 (q - 1)) (min 38 q + 1 - max 2 (q - 1)) := by decide +kernel
theorem flatMap_if {p : Nat → Prop} [DecidablePred p] {g : Nat → List (List Nat)} : ∀ l : List Nat, l.flatMap (fun h => if p h then g h else []) = (l.filter (fun h => decide (p h))).flatMap g
  | [] => rfl
  | x :: l => by
    rw [List.flatMap_cons, flatMap_if l, List.filter_cons]
    by_cases q : p x
    · rw [if_pos q, if_pos (by simpa using q), List.flatMap_cons]
    · rw [if_neg q, if_neg (by simpa using q)]; rfl
theorem raw_mH {n : Nat} (h1 : 1 ≤ n) (hn : n < 8000) : (List.range' 0 39).flatMap (mH n) = rawW n := by
  have e0 : List.range' 0 39 = 0 :: List.range' 1 38 := rfl
  rw [e0, List.flatMap_cons]
  unfold rawW
  congr 1
  · unfold mH
    by_cases q : n < 400
    · rw [if_pos ⟨by decide, by omega, by omega⟩, if_pos q, if_pos rfl]
    · rw [if_neg (by omega), if_neg q]
  · have e1 : (List.range' 1 38).flatMap (mH n) = (List.range' 1 38).flatMap (fun h => if h ≠ 1 ∧ h ≤ n / 200 ∧ n / 200 < h + 2 then grL h (n - 200 * h) else []) := by
      have : ∀ l : List Nat, (∀ h ∈ l, h ≠ 0) → l.flatMap (mH n) = l.flatMap (fun h => if h ≠ 1 ∧ h ≤ n / 200 ∧ n / 200 < h + 2 then grL h (n - 200 * h) else []) := by
        intro l
        induction l with
        | nil => intro _; rfl
        | cons x l ih =>
          intro hl
          rw [List.flatMap_cons, List.flatMap_cons, ih (fun h hh => hl h (List.mem_cons_of_mem _ hh))]
          congr 1
          have hx := hl x List.mem_cons_self
          unfold mH
          by_cases q : x ≠ 1 ∧ 200 * x ≤ n ∧ n < 200 * x + 400
          · rw [if_pos q, if_neg hx, if_pos (by omega)]
          · rw [if_neg q, if_neg (by omega)]
      refine this _ (fun h hh => ?_)
      rw [List.mem_range'_1] at hh
      omega
    rw [e1, flatMap_if, hs_eq (n / 200) (by omega)]
    rfl
theorem sp_makes {n : Nat} {mw ml mo : Nat → Int32} {gm : Int32} {Q : (Nat → Int32) → (Nat → Int32) → (Nat → Int32) → Int32 → Prop} (h1 : 1 ≤ n) (hn : n < 8000)
    (hQ : ∀ mw' ml' mo', MWs mw' ml' mo' (Ws n) → Q mw' ml' mo' (nI (Ws n).length)) : F_X6_makes (nI n) mw ml mo gm Q := by
  obtain ⟨f1, f2, f3, f4⟩ := raw_facts h1 hn
  have hmk := raw_mH h1 hn
  have hlen : (Ws n).length = (rawW n).length := (Ws_rank f2).2.length_eq
  have key : ∀ m h (L : List (List Nat)) (mw ml : Nat → Int32), h + m = 39 → L ++ (List.range' h m).flatMap (mH n) = rawW n → (∀ k, k < L.length → WA mw ml k (L.getD k [])) → L_X6_makes_7 Q (m + 1) (nI n) (nI h) mw ml mo (nI L.length) := by
    intro m
    induction m with
    | zero =>
      intro h L mw ml hh hT hP
      have hL : L = rawW n := by
        rw [← hT]
        show L = L ++ []
        rw [List.append_nil]
      subst hL
      refine ⟨fun _ => ?_, fun q => absurd (nI_le (a := 39) (by omega) (by omega)) q⟩
      refine sp_orders f1 (by omega) f2 hP (fun mo' hm => ?_)
      rw [← hlen]
      refine hQ _ _ _ (fun p hp => ?_)
      have hmem : (Ws n).getD p [] ∈ rawW n := (Ws_rank f2).2.mem_iff.mp (getD_mem hp)
      obtain ⟨j, hj, ej⟩ := List.getElem_of_mem hmem
      have ej2 : (rawW n).getD j [] = (Ws n).getD p [] := by
        rw [List.getD_eq_getElem?_getD, List.getElem?_eq_getElem hj]
        exact ej
      have h7 := hm j hj
      have h8 := hP j hj
      rw [ej2] at h7 h8
      rw [Ws_rk f2 hp] at h7
      exact ⟨j, by omega, h7, h8⟩
    | succ m ih =>
      intro h L mw ml hh hT hP
      rw [List.range'_succ, List.flatMap_cons] at hT
      have hLl : ∀ y ∈ L, wok y := fun y hy => f1 y (by rw [← hT]; exact List.mem_append_left _ hy)
      have hLlen : L.length + (mH n h).length ≤ 10 := by
        have e9 := congrArg List.length hT
        rw [List.length_append, List.length_append] at e9
        omega
      have hmw : ∀ v ∈ mH n h, wok v := fun v hv => f1 v (by rw [← hT]; exact List.mem_append_right _ (List.mem_append_left _ hv))
      have h39 : ¬ (39 : Int32) ≤ nI h := nI_ge (b := 39) (by omega) (by omega)
      have e200 : nI n - 200 * nI h = zI ((n : Int) - 200 * h) := by
        rw [show (200 : Int32) = zI 200 from rfl, ← zI_nat, ← zI_nat, zI_mul, zI_sub]
      have hnext : ∀ mw' ml' (L' : List (List Nat)), L' = L ++ mH n h → (∀ k, k < L'.length → WA mw' ml' k (L'.getD k [])) → B_X6_makes_71 (L_X6_makes_7 Q (m + 1)) Q (nI n) (nI h) mw' ml' mo (nI L'.length) := fun mw' ml' L' eL hP' => by
        unfold B_X6_makes_71
        rw [nI_1]
        refine ih (h + 1) L' mw' ml' (by omega) ?_ hP'
        rw [eL, List.append_assoc]
        exact hT
      have hskip : mH n h = [] → B_X6_makes_71 (L_X6_makes_7 Q (m + 1)) Q (nI n) (nI h) mw ml mo (nI L.length) := fun e => hnext mw ml L (by rw [e, List.append_nil]) hP
      have h49 : ¬ (h ≠ 1 ∧ n = 200 * h) → B_X6_makes_49 (L_X6_makes_7 Q (m + 1)) Q (nI n) (nI h) (zI ((n : Int) - 200 * h)) mw ml mo (nI L.length) := fun hne => by
        unfold B_X6_makes_49
        refine ⟨fun q => ?_, fun q => ⟨fun q2 => ?_, fun q2 => ⟨fun q3 => ?_, fun q3 => ?_⟩⟩⟩
        · have e1 : h = 1 := (nI_eq (b := 1) (by omega) (by omega)).mp q
          exact hskip (by unfold mH; rw [if_neg (by omega)])
        · rw [show (0 : Int32) = zI 0 from rfl, zI_le (by omega) (by omega) (by omega) (by omega)] at q2
          have hne1 : h ≠ 1 := fun e => q (by rw [e]; rfl)
          exact hskip (by unfold mH; rw [if_neg (by omega)])
        · rw [show (400 : Int32) = zI 400 from rfl, zI_le (by omega) (by omega) (by omega) (by omega)] at q3
          exact hskip (by unfold mH; rw [if_neg (by omega)])
        · rw [show (0 : Int32) = zI 0 from rfl, zI_le (by omega) (by omega) (by omega) (by omega)] at q2
          rw [show (400 : Int32) = zI 400 from rfl, zI_le (by omega) (by omega) (by omega) (by omega)] at q3
          have hne1 : h ≠ 1 := fun e => q (by rw [e]; rfl)
          have ez : zI ((n : Int) - 200 * h) = nI (n - 200 * h) := by
            rw [← zI_nat]; congr 1; omega
          have em : mH n h = (smL (n - 200 * h)).map (fun v => frG h ++ v) := by
            unfold mH
            rw [if_pos (by omega)]
            by_cases e0 : h = 0
            · subst e0
              rw [if_pos rfl]
              have : (fun v : List Nat => frG 0 ++ v) = id := by funext v; rfl
              rw [this, List.map_id]
              rfl
            · rw [if_neg e0]
              unfold grL frG
              rw [if_neg (by omega), if_neg e0]
              congr 1
              funext v
              rw [List.append_assoc]; rfl
          rw [ez]
          refine sp_smalls (by omega) (by omega) (by omega) hLl (fun v hv => hmw _ (by rw [em]; exact List.mem_map.mpr ⟨v, hv, rfl⟩)) (by rw [em, List.length_map] at hLlen; omega) hP (fun mw' ml' hP' => ?_)
          exact hnext mw' ml' _ (by rw [em]) hP'
      refine ⟨fun q => absurd q h39, fun _ => ?_⟩
      rw [e200]
      refine ⟨fun q => h49 (fun n => n.1 ((nI_eq (b := 1) (by omega) (by omega)).mp q)), fun q => ⟨fun q2 => ?_, fun q2 => h49 (fun n9 => q2 ?_)⟩⟩
      · rw [show (0 : Int32) = zI 0 from rfl, zI_eq (by omega) (by omega) (by omega) (by omega)] at q2
        have hne1 : h ≠ 1 := fun e => q (by rw [e]; rfl)
        have hne0 : h ≠ 0 := by omega
        have em : mH n h = [cnt h 71] := by
          unfold mH
          rw [if_pos (by omega), if_neg hne0]
          unfold grL
          rw [if_pos (by omega)]
        refine sp_begins (e := cnt h 71) (by omega) hLl (by omega) (Or.inr ⟨rfl, hne0, rfl⟩) hP (fun mw' ml' hP' => ?_)
        have h5 := hnext mw' ml' (L ++ [cnt h 71]) (by rw [em]) (MP_done hP')
        rw [List.length_append] at h5
        rw [nI_1]
        exact h5
      · rw [show (0 : Int32) = zI 0 from rfl]
        congr 1; omega
  exact ⟨40, key 39 0 [] mw ml rfl hmk (fun k hk => absurd hk (Nat.not_lt_zero k))⟩
