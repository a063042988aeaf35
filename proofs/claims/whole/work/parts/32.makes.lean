/-! PURE 10c: the reference makes all ways, in order -/
theorem sp_makes {n : Nat} {mw ml mo : Nat → Int32} {gm : Int32} {Q : (Nat → Int32) → (Nat → Int32) → (Nat → Int32) → Int32 → Prop} (h1 : 1 ≤ n) (hn : n < 8000)
    (hQ : ∀ mw' ml' mo', MWs mw' ml' mo' (Ws n) → Q mw' ml' mo' (nI (Ws n).length)) : F_X6_makes (nI n) mw ml mo gm Q := by
  obtain ⟨f1, f2, f3, f4⟩ := raw_facts h1 hn
  have hmk := raw_mH h1 hn
  have hlen : (Ws n).length = (rawW n).length := (Ws_rank f2).2.length_eq
  have key : ∀ m h (L : List (List Nat)) (mw ml : Nat → Int32), h + m = 39 → L ++ (List.range' h m).flatMap (mH n) = rawW n → (∀ k, k < L.length → WA mw ml k (L.getD k [])) → L_X6_makes_7 Q (m + 1) (nI n) (nI h) mw ml mo (nI L.length) := by
    intro m
    induction m with
    | zero =>
      intro h L mw ml hh hT hP
      have hL : L = rawW n := by
        rw [← hT]
        show L = L ++ []
        rw [List.append_nil]
      subst hL
      refine ⟨fun _ => ?_, fun q => absurd (nI_le (a := 39) (by omega) (by omega)) q⟩
      refine sp_orders f1 (by omega) f2 hP (fun mo' hm => ?_)
      rw [← hlen]
      refine hQ _ _ _ (fun p hp => ?_)
      have hmem : (Ws n).getD p [] ∈ rawW n := (Ws_rank f2).2.mem_iff.mp (getD_mem hp)
      obtain ⟨j, hj, ej⟩ := List.getElem_of_mem hmem
      have ej2 : (rawW n).getD j [] = (Ws n).getD p [] := by
        rw [List.getD_eq_getElem?_getD, List.getElem?_eq_getElem hj]
        exact ej
      have h7 := hm j hj
      have h8 := hP j hj
      rw [ej2] at h7 h8
      rw [Ws_rk f2 hp] at h7
      exact ⟨j, by omega, h7, h8⟩
    | succ m ih =>
      intro h L mw ml hh hT hP
      rw [List.range'_succ, List.flatMap_cons] at hT
      have hLl : ∀ y ∈ L, wok y := fun y hy => f1 y (by rw [← hT]; exact List.mem_append_left _ hy)
      have hLlen : L.length + (mH n h).length ≤ 10 := by
        have e9 := congrArg List.length hT
        rw [List.length_append, List.length_append] at e9
        omega
      have hmw : ∀ v ∈ mH n h, wok v := fun v hv => f1 v (by rw [← hT]; exact List.mem_append_right _ (List.mem_append_left _ hv))
      have h39 : ¬ (39 : Int32) ≤ nI h := nI_ge (b := 39) (by omega) (by omega)
      have e200 : nI n - 200 * nI h = zI ((n : Int) - 200 * h) := by
        rw [show (200 : Int32) = zI 200 from rfl, ← zI_nat, ← zI_nat, zI_mul, zI_sub]
      have hnext : ∀ mw' ml' (L' : List (List Nat)), L' = L ++ mH n h → (∀ k, k < L'.length → WA mw' ml' k (L'.getD k [])) → B_X6_makes_71 (L_X6_makes_7 Q (m + 1)) Q (nI n) (nI h) mw' ml' mo (nI L'.length) := fun mw' ml' L' eL hP' => by
        unfold B_X6_makes_71
        rw [nI_1]
        refine ih (h + 1) L' mw' ml' (by omega) ?_ hP'
        rw [eL, List.append_assoc]
        exact hT
      have hskip : mH n h = [] → B_X6_makes_71 (L_X6_makes_7 Q (m + 1)) Q (nI n) (nI h) mw ml mo (nI L.length) := fun e => hnext mw ml L (by rw [e, List.append_nil]) hP
      have h49 : ¬ (h ≠ 1 ∧ n = 200 * h) → B_X6_makes_49 (L_X6_makes_7 Q (m + 1)) Q (nI n) (nI h) (zI ((n : Int) - 200 * h)) mw ml mo (nI L.length) := fun hne => by
        unfold B_X6_makes_49
        refine ⟨fun q => ?_, fun q => ⟨fun q2 => ?_, fun q2 => ⟨fun q3 => ?_, fun q3 => ?_⟩⟩⟩
        · have e1 : h = 1 := (nI_eq (b := 1) (by omega) (by omega)).mp q
          exact hskip (by unfold mH; rw [if_neg (by omega)])
        · rw [show (0 : Int32) = zI 0 from rfl, zI_le (by omega) (by omega) (by omega) (by omega)] at q2
          have hne1 : h ≠ 1 := fun e => q (by rw [e]; rfl)
          exact hskip (by unfold mH; rw [if_neg (by omega)])
        · rw [show (400 : Int32) = zI 400 from rfl, zI_le (by omega) (by omega) (by omega) (by omega)] at q3
          exact hskip (by unfold mH; rw [if_neg (by omega)])
        · rw [show (0 : Int32) = zI 0 from rfl, zI_le (by omega) (by omega) (by omega) (by omega)] at q2
          rw [show (400 : Int32) = zI 400 from rfl, zI_le (by omega) (by omega) (by omega) (by omega)] at q3
          have hne1 : h ≠ 1 := fun e => q (by rw [e]; rfl)
          have ez : zI ((n : Int) - 200 * h) = nI (n - 200 * h) := by
            rw [← zI_nat]; congr 1; omega
          have em : mH n h = (smL (n - 200 * h)).map (fun v => frG h ++ v) := by
            unfold mH
            rw [if_pos (by omega)]
            by_cases e0 : h = 0
            · subst e0
              rw [if_pos rfl]
              have : (fun v : List Nat => frG 0 ++ v) = id := by funext v; rfl
              rw [this, List.map_id]
              rfl
            · rw [if_neg e0]
              unfold grL frG
              rw [if_neg (by omega), if_neg e0]
              congr 1
              funext v
              rw [List.append_assoc]; rfl
          rw [ez]
          refine sp_smalls (by omega) (by omega) (by omega) hLl (fun v hv => hmw _ (by rw [em]; exact List.mem_map.mpr ⟨v, hv, rfl⟩)) (by rw [em, List.length_map] at hLlen; omega) hP (fun mw' ml' hP' => ?_)
          exact hnext mw' ml' _ (by rw [em]) hP'
      refine ⟨fun q => absurd q h39, fun _ => ?_⟩
      rw [e200]
      refine ⟨fun q => h49 (fun n => n.1 ((nI_eq (b := 1) (by omega) (by omega)).mp q)), fun q => ⟨fun q2 => ?_, fun q2 => h49 (fun n9 => q2 ?_)⟩⟩
      · rw [show (0 : Int32) = zI 0 from rfl, zI_eq (by omega) (by omega) (by omega) (by omega)] at q2
        have hne1 : h ≠ 1 := fun e => q (by rw [e]; rfl)
        have hne0 : h ≠ 0 := by omega
        have em : mH n h = [cnt h 71] := by
          unfold mH
          rw [if_pos (by omega), if_neg hne0]
          unfold grL
          rw [if_pos (by omega)]
        refine sp_begins (e := cnt h 71) (by omega) hLl (by omega) (Or.inr ⟨rfl, hne0, rfl⟩) hP (fun mw' ml' hP' => ?_)
        have h5 := hnext mw' ml' (L ++ [cnt h 71]) (by rw [em]) (MP_done hP')
        rw [List.length_append] at h5
        rw [nI_1]
        exact h5
      · rw [show (0 : Int32) = zI 0 from rfl]
        congr 1; omega
  exact ⟨39 + 1, key 39 0 [] mw ml rfl (by rw [List.nil_append]; exact hmk) (fun k hk => absurd hk (Nat.not_lt_zero k))⟩
