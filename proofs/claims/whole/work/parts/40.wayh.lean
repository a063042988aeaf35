/-! PURE 18: what both sides do with the ways -/
/-- the first place from k on, of n, where b isn't 0 -/
def fstN (b : Nat → Int32) : Nat → Nat → Option Nat
  | _, 0 => none
  | k, n + 1 => if b k = 0 then fstN b (k + 1) n else some k
theorem fstN_lt {b : Nat → Int32} : ∀ (n k p : Nat), fstN b k n = some p → p < k + n
  | 0, _, _, h => by cases h
  | n + 1, k, p, h => by
    unfold fstN at h
    by_cases q : b k = 0
    · rw [if_pos q] at h
      have := fstN_lt n (k + 1) p h
      omega
    · rw [if_neg q] at h
      have := Option.some.inj h
      omega
theorem fstN_congr {b b' : Nat → Int32} : ∀ (n k : Nat), (∀ i, k ≤ i → i < k + n → b i = b' i) → fstN b k n = fstN b' k n
  | 0, _, _ => rfl
  | n + 1, k, h => by
    unfold fstN
    rw [h k (Nat.le_refl _) (by omega), fstN_congr n (k + 1) (fun i h1 h2 => h i (by omega) (by omega))]
def WX4 (sd : Nat → Int64) (W : List (List Nat)) : Prop := ∀ i, i < W.length → sd i = pkL (W.getD i [])
section WH
variable {W : List (List Nat)} {sd : Nat → Int64}
theorem sp_at {p : Nat} {Q : Int64 → Prop} (hS : WX4 sd W) (hl : W.length ≤ 16) (hp : p < W.length) (h : Q (pkL (W.getD p []))) : F_X4_at (nI p) sd Q := by
  refine ⟨fun q => absurd q (nI_pos (by omega)), fun _ => ⟨fun q => absurd q (nI_ge (b := 16) (by omega) (by omega)), fun _ => ⟨vp_in_nI (by omega) (by decide), ?_⟩⟩⟩
  rw [nI_clamp (show p < 2147483648 by omega), hS p hp]
  exact h
def isStI (st : Nat) (w : List Nat) : Int32 := if st = 1 then hasC w 72 else if st = 2 then hasC w 45 else if st = 3 then (if hasC w 72 = 0 then (if hasC w 45 = 0 then 1 else 0) else 0) else 1
theorem sp_isOfStyle {w : List Nat} {st : Nat} {Q : Int32 → Prop} (hw : wok w) (hs : st ≤ 3) (h : Q (isStI st w)) : F_X4_isOfStyle (pkL w) (nI st) Q := by
  unfold isStI at h
  refine ⟨fun q => ?_, fun q1 => ⟨fun q => ?_, fun q2 => ⟨fun q => ?_, fun q3 => ?_⟩⟩⟩
  · have e : st = 1 := (nI_eq (b := 1) (by omega) (by omega)).mp q
    rw [if_pos e] at h
    exact sp_hasX (c := 72) hw.1 hw.2 (by omega) (by omega) ⟨hasC_bo _ _, h⟩
  · have e : st = 2 := (nI_eq (b := 2) (by omega) (by omega)).mp q
    rw [if_neg (by omega), if_pos e] at h
    exact sp_hasX (c := 45) hw.1 hw.2 (by omega) (by omega) ⟨hasC_bo _ _, h⟩
  · have e : st = 3 := (nI_eq (b := 3) (by omega) (by omega)).mp q
    rw [if_neg (by omega), if_neg (by omega), if_pos e] at h
    refine sp_hasX (c := 72) hw.1 hw.2 (by omega) (by omega) ⟨fun z => sp_hasX (c := 45) hw.1 hw.2 (by omega) (by omega) ⟨fun y => ?_, fun y => ?_⟩, fun z => ?_⟩
    · rw [if_pos z, if_pos y] at h; exact ⟨isBo1, h⟩
    · rw [if_pos z, if_neg y] at h; exact ⟨isBo0, h⟩
    · rw [if_neg z] at h; exact ⟨isBo0, h⟩
  · have e1 : st ≠ 1 := fun e => q1 (by rw [e]; rfl)
    have e2 : st ≠ 2 := fun e => q2 (by rw [e]; rfl)
    have e3 : st ≠ 3 := fun e => q3 (by rw [e]; rfl)
    rw [if_neg e1, if_neg e2, if_neg e3] at h
    exact h
/-- the place of the way of a style -/
def stP (W : List (List Nat)) (st : Nat) : Nat := (fstN (fun p => isStI st (W.getD p [])) 0 W.length).getD 0
theorem stP_lt {st : Nat} (h : 1 ≤ W.length) : stP W st < W.length := by
  unfold stP
  cases e : fstN (fun p => isStI st (W.getD p [])) 0 W.length with
  | none => exact h
  | some p =>
    have := fstN_lt _ _ _ e
    show p < _
    omega
theorem sp_placeOfStyle {st : Nat} {Q : Int32 → Prop} (hS : WX4 sd W) (hl : W.length ≤ 16) (hW : ∀ v ∈ W, wok v) (hs : st ≤ 3) (h : Q (nI (stP W st))) : F_X4_placeOfStyle (nI st) (nI W.length) sd Q := by
  have key : ∀ m k, k + m = W.length → Q (nI ((fstN (fun p => isStI st (W.getD p [])) k m).getD 0)) → L_X4_placeOfStyle_2 Q (nI W.length) sd (m + 1) (nI st) (nI k) := by
    intro m
    induction m with
    | zero =>
      intro k hk hq
      exact ⟨fun _ => hq, fun q => absurd (nI_le (by omega) (by omega)) q⟩
    | succ m ih =>
      intro k hk hq
      have hk2 : k < W.length := by omega
      refine ⟨fun q => absurd q (nI_ge hk2 (by omega)), fun _ => sp_at hS hl hk2 (sp_isOfStyle (hW _ (getD_mem hk2)) hs ⟨fun z => ?_, fun z => ?_⟩)⟩
      · unfold fstN at hq
        rw [if_pos z] at hq
        rw [nI_1]
        exact ih (k + 1) (by omega) hq
      · unfold fstN at hq
        rw [if_neg z] at hq
        exact hq
  exact ⟨W.length + 1, key W.length 0 (by omega) h⟩
end WH
section WM6
variable {W : List (List Nat)} {mw ml mo : Nat → Int32}
theorem sp_hasM {j ch : Nat} {w : List Nat} {Q : Int32 → Prop} (hj : j < 16) (hA : WA mw ml j w) (hw : wok w) (hc : ch < 128) (hQ : Q (hasC w ch)) : F_X6_has (nI j) (nI ch) mw ml Q := by
  obtain ⟨a1, a2⟩ := hA
  have hw9 := hw.2
  have ij := vp_in_nI hj (show 16 < 2 ^ 31 by decide)
  have ej : (nI j).toNatClampNeg = j := nI_clamp (by omega)
  have key : ∀ m i, i + m = w.length → L_X6_has_5 Q mw ml (m + 1) (nI j) (nI ch) (hasC (w.take i) ch) (nI i) := by
    intro m
    induction m with
    | zero =>
      intro i hi
      have hi : i = w.length := by omega
      subst hi
      rw [List.take_length]
      refine ⟨ij, fun _ => ⟨hasC_bo _ _, hQ⟩, fun q => ?_⟩
      rw [ej, a1] at q
      exact absurd (nI_le (Nat.le_refl _) (by omega)) q
    | succ m ih =>
      intro i hi
      have hi2 : i < w.length := by omega
      have h5 := ih (i + 1) (by omega)
      rw [getD_append w 0 i hi2] at h5
      have hd : w.getD i 0 < 128 := by
        rw [List.getD_eq_getElem?_getD, List.getElem?_eq_getElem hi2]
        exact (hw.1 _ (List.getElem_mem _)).2
      have e10 : (10 : Int32) * nI j + nI i = nI (10 * j + i) := by rw [show (10 : Int32) = nI 10 from rfl, pk_mul, nI_add]
      refine ⟨ij, fun q => ?_, fun _ => ⟨fun q => ?_, fun q => ?_⟩⟩
      · rw [ej, a1] at q
        exact absurd q (nI_ge hi2 (by omega))
      · rw [e10, nI_clamp (show 10 * j + i < 2147483648 by omega), a2 i hi2]
        have hn : ch ∉ w.take i := fun n => by
          unfold hasC at q
          rw [if_pos n] at q
          exact absurd q (by decide)
        refine ⟨vp_in_nI (by omega) (by decide), fun q2 => ?_, fun q2 => ?_⟩
        · unfold B_X6_has_36 B_X6_has_41
          have e := code_eq hd hc q2
          have e1 : hasC (w.take i ++ [w.getD i 0]) ch = 1 := by
            unfold hasC
            rw [if_pos (List.mem_append_right _ (by rw [e]; exact List.mem_singleton_self _))]
          rw [e1] at h5
          rw [nI_1]; exact h5
        · unfold B_X6_has_41
          have e1 : hasC (w.take i ++ [w.getD i 0]) ch = 0 := by
            unfold hasC
            rw [if_neg]
            intro n
            rcases List.mem_append.mp n with n | n
            · exact hn n
            · exact q2 (by rw [List.mem_singleton.mp n])
          rw [e1] at h5
          rw [nI_1]; exact h5
      · unfold B_X6_has_36 B_X6_has_41
        have hm : ch ∈ w.take i := Classical.byContradiction fun n => q (by unfold hasC; rw [if_neg n])
        have e1 : hasC (w.take i ++ [w.getD i 0]) ch = 1 := by
          unfold hasC
          rw [if_pos (List.mem_append_left _ hm)]
        rw [e1] at h5
        rw [nI_1]; exact h5
  have h0 := key w.length 0 (by omega)
  have e : hasC (w.take 0) ch = 0 := by
    unfold hasC
    rw [List.take_zero, if_neg (fun n => by cases n)]
  rw [e] at h0
  exact ⟨w.length + 1, h0⟩
theorem sp_says {p : Nat} {my : Nat → Int32} {Q : Int32 → (Nat → Int32) → Prop} (hM : MWs mw ml mo W) (hl : W.length ≤ 16) (hW : ∀ v ∈ W, wok v) (hp : p < W.length) (hQ : ∀ my', SAY my' (W.getD p []) → Q (nI (W.getD p []).length) my') : F_X6_says (nI p) mw ml mo my Q := by
  obtain ⟨j, hj, e1, a1, a2⟩ := hM p hp
  have hw := hW _ (getD_mem hp)
  have hw9 := hw.2
  generalize W.getD p [] = w at *
  have ij := vp_in_nI hj (show 16 < 2 ^ 31 by decide)
  have ej : (nI j).toNatClampNeg = j := nI_clamp (by omega)
  have key : ∀ m i (my' : Nat → Int32), i + m = w.length → (∀ k, k < i → my' k = nI (w.getD k 0)) → L_X6_says_9 Q mw ml mo (m + 1) (nI j) (nI i) my' := by
    intro m
    induction m with
    | zero =>
      intro i my' hi hk
      have hi : i = w.length := by omega
      subst hi
      refine ⟨ij, fun _ => ⟨ij, ?_⟩, fun q => ?_⟩
      · rw [ej, a1]; exact hQ my' hk
      · rw [ej, a1] at q
        exact absurd (nI_le (Nat.le_refl _) (by omega)) q
    | succ m ih =>
      intro i my' hi hk
      have hi2 : i < w.length := by omega
      have e10 : (10 : Int32) * nI j + nI i = nI (10 * j + i) := by rw [show (10 : Int32) = nI 10 from rfl, pk_mul, nI_add]
      have hd : w.getD i 0 < 128 := by
        rw [List.getD_eq_getElem?_getD, List.getElem?_eq_getElem hi2]
        exact (hw.1 _ (List.getElem_mem _)).2
      refine ⟨ij, fun q => ?_, fun _ => ?_⟩
      · rw [ej, a1] at q
        exact absurd q (nI_ge hi2 (by omega))
      · rw [e10, nI_clamp (show 10 * j + i < 2147483648 by omega), nI_clamp (show i < 2147483648 by omega), a2 i hi2, nar_char (by omega), nI_1]
        refine ⟨vp_in_nI (by omega) (by decide), vp_in_nI (by omega) (by decide), ih (i + 1) _ (by omega) (fun k hk2 => ?_)⟩
        by_cases e : k = i
        · subst e; exact pk_us
        · rw [pk_un e]; exact hk k (by omega)
  unfold F_X6_says B_X6_says_0
  rw [nI_clamp (show p < 2147483648 by omega), e1]
  exact ⟨vp_in_nI (by omega) (by decide), w.length + 1, key w.length 0 my (by omega) (fun k hk => absurd hk (Nat.not_lt_zero k))⟩
theorem sp_placeOfM {st : Nat} {Q : Int32 → Prop} (hM : MWs mw ml mo W) (hl : W.length ≤ 16) (h1 : 1 ≤ W.length) (hW : ∀ v ∈ W, wok v) (hs : st ≤ 3) (h : Q (nI (stP W st))) : F_X6_placeOf (nI st) mw ml mo (nI W.length) Q := by
  by_cases hs0 : st = 0
  · subst hs0
    have e0 : stP W 0 = 0 := by
      unfold stP
      have e : fstN (fun p => isStI 0 (W.getD p [])) 0 W.length = some 0 := by
        obtain ⟨n, hn⟩ : ∃ n, W.length = n + 1 := ⟨W.length - 1, by omega⟩
        rw [hn]
        unfold fstN
        have e1 : ¬ isStI 0 (W.getD 0 []) = 0 := by
          unfold isStI
          rw [if_neg (by decide), if_neg (by decide), if_neg (by decide)]
          decide
        rw [if_neg e1]
      rw [e]; rfl
    rw [e0] at h
    have key : ∀ m k, k + m = W.length → L_X6_placeOf_18 Q mw ml mo (nI W.length) (k + 1) 0 0 (zI ((k : Int) - 1)) := by
      intro m k
      revert m
      induction k with
      | zero =>
        intro m hk
        exact ⟨fun _ => ⟨fun q => absurd q (by decide), fun _ => ⟨fun _ => h, fun q => absurd rfl q⟩⟩, fun q => absurd (by decide) q⟩
      | succ k ih =>
        intro m hk
        have hk2 : k < W.length := by omega
        obtain ⟨j, hj, ej, a1⟩ := hM k hk2
        have ek : zI (((k + 1 : Nat) : Int) - 1) = nI k := by rw [← zI_nat]; congr 1; omega
        have em : nI k + -1 = zI ((k : Int) - 1) := by rw [← zI_nat, show (-1 : Int32) = zI (-1) from rfl, zI_add]; congr 1
        rw [ek]
        refine ⟨fun q => absurd q (nI_pos (by omega)), fun _ => ?_⟩
        have ik : vp_in (nI k) 16 := vp_in_nI (by omega) (by decide)
        rw [nI_clamp (show k < 2147483648 by omega), ej]
        refine ⟨ik, sp_hasM (ch := 72) hj a1 (hW _ (getD_mem hk2)) (by omega) ⟨ik, sp_hasM (ch := 45) hj a1 (hW _ (getD_mem hk2)) (by omega) ?_⟩⟩
        refine ⟨fun q => absurd q (by decide), fun _ => ⟨fun q => absurd q (by decide), fun _ => ⟨fun q => absurd q (by decide), fun _ => ?_⟩⟩⟩
        unfold B_X6_placeOf_89 B_X6_placeOf_90
        refine ⟨fun _ => ?_, fun q => absurd rfl q⟩
        unfold B_X6_placeOf_102
        rw [em]
        exact ih (m + 1) (by omega)
    unfold F_X6_placeOf B_X6_placeOf_0 B_X6_placeOf_10
    have e9 : nI W.length - 1 = zI ((W.length : Int) - 1) := by rw [← zI_nat, show (1 : Int32) = zI 1 from rfl, zI_sub]
    rw [e9]
    exact ⟨fun _ => ⟨W.length + 1, key 0 W.length (by omega)⟩, fun q => absurd rfl q⟩
  · have hne : ¬ nI st = 0 := fun q => hs0 ((nI_eq (b := 0) (by omega) (by omega)).mp q)
    have key : ∀ k m, k + m = W.length → L_X6_placeOf_18 Q mw ml mo (nI W.length) (k + 1) (nI st) (match fstN (fun p => isStI st (W.getD p [])) k m with | some p => nI p | none => (-5)) (zI ((k : Int) - 1)) := by
      intro k
      induction k with
      | zero =>
        intro m hm
        have hm : m = W.length := by omega
        subst hm
        unfold stP at h
        refine ⟨fun _ => ?_, fun q => absurd (by decide) q⟩
        cases e : fstN (fun p => isStI st (W.getD p [])) 0 W.length with
        | none =>
          rw [e] at h
          exact ⟨fun _ => h, fun q => absurd rfl q⟩
        | some p =>
          rw [e] at h
          have hp := fstN_lt _ _ _ e
          refine ⟨fun q => ?_, fun _ => ⟨fun q => absurd q hne, fun _ => h⟩⟩
          exfalso
          have q : nI p = -5 := q
          rw [show (-5 : Int32) = zI (-5) from rfl, ← zI_nat, zI_eq (by omega) (by omega) (by omega) (by omega)] at q
          omega
      | succ k ih =>
        intro m hk
        have hk2 : k < W.length := by omega
        obtain ⟨j, hj, ej, a1⟩ := hM k hk2
        have h5 := ih (m + 1) (by omega)
        have ek : zI (((k + 1 : Nat) : Int) - 1) = nI k := by rw [← zI_nat]; congr 1; omega
        have em : nI k + -1 = zI ((k : Int) - 1) := by rw [← zI_nat, show (-1 : Int32) = zI (-1) from rfl, zI_add]; congr 1
        have h90 : ∀ s : Int32, s = isStI st (W.getD k []) → B_X6_placeOf_90 (L_X6_placeOf_18 Q mw ml mo (nI W.length) (k + 1)) Q mw ml mo (nI W.length) (nI st) (match fstN (fun p => isStI st (W.getD p [])) (k + 1) m with | some p => nI p | none => (-5)) (nI k) s := fun s hs9 => by
          unfold B_X6_placeOf_90 B_X6_placeOf_102
          rw [em]
          unfold fstN at h5
          refine ⟨fun q => ?_, fun q => ?_⟩
          · rw [hs9] at q
            rw [if_pos q] at h5
            exact h5
          · rw [hs9] at q
            rw [if_neg q] at h5
            exact h5
        rw [ek]
        refine ⟨fun q => absurd q (nI_pos (by omega)), fun _ => ?_⟩
        have ik : vp_in (nI k) 16 := vp_in_nI (by omega) (by decide)
        rw [nI_clamp (show k < 2147483648 by omega), ej]
        refine ⟨ik, sp_hasM (ch := 72) hj a1 (hW _ (getD_mem hk2)) (by omega) ⟨ik, sp_hasM (ch := 45) hj a1 (hW _ (getD_mem hk2)) (by omega) ?_⟩⟩
        unfold isStI at h90
        refine ⟨fun q => ?_, fun q1 => ⟨fun q => ?_, fun q2 => ⟨fun q => ?_, fun q3 => ?_⟩⟩⟩
        · have e : st = 1 := (nI_eq (b := 1) (by omega) (by omega)).mp q
          rw [if_pos e] at h90
          exact h90 _ rfl
        · have e : st = 2 := (nI_eq (b := 2) (by omega) (by omega)).mp q
          rw [if_neg (by omega), if_pos e] at h90
          exact h90 _ rfl
        · have e : st = 3 := (nI_eq (b := 3) (by omega) (by omega)).mp q
          rw [if_neg (by omega), if_neg (by omega), if_pos e] at h90
          refine ⟨fun z => ⟨fun y => ?_, fun y => ?_⟩, fun z => ?_⟩
          · rw [if_pos z, if_pos y] at h90
            exact h90 1 rfl
          · unfold B_X6_placeOf_89
            rw [if_pos z, if_neg y] at h90
            exact h90 0 rfl
          · unfold B_X6_placeOf_89
            rw [if_neg z] at h90
            exact h90 0 rfl
        · exfalso
          have hc4 : st = 1 ∨ st = 2 ∨ st = 3 := by omega
          rcases hc4 with z | z | z <;> subst z
          · exact q1 rfl
          · exact q2 rfl
          · exact q3 rfl
    have h0 := key W.length 0 (by omega)
    have e9 : nI W.length - 1 = zI ((W.length : Int) - 1) := by rw [← zI_nat, show (1 : Int32) = zI 1 from rfl, zI_sub]
    unfold F_X6_placeOf B_X6_placeOf_0 B_X6_placeOf_10
    rw [e9]
    exact ⟨fun q => absurd q hne, fun _ => ⟨W.length + 1, h0⟩⟩
end WM6
