/-! PURE 18: what both sides do with the ways -/
/-- the first place from k on, of n, where b isn't 0 -/
def fstN (b : Nat → Int32) : Nat → Nat → Option Nat
  | _, 0 => none
  | k, n + 1 => if b k = 0 then fstN b (k + 1) n else some k
theorem fstN_lt {b : Nat → Int32} : ∀ (n k p : Nat), fstN b k n = some p → p < k + n
  | 0, _, _, h => by cases h
  | n + 1, k, p, h => by
    unfold fstN at h
    by_cases q : b k = 0
    · rw [if_pos q] at h
      have := fstN_lt n (k + 1) p h
      omega
    · rw [if_neg q] at h
      have := Option.some.inj h
      omega
theorem fstN_congr {b b' : Nat → Int32} : ∀ (n k : Nat), (∀ i, k ≤ i → i < k + n → b i = b' i) → fstN b k n = fstN b' k n
  | 0, _, _ => rfl
  | n + 1, k, h => by
    unfold fstN
    rw [h k (Nat.le_refl _) (by omega), fstN_congr n (k + 1) (fun i h1 h2 => h i (by omega) (by omega))]
def WX4 (sd : Nat → Int64) (W : List (List Nat)) : Prop := ∀ i, i < W.length → sd i = pkL (W.getD i [])
section WH
variable {W : List (List Nat)} {sd : Nat → Int64}
theorem sp_at {p : Nat} {Q : Int64 → Prop} (hS : WX4 sd W) (hl : W.length ≤ 16) (hp : p < W.length) (h : Q (pkL (W.getD p []))) : F_X4_at (nI p) sd Q := by
  refine ⟨fun q => absurd q (nI_pos (by omega)), fun _ => ⟨fun q => absurd q (nI_ge (b := 16) (by omega) (by omega)), fun _ => ⟨vp_in_nI (by omega) (by decide), ?_⟩⟩⟩
  rw [nI_clamp (show p < 2147483648 by omega), hS p hp]
  exact h
def isStI (st : Nat) (w : List Nat) : Int32 := if st = 1 then hasC w 72 else if st = 2 then hasC w 45 else if st = 3 then (if hasC w 72 = 0 then (if hasC w 45 = 0 then 1 else 0) else 0) else 1
theorem sp_isOfStyle {w : List Nat} {st : Nat} {Q : Int32 → Prop} (hw : wok w) (hs : st ≤ 3) (h : Q (isStI st w)) : F_X4_isOfStyle (pkL w) (nI st) Q := by
  unfold isStI at h
  refine ⟨fun q => ?_, fun q1 => ⟨fun q => ?_, fun q2 => ⟨fun q => ?_, fun q3 => ?_⟩⟩⟩
  · have e : st = 1 := (nI_eq (b := 1) (by omega) (by omega)).mp q
    rw [if_pos e] at h
    exact sp_hasX (c := 72) hw.1 hw.2 (by omega) (by omega) ⟨hasC_bo _ _, h⟩
  · have e : st = 2 := (nI_eq (b := 2) (by omega) (by omega)).mp q
    rw [if_neg (by omega), if_pos e] at h
    exact sp_hasX (c := 45) hw.1 hw.2 (by omega) (by omega) ⟨hasC_bo _ _, h⟩
  · have e : st = 3 := (nI_eq (b := 3) (by omega) (by omega)).mp q
    rw [if_neg (by omega), if_neg (by omega), if_pos e] at h
    refine sp_hasX (c := 72) hw.1 hw.2 (by omega) (by omega) ⟨fun z => sp_hasX (c := 45) hw.1 hw.2 (by omega) (by omega) ⟨fun y => ?_, fun y => ?_⟩, fun z => ?_⟩
    · rw [if_pos z, if_pos y] at h; exact ⟨isBo1, h⟩
    · rw [if_pos z, if_neg y] at h; exact ⟨isBo0, h⟩
    · rw [if_neg z] at h; exact ⟨isBo0, h⟩
  · have e1 : st ≠ 1 := fun e => q1 (by rw [e]; rfl)
    have e2 : st ≠ 2 := fun e => q2 (by rw [e]; rfl)
    have e3 : st ≠ 3 := fun e => q3 (by rw [e]; rfl)
    rw [if_neg e1, if_neg e2, if_neg e3] at h
    exact h
/-- the place of the way of a style -/
def stP (W : List (List Nat)) (st : Nat) : Nat := (fstN (fun p => isStI st (W.getD p [])) 0 W.length).getD 0
theorem stP_lt {st : Nat} (h : 1 ≤ W.length) : stP W st < W.length := by
  unfold stP
  cases e : fstN (fun p => isStI st (W.getD p [])) 0 W.length with
  | none => exact h
  | some p =>
    have := fstN_lt _ _ _ e
    show p < _
    omega
theorem sp_placeOfStyle {st : Nat} {Q : Int32 → Prop} (hS : WX4 sd W) (hl : W.length ≤ 16) (hW : ∀ v ∈ W, wok v) (hs : st ≤ 3) (h : Q (nI (stP W st))) : F_X4_placeOfStyle (nI st) (nI W.length) sd Q := by
  have key : ∀ m k, k + m = W.length → Q (nI ((fstN (fun p => isStI st (W.getD p [])) k m).getD 0)) → L_X4_placeOfStyle_2 Q (nI W.length) sd (m + 1) (nI st) (nI k) := by
    intro m
    induction m with
    | zero =>
      intro k hk hq
      exact ⟨fun _ => hq, fun q => absurd (nI_le (by omega) (by omega)) q⟩
    | succ m ih =>
      intro k hk hq
      have hk2 : k < W.length := by omega
      refine ⟨fun q => absurd q (nI_ge hk2 (by omega)), fun _ => sp_at hS hl hk2 (sp_isOfStyle (hW _ (getD_mem hk2)) hs ⟨fun z => ?_, fun z => ?_⟩)⟩
      · unfold fstN at hq
        rw [if_pos z] at hq
        rw [nI_1]
        exact ih (k + 1) (by omega) hq
      · unfold fstN at hq
        rw [if_neg z] at hq
        exact hq
  exact ⟨W.length + 1, key W.length 0 (by omega) h⟩
end WH
section WM6
variable {W : List (List Nat)} {mw ml mo : Nat → Int32}
end WM6
