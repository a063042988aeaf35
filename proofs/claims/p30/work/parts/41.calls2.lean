/-! PURE 19: what hearers understand of the ways -/
def bI (row : Nat → Int32) (n : Nat) (W : List (List Nat)) (p : Nat) : Int32 := if hrd row (W.getD p []) = nI n then 1 else 0
/-- the first place that is understood as n; -5: none -/
def bst (row : Nat → Int32) (n : Nat) : Int32 := match fstN (bI row n (Ws n)) 0 (Ws n).length with
  | some p => nI p
  | none => -5
theorem sp_firstU {h n a : Nat} {mn : Int32} {sd : Nat → Int64} {hr : Nat → Nat → Int32} {e0 e1 e2 e3 e4 e5 e6 e7 e8 e9 e10 : Int32} {Q : Int32 → Int32 → (Nat → Int64) → Int32 → Int32 → Int32 → Int32 → Int32 → Int32 → Int32 → Int32 → Int32 → Int32 → Int32 → Prop}
    (h1 : 1 ≤ n) (hn : n < 8000) (hh : h < 6) (ha : hr h 6 = nI a) (ha2 : a ≤ 12) (hQ : ∀ mn sd a0 a1 a2 a3 a4 a5 a6 a7 a8 a9 a10, Q (bst (hr h) n) mn sd a0 a1 a2 a3 a4 a5 a6 a7 a8 a9 a10) : F_X5_firstUnderstood (nI h) (nI n) hr mn sd e0 e1 e2 e3 e4 e5 e6 e7 e8 e9 e10 Q := by
  obtain ⟨f1, f2, f3⟩ := Ws_facts h1 hn
  unfold F_X5_firstUnderstood B_X5_firstUnderstood_0
  refine sp_find h1 hn (fun sd' hS => ?_)
  have key : ∀ m k, k + m = (Ws n).length → (match fstN (bI (hr h) n (Ws n)) k m with | some p => nI p | none => (-5)) = bst (hr h) n → ∀ e0 e1 e2 e3 e4 e5 e6 e7 e8 e9 e10, L_X5_firstUnderstood_10 Q hr (m + 1) (nI h) (nI n) (nI k) (nI (Ws n).length) sd' e0 e1 e2 e3 e4 e5 e6 e7 e8 e9 e10 := by
    intro m
    induction m with
    | zero =>
      intro k hk hb e0 e1 e2 e3 e4 e5 e6 e7 e8 e9 e10
      refine ⟨fun _ => ?_, fun q => absurd (nI_le (by omega) (by omega)) q⟩
      have hb : (-5 : Int32) = bst (hr h) n := hb
      rw [hb]; exact hQ _ _ _ _ _ _ _ _ _ _ _ _ _
    | succ m ih =>
      intro k hk hb e0 e1 e2 e3 e4 e5 e6 e7 e8 e9 e10
      have hk2 : k < (Ws n).length := by omega
      have hw := f1 _ (getD_mem hk2)
      unfold fstN at hb
      refine ⟨fun q => absurd q (nI_ge hk2 (by omega)), fun _ => sp_at hS (by omega) hk2 (sp_heard hw.1 hw.2 hh ha (by omega) (fun a0 a1 a2 a3 a4 a5 a6 a7 a8 a9 a10 => ⟨fun q => ?_, fun q => ?_⟩))⟩
      · have e : bI (hr h) n (Ws n) k = 1 := by unfold bI; rw [if_pos q]
        rw [e, if_neg (by decide)] at hb
        have hb : nI k = bst (hr h) n := hb
        rw [hb]; exact hQ _ _ _ _ _ _ _ _ _ _ _ _ _
      · have e : bI (hr h) n (Ws n) k = 0 := by unfold bI; rw [if_neg q]
        rw [e, if_pos rfl] at hb
        rw [nI_1]
        exact ih (k + 1) (by omega) hb _ _ _ _ _ _ _ _ _ _ _
  exact ⟨(Ws n).length + 1, key (Ws n).length 0 (by omega) rfl _ _ _ _ _ _ _ _ _ _ _⟩
/-- how many hearers understand w as num -/
def rcd (rows : Nat → Nat → Int32) (w : List Nat) (num : Int32) : Int32 := sumH (fun h => if hrd (rows h) w = num then 1 else 0) 6
theorem sp_reachedX {w : List Nat} {num : Int32} {hr : Nat → Nat → Int32} {e0 e1 e2 e3 e4 e5 e6 e7 e8 e9 e10 : Int32} {Q : Int32 → Int32 → Int32 → Int32 → Int32 → Int32 → Int32 → Int32 → Int32 → Int32 → Int32 → Int32 → Prop}
    (hw : wok w) (ha : ∀ h, h < 6 → ∃ a, a ≤ 12 ∧ hr h 6 = nI a) (hQ : ∀ a0 a1 a2 a3 a4 a5 a6 a7 a8 a9 a10, Q (rcd hr w num) a0 a1 a2 a3 a4 a5 a6 a7 a8 a9 a10) : F_X5_reached num (pkL w) hr e0 e1 e2 e3 e4 e5 e6 e7 e8 e9 e10 Q := by
  have key : ∀ m h, h + m = 6 → ∀ e0 e1 e2 e3 e4 e5 e6 e7 e8 e9 e10, L_X5_reached_6 Q hr (m + 1) num (pkL w) (sumH (fun h => if hrd (hr h) w = num then 1 else 0) h) (nI h) e0 e1 e2 e3 e4 e5 e6 e7 e8 e9 e10 := by
    intro m
    induction m with
    | zero =>
      intro h hh e0 e1 e2 e3 e4 e5 e6 e7 e8 e9 e10
      have hh : h = 6 := by omega
      subst hh
      exact ⟨fun _ => hQ _ _ _ _ _ _ _ _ _ _ _, fun q => absurd (nI_le (a := 6) (by omega) (by omega)) q⟩
    | succ m ih =>
      intro h hh e0 e1 e2 e3 e4 e5 e6 e7 e8 e9 e10
      obtain ⟨a, ha1, ha2⟩ := ha h (by omega)
      have h5 := ih (h + 1) (by omega)
      have es : sumH (fun h => if hrd (hr h) w = num then (1 : Int32) else 0) (h + 1) = sumH (fun h => if hrd (hr h) w = num then 1 else 0) h + (if hrd (hr h) w = num then 1 else 0) := rfl
      rw [es] at h5
      refine ⟨fun q => absurd q (nI_ge (b := 6) (by omega) (by omega)), fun _ => sp_heard hw.1 hw.2 (by omega) ha2 (by omega) (fun a0 a1 a2 a3 a4 a5 a6 a7 a8 a9 a10 => ⟨fun q => ?_, fun q => ?_⟩)⟩
      · unfold B_X5_reached_27
        rw [if_pos q] at h5
        rw [nI_1]; exact h5 _ _ _ _ _ _ _ _ _ _ _
      · unfold B_X5_reached_27
        rw [if_neg q, Int32.add_zero] at h5
        rw [nI_1]; exact h5 _ _ _ _ _ _ _ _ _ _ _
  exact ⟨6 + 1, key 6 0 (by omega) _ _ _ _ _ _ _ _ _ _ _⟩
section CALLS
variable {T : Nat} {tl fr hd gn gt : Int32} {tx nw kp pt ms mb mt : Nat → Int32} {hr lr : Nat → Nat → Int32} {v v1 v2 v3 : Int32}
variable {mn e0 e1 e2 e3 e4 e5 e6 e7 e8 e9 e10 gm gs ga gg gb gu gh gk gl : Int32} {sd : Nat → Int64} {my mw ml mo : Nat → Int32}
/-- the first place of the most -/
def cw (c : Nat → Int32) : Nat → Nat → Int32 → Int32 → Int32
  | _, 0, b, _ => b
  | k, n + 1, b, m => if c k ≤ m then cw c (k + 1) n b m else cw c (k + 1) n (nI k) (c k)
theorem cw_congr {c c' : Nat → Int32} : ∀ (n k : Nat) (b m : Int32), (∀ i, k ≤ i → i < k + n → c i = c' i) → cw c k n b m = cw c' k n b m
  | 0, _, _, _, _ => rfl
  | n + 1, k, b, m, h => by
    unfold cw
    rw [h k (Nat.le_refl _) (by omega), cw_congr n (k + 1) b m (fun i h1 h2 => h i (by omega) (by omega)), cw_congr n (k + 1) (nI k) (c' k) (fun i h1 h2 => h i (by omega) (by omega))]
theorem sumH_bits {P : Nat → Prop} [DecidablePred P] : ∀ n, n ≤ 6 → ∃ s : Nat, s ≤ n ∧ sumH (fun h => if P h then (1 : Int32) else 0) n = nI s
  | 0, _ => ⟨0, by omega, rfl⟩
  | n + 1, hn => by
    obtain ⟨s, h1, h2⟩ := sumH_bits (P := P) n (by omega)
    show ∃ t : Nat, t ≤ n + 1 ∧ sumH (fun h => if P h then (1 : Int32) else 0) n + (if P n then (1 : Int32) else 0) = nI t
    rw [h2]
    by_cases q : P n
    · rw [if_pos q]; exact ⟨s + 1, by omega, nI_1 s⟩
    · rw [if_neg q]; exact ⟨s, by omega, Int32.add_zero _⟩
end CALLS
