/-! PURE 1: the ear as a machine over lists of characters -/
/-- st, behind a great, halved, less, count, great, base, unit -/
abbrev ES : Type := Int32 × Int32 × Int32 × Int32 × Int32 × Int32 × Int32 × Int32
def folS (bh c : Int32) : Int32 := if c = 71 then (if bh = 0 then 5 else -1) else if c = 72 then 1 else if c = 83 then 6 else if c = 97 then 4 else if c < 98 then -1 else if 115 < c then -1 else 3
def folC (bh c : Int32) : Int32 := if c = 83 then 6 else if c = 71 then (if bh = 0 then 5 else -1) else -1
def folL (c : Int32) : Int32 := if c = 72 then 9 else if c = 83 then 11 else if c < 98 then -1 else if 115 < c then -1 else 10
def folU (c a : Int32) : Int32 := if c < 98 then -1 else if 115 < c then -1 else a
def fol (st bh c : Int32) : Int32 :=
  if st = 0 then folS bh c else if st = 1 then folU c 2 else if st = 2 then folC bh c else if st = 3 then (if c = 45 then 8 else folC bh c)
  else if st = 4 then (if c = 45 then 8 else -1) else if st = 5 then (if c = 38 then 0 else -1) else if st = 6 then (if c = 43 then 7 else -1)
  else if st = 7 then (if c < 97 then -1 else if 115 < c then -1 else 11) else if st = 8 then folL c else if st = 9 then folU c 10
  else if st = 10 then (if c = 83 then 11 else -1) else -1
def sco (e0 hv ct : Int32) : Int32 := 20 * ct - (if hv = 0 then 0 else if e0 = 0 then 0 else 10)
def stepS (e0 e2 c st bh hv ls ct gr ba un : Int32) : ES :=
  if c = 38 then (fol st bh c, 1, 0, ls, 1, gr, ba, un)
  else if c = 43 then (fol st bh c, bh, hv, ls, ct, gr, ba, un)
  else if c = 45 then (fol st bh c, bh, hv, 1, ct, gr, ba, un)
  else if c = 71 then (fol st bh c, bh, hv, ls, (if st = 3 then un else ct), (if e2 = 0 then sco e0 hv (if st = 3 then un else ct) else 20 * sco e0 hv (if st = 3 then un else ct)), ba, (if st = 3 then 0 else un))
  else if c = 72 then (fol st bh c, bh, 1, ls, ct, gr, ba, un)
  else if c = 83 then (fol st bh c, bh, hv, ls, (if st = 3 then un else ct), gr, sco e0 hv (if st = 3 then un else ct), (if st = 3 then 0 else un))
  else if st = 0 ∨ st = 7 then (fol st bh c, bh, hv, ls, ct, gr, ba, c - 97 + 1)
  else (fol st bh c, bh, hv, ls, c - 97 + 1, gr, ba, un)
/-- how many are left when it refuses one, or at the end; the state there -/
def erun (e0 e2 : Int32) : List Int32 → ES → Nat × ES
  | [], S => (0, S)
  | c :: r, S => if fol S.1 S.2.1 c = -1 then (r.length + 1, S) else erun e0 e2 r (stepS e0 e2 c S.1 S.2.1 S.2.2.1 S.2.2.2.1 S.2.2.2.2.1 S.2.2.2.2.2.1 S.2.2.2.2.2.2.1 S.2.2.2.2.2.2.2)
abbrev compl (st : Int32) : Prop := st = 3 ∨ st = 4 ∨ st = 5 ∨ st = 6 ∨ st = 11
def numb (e1 : Int32) (S : ES) : Int32 := S.2.2.2.2.2.1 + S.2.2.2.2.2.2.1 + (if S.2.2.2.1 = 0 then S.2.2.2.2.2.2.2 else if e1 = 0 then S.2.2.2.2.2.2.2 else -S.2.2.2.2.2.2.2)
abbrev S0 : ES := (0, 0, 0, 0, 1, 0, 0, 0)
theorem erun_no {e0 e2 c : Int32} {r : List Int32} {S : ES} (h : fol S.1 S.2.1 c = -1) : erun e0 e2 (c :: r) S = ((c :: r).length, S) := by
  show (if _ then _ else _) = _
  rw [if_pos h]; rfl
theorem erun_go {e0 e2 c st bh hv ls ct gr ba un : Int32} {r : List Int32} (h : fol st bh c ≠ -1) : erun e0 e2 (c :: r) (st, bh, hv, ls, ct, gr, ba, un) = erun e0 e2 r (stepS e0 e2 c st bh hv ls ct gr ba un) := by
  show (if _ then _ else _) = _
  exact if_neg h
theorem sp_isUnit {c : Int32} {Q : Int32 → Prop} (h0 : (c < 97 ∨ 115 < c) → Q 0) (h1 : ¬ c < 97 → ¬ 115 < c → Q 1) : F_X0_isUnit c Q := by
  refine ⟨fun a => ⟨isBo0, h0 (Or.inl a)⟩, fun a => ⟨fun b => ⟨isBo0, h0 (Or.inr b)⟩, fun b => ⟨isBo1, h1 a b⟩⟩⟩
theorem sp_isCountUnit {c : Int32} {Q : Int32 → Prop} (h0 : (c < 98 ∨ 115 < c) → Q 0) (h1 : ¬ c < 98 → ¬ 115 < c → Q 1) : F_X0_isCountUnit c Q := by
  refine ⟨fun a => ⟨isBo0, h0 (Or.inl a)⟩, fun a => ⟨fun b => ⟨isBo0, h0 (Or.inr b)⟩, fun b => ⟨isBo1, h1 a b⟩⟩⟩
theorem sp_afterStart {c bh : Int32} {Q : Int32 → Prop} (h : Q (folS bh c)) : F_X0_afterStart c bh Q := by
  unfold folS at h
  unfold F_X0_afterStart B_X0_afterStart_0 B_X0_afterStart_80 B_X0_afterStart_81 B_X0_afterStart_61
  simp only [wif]
  (repeat' split) <;> simp_all
theorem sp_afterCount {c bh : Int32} {Q : Int32 → Prop} (h : Q (folC bh c)) : F_X0_afterCount c bh Q := by
  unfold folC at h
  unfold F_X0_afterCount B_X0_afterCount_0 B_X0_afterCount_26 B_X0_afterCount_27
  simp only [wif]
  (repeat' split) <;> simp_all
theorem sp_afterLess {c : Int32} {Q : Int32 → Prop} (h : Q (folL c)) : F_X0_afterLess c Q := by
  unfold folL at h
  unfold F_X0_afterLess B_X0_afterLess_0 B_X0_afterLess_51 B_X0_afterLess_52
  simp only [wif]
  (repeat' split) <;> simp_all
theorem sp_following {c st bh : Int32} {Q : Int32 → Prop} (h : Q (fol st bh c)) : F_X0_following c st bh Q := by
  unfold fol at h
  unfold F_X0_following B_X0_following_0
  refine ⟨fun a => ?_, fun a => ?_⟩
  · rw [if_pos a] at h
    exact sp_afterStart h
  rw [if_neg a] at h
  refine ⟨fun a => ?_, fun a => ?_⟩
  · rw [if_pos a] at h
    unfold folU at h
    refine sp_isCountUnit (fun q => ⟨fun _ => ?_, fun n => absurd rfl n⟩) (fun q1 q2 => ⟨fun n => absurd n (by decide), fun _ => ?_⟩)
    · show Q (-1)
      rcases q with q | q
      · rw [if_pos q] at h; exact h
      · by_cases q3 : c < 98
        · rw [if_pos q3] at h; exact h
        · rw [if_neg q3, if_pos q] at h; exact h
    · rw [if_neg q1, if_neg q2] at h; exact h
  rw [if_neg a] at h
  refine ⟨fun a => ?_, fun a => ?_⟩
  · rw [if_pos a] at h
    exact sp_afterCount h
  rw [if_neg a] at h
  refine ⟨fun a => ?_, fun a => ?_⟩
  · rw [if_pos a] at h
    refine ⟨fun b => ?_, fun b => ?_⟩
    · rw [if_pos b] at h; exact h
    · rw [if_neg b] at h; exact sp_afterCount h
  rw [if_neg a] at h
  refine ⟨fun a => ?_, fun a => ?_⟩
  · rw [if_pos a] at h
    refine ⟨fun b => ?_, fun b => ?_⟩
    · rw [if_pos b] at h; exact h
    · rw [if_neg b] at h; exact h
  rw [if_neg a] at h
  refine ⟨fun a => ?_, fun a => ?_⟩
  · rw [if_pos a] at h
    refine ⟨fun b => ?_, fun b => ?_⟩
    · rw [if_pos b] at h; exact h
    · rw [if_neg b] at h; exact h
  rw [if_neg a] at h
  refine ⟨fun a => ?_, fun a => ?_⟩
  · rw [if_pos a] at h
    refine ⟨fun b => ?_, fun b => ?_⟩
    · rw [if_pos b] at h; exact h
    · rw [if_neg b] at h; exact h
  rw [if_neg a] at h
  refine ⟨fun a => ?_, fun a => ?_⟩
  · rw [if_pos a] at h
    refine sp_isUnit (fun q => ⟨fun _ => ?_, fun n => absurd rfl n⟩) (fun q1 q2 => ⟨fun n => absurd n (by decide), fun _ => ?_⟩)
    · show Q (-1)
      rcases q with q | q
      · rw [if_pos q] at h; exact h
      · by_cases q3 : c < 97
        · rw [if_pos q3] at h; exact h
        · rw [if_neg q3, if_pos q] at h; exact h
    · rw [if_neg q1, if_neg q2] at h; exact h
  rw [if_neg a] at h
  refine ⟨fun a => ?_, fun a => ?_⟩
  · rw [if_pos a] at h
    exact sp_afterLess h
  rw [if_neg a] at h
  refine ⟨fun a => ?_, fun a => ?_⟩
  · rw [if_pos a] at h
    unfold folU at h
    refine sp_isCountUnit (fun q => ⟨fun _ => ?_, fun n => absurd rfl n⟩) (fun q1 q2 => ⟨fun n => absurd n (by decide), fun _ => ?_⟩)
    · show Q (-1)
      rcases q with q | q
      · rw [if_pos q] at h; exact h
      · by_cases q3 : c < 98
        · rw [if_pos q3] at h; exact h
        · rw [if_neg q3, if_pos q] at h; exact h
    · rw [if_neg q1, if_neg q2] at h; exact h
  rw [if_neg a] at h
  refine ⟨fun a => ?_, fun a => ?_⟩
  · rw [if_pos a] at h
    refine ⟨fun b => ?_, fun b => ?_⟩
    · rw [if_pos b] at h; exact h
    · rw [if_neg b] at h; exact h
  rw [if_neg a] at h
  exact h
theorem sp_scores {e0 hv ct : Int32} {Q : Int32 → Prop} (h : Q (sco e0 hv ct)) : F_X0_scores e0 hv ct Q := by
  unfold sco at h
  unfold F_X0_scores B_X0_scores_0 B_X0_scores_26 B_X0_scores_27
  simp only [wif]
  (repeat' split) <;> simp_all
theorem sp_takeUnit {st ct un : Int32} {Q : Int32 → Int32 → Prop} (h : Q (if st = 3 then un else ct) (if st = 3 then 0 else un)) : F_X0_takeUnitAsCount st ct un Q := by
  refine ⟨fun a => ?_, fun a => ?_⟩
  · rw [if_pos a, if_pos a] at h; exact h
  · rw [if_neg a, if_neg a] at h; exact h
theorem sp_take {c e0 e2 st bh hv ls ct gr ba un : Int32} {Q : Int32 → Int32 → Int32 → Int32 → Int32 → Int32 → Int32 → Int32 → Int32 → Prop}
    (h0 : fol st bh c = -1 → Q 0 st bh hv ls ct gr ba un)
    (h1 : fol st bh c ≠ -1 → ∀ a1 a2 a3 a4 a5 a6 a7 a8, stepS e0 e2 c st bh hv ls ct gr ba un = (a1, a2, a3, a4, a5, a6, a7, a8) → Q 1 a1 a2 a3 a4 a5 a6 a7 a8) : F_X0_take c e0 e2 st bh hv ls ct gr ba un Q := by
  refine sp_following ⟨fun q => h0 q, fun q => ?_⟩
  have h2 := h1 q
  unfold stepS at h2
  refine ⟨fun a => ?_, fun a => ?_⟩
  · rw [if_pos a] at h2; exact h2 _ _ _ _ _ _ _ _ rfl
  rw [if_neg a] at h2
  refine ⟨fun a => ?_, fun a => ?_⟩
  · rw [if_pos a] at h2; exact h2 _ _ _ _ _ _ _ _ rfl
  rw [if_neg a] at h2
  refine ⟨fun a => ?_, fun a => ?_⟩
  · rw [if_pos a] at h2; exact h2 _ _ _ _ _ _ _ _ rfl
  rw [if_neg a] at h2
  refine ⟨fun a => ?_, fun a => ?_⟩
  · rw [if_pos a] at h2
    refine sp_takeUnit ⟨fun b => ?_, fun b => ?_⟩
    · rw [if_pos b] at h2; exact sp_scores (h2 _ _ _ _ _ _ _ _ rfl)
    · rw [if_neg b] at h2; exact sp_scores (h2 _ _ _ _ _ _ _ _ rfl)
  rw [if_neg a] at h2
  refine ⟨fun a => ?_, fun a => ?_⟩
  · rw [if_pos a] at h2; exact h2 _ _ _ _ _ _ _ _ rfl
  rw [if_neg a] at h2
  refine ⟨fun a => ?_, fun a => ?_⟩
  · rw [if_pos a] at h2
    exact sp_takeUnit (sp_scores (h2 _ _ _ _ _ _ _ _ rfl))
  rw [if_neg a] at h2
  refine ⟨fun b => ?_, fun b => ⟨fun b2 => ?_, fun b2 => ?_⟩⟩
  · rw [if_pos (Or.inl b)] at h2; exact h2 _ _ _ _ _ _ _ _ rfl
  · rw [if_pos (Or.inr b2)] at h2; exact h2 _ _ _ _ _ _ _ _ rfl
  · rw [if_neg (fun q => q.elim b b2)] at h2; exact h2 _ _ _ _ _ _ _ _ rfl
theorem sp_isComplete {st : Int32} {Q : Int32 → Prop} (h1 : compl st → Q 1) (h0 : ¬ compl st → Q 0) : F_X0_isComplete st Q := by
  unfold compl at h1 h0
  refine ⟨fun a => ⟨isBo1, h1 (by simp [a])⟩, fun a => ⟨fun b => ⟨isBo1, h1 (by simp [b])⟩, fun b => ⟨fun c => ⟨isBo1, h1 (by simp [c])⟩, fun c => ⟨fun d => ⟨isBo1, h1 (by simp [d])⟩, fun d => ⟨fun e => ⟨isBo1, h1 (by simp [e])⟩, fun e => ⟨isBo0, h0 (by simp [a, b, c, d, e])⟩⟩⟩⟩⟩⟩
theorem sp_number {e1 : Int32} {S : ES} {Q : Int32 → Prop} (h : Q (numb e1 S)) : F_X0_number e1 S.2.2.2.1 S.2.2.2.2.2.1 S.2.2.2.2.2.2.1 S.2.2.2.2.2.2.2 Q := by
  unfold numb at h
  refine ⟨fun a => ?_, fun a => ⟨fun b => ?_, fun b => ?_⟩⟩
  · rw [if_pos a] at h; exact h
  · rw [if_neg a, if_pos b] at h; exact h
  · rw [if_neg a, if_neg b] at h; exact h

