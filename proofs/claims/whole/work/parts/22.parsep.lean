/-! PURE 2: the reference's parser against the ear -/
def seg (f : Nat → Int32) : Nat → Nat → List Int32
  | _, 0 => []
  | a, k + 1 => f a :: seg f (a + 1) k
theorem seg_len (f : Nat → Int32) (k : Nat) : ∀ a, (seg f a k).length = k := by
  induction k with
  | zero => intro a; rfl
  | succ k ih => intro a; show (seg f (a + 1) k).length + 1 = _; rw [ih]
theorem seg_get (f : Nat → Int32) (k : Nat) : ∀ a i, i < k → (seg f a k)[i]? = some (f (a + i)) := by
  induction k with
  | zero => intro a i h; omega
  | succ k ih =>
    intro a i h
    cases i with
    | zero => rfl
    | succ i =>
      show (seg f (a + 1) k)[i]? = _
      rw [ih (a + 1) i (by omega)]
      congr 2; omega
def tl (my : Nat → Int32) (n : Nat) (r : List Int32) : Prop := r.length ≤ n ∧ r = seg my (n - r.length) r.length
theorem tl_full (my : Nat → Int32) (n : Nat) : tl my n (seg my 0 n) := by
  refine ⟨by rw [seg_len]; exact Nat.le_refl n, ?_⟩
  rw [seg_len, Nat.sub_self]
theorem tl_cons {my : Nat → Int32} {n : Nat} {c : Int32} {r : List Int32} (h : tl my n (c :: r)) : tl my n r ∧ my (n - (r.length + 1)) = c ∧ r.length + 1 ≤ n := by
  obtain ⟨h1, h2⟩ := h
  have h1 : r.length + 1 ≤ n := h1
  have h2 : c :: r = my (n - (r.length + 1)) :: seg my (n - (r.length + 1) + 1) r.length := h2
  injection h2 with e1 e2
  refine ⟨⟨by omega, ?_⟩, e1.symm, h1⟩
  rw [show n - (r.length + 1) + 1 = n - r.length by omega] at e2
  exact e2
section PS
variable {my : Nat → Int32} {n : Nat} {r : List Int32}
theorem sp_accepts {s : Int32} {Q : Int32 → Int32 → Prop} (hn : n ≤ 20) (ht : tl my n r)
    (hN : (∀ c r', r = c :: r' → c ≠ s) → Q 0 (nI (n - r.length)))
    (hY : ∀ r', r = s :: r' → tl my n r' → Q 1 (nI (n - r'.length))) : F_X6_accepts s my (nI n) (nI (n - r.length)) Q := by
  unfold F_X6_accepts B_X6_accepts_0 F_X6_isSign B_X6_isSign_0 B_X6_isSign_28 B_X6_isSign_29 B_X6_accepts_20
  have e0 : ∀ x : Int32, x + 0 = x := fun x => Int32.add_zero x
  cases r with
  | nil =>
    have h := hN (fun c r' q => by cases q)
    refine ⟨fun _ => ⟨isBo0, fun _ => ⟨isBo0, ?_⟩, fun q => absurd rfl q⟩, fun q => absurd (nI_le (Nat.le_refl n) (by omega)) q⟩
    rw [e0]; exact h
  | cons c r' =>
    obtain ⟨t1, t2, t3⟩ := tl_cons ht
    refine ⟨fun q => absurd q (nI_ge (by show n - (r'.length + 1) < n; omega) (by omega)), fun _ => ⟨vp_in_nI (by show n - (r'.length + 1) < 20; omega) (by omega), ?_⟩⟩
    have e : (nI (n - (c :: r').length)).toNatClampNeg = n - (r'.length + 1) := nI_clamp (by show n - (r'.length + 1) < _; omega)
    rw [e, t2]
    refine ⟨fun q => ⟨isBo1, fun q2 => absurd q2 (by decide), fun _ => ⟨isBo1, ?_⟩⟩, fun q => ⟨isBo0, fun _ => ⟨isBo0, ?_⟩, fun q => absurd rfl q⟩⟩
    · subst q
      have h := hY r' rfl t1
      have e2 : nI (n - (c :: r').length) + 1 = nI (n - r'.length) := by
        rw [nI_1]; congr 1; show n - (r'.length + 1) + 1 = _; omega
      rw [e2]; exact h
    · rw [e0]; exact hN (fun c2 r2 q2 => by injection q2 with q3 q4; rw [← q3]; exact q)
theorem sp_unitFrom {low : Int32} {Q : Int32 → Int32 → Prop} (hn : n ≤ 20) (ht : tl my n r)
    (hN : (∀ c r', r = c :: r' → c < low ∨ 115 < c) → Q 0 (nI (n - r.length)))
    (hY : ∀ c r', r = c :: r' → ¬ c < low → c ≤ 115 → tl my n r' → Q (c - 97 + 1) (nI (n - r'.length))) : F_X6_unitFrom low my (nI n) (nI (n - r.length)) Q := by
  unfold F_X6_unitFrom B_X6_unitFrom_0 B_X6_unitFrom_38
  cases r with
  | nil =>
    exact ⟨fun _ => hN (fun c r' q => by cases q), fun q => absurd rfl q⟩
  | cons c r' =>
    obtain ⟨t1, t2, t3⟩ := tl_cons ht
    have hi : vp_in (nI (n - (c :: r').length)) 20 := vp_in_nI (by show n - (r'.length + 1) < 20; omega) (by omega)
    refine ⟨fun q => ?_, fun _ => ⟨hi, ?_⟩⟩
    · have h9 := (nI_eq (by show n - (r'.length + 1) < _; omega) (by omega)).mp q
      have h8 : n - (r'.length + 1) = n := h9
      omega
    have e : (nI (n - (c :: r').length)).toNatClampNeg = n - (r'.length + 1) := nI_clamp (by show n - (r'.length + 1) < _; omega)
    have e3 : nI (n - (c :: r').length) + 1 - 1 = nI (n - (c :: r').length) := by rw [nI_1]; exact nI_pred _
    rw [e3, e, t2]
    refine ⟨fun q => hN (fun c2 r2 q2 => by injection q2 with q3 q4; rw [← q3]; exact Or.inl q), fun q => ⟨hi, fun q2 => ⟨hi, ?_⟩, fun q2 => hN (fun c2 r2 q3 => by injection q3 with q4 q5; rw [← q4]; exact Or.inr (Int32.not_le.mp q2))⟩⟩
    have h := hY c r' rfl q q2 t1
    have e2 : nI (n - (c :: r').length) + 1 = nI (n - r'.length) := by
      rw [nI_1]; congr 1; show n - (r'.length + 1) + 1 = _; omega
    rw [e2]; exact h
/-- what the ear has of a base, a great in the reference's words -/
def baV (e0 gb gk : Int32) : Int32 := 20 * gb - (if gk = 0 then 0 else if e0 = 0 then 0 else 10)
def grV (e0 e2 gg gh : Int32) : Int32 := if e2 = 0 then 20 * gg - (if gh = 0 then 0 else if e0 = 0 then 0 else 10) else 20 * (20 * gg - (if gh = 0 then 0 else if e0 = 0 then 0 else 10))
theorem fol6 {bh c : Int32} : fol 6 bh c = if c = 43 then 7 else -1 := rfl
theorem fol7 {bh c : Int32} : fol 7 bh c = if c < 97 then -1 else if 115 < c then -1 else 11 := rfl
theorem fol8 {bh c : Int32} : fol 8 bh c = folL c := rfl
theorem fol0 {bh c : Int32} : fol 0 bh c = folS bh c := rfl
theorem fol1 {bh c : Int32} : fol 1 bh c = folU c 2 := rfl
theorem fol2 {bh c : Int32} : fol 2 bh c = folC bh c := rfl
theorem fol3 {bh c : Int32} : fol 3 bh c = if c = 45 then 8 else folC bh c := rfl
theorem fol4 {bh c : Int32} : fol 4 bh c = if c = 45 then 8 else -1 := rfl
theorem fol5 {bh c : Int32} : fol 5 bh c = if c = 38 then 0 else -1 := rfl
theorem fol9 {bh c : Int32} : fol 9 bh c = folU c 10 := rfl
theorem fol10 {bh c : Int32} : fol 10 bh c = if c = 83 then 11 else -1 := rfl
theorem fol11 {bh c : Int32} : fol 11 bh c = -1 := rfl
theorem fol0_72 (bh : Int32) : fol 0 bh 72 = 1 := rfl
theorem fol0_83 (bh : Int32) : fol 0 bh 83 = 6 := rfl
theorem fol2_83 (bh : Int32) : fol 2 bh 83 = 6 := rfl
theorem erun_end {e0 e2 bh hv ls ct gr ba un : Int32} : ∀ r : List Int32, erun e0 e2 r (11, bh, hv, ls, ct, gr, ba, un) = (r.length, (11, bh, hv, ls, ct, gr, ba, un))
  | [] => rfl
  | c :: r => erun_no (S := (11, bh, hv, ls, ct, gr, ba, un)) rfl
theorem stop_of {e0 e2 : Int32} {S : ES} (h : ∀ c r', r = c :: r' → fol S.1 S.2.1 c = -1) : erun e0 e2 r S = (r.length, S) := by
  cases r with
  | nil => rfl
  | cons c r' => exact erun_no (h c r' rfl)
theorem uni_no {c a : Int32} (h : c < 98 ∨ 115 < c) : folU c a = -1 := by
  unfold folU
  by_cases q : c < 98
  · rw [if_pos q]
  · rw [if_neg q, if_pos (h.resolve_left q)]
theorem uni_yes {c a : Int32} (h1 : ¬ c < 98) (h2 : c ≤ 115) : folU c a = a := by
  unfold folU
  rw [if_neg h1, if_neg (fun q => (Int32.not_le.mpr q) h2)]
/-- a letter is none of the signs -/
theorem not_sign {c : Int32} (h1 : ¬ c < 97) : c ≠ 38 ∧ c ≠ 43 ∧ c ≠ 45 ∧ c ≠ 71 ∧ c ≠ 72 ∧ c ≠ 83 := by
  refine ⟨?_, ?_, ?_, ?_, ?_, ?_⟩ <;> (rintro rfl; exact h1 (by decide))
theorem stepS_unit0 {e0 e2 c st bh hv ls ct gr ba un : Int32} (h1 : ¬ c < 97) (h2 : st = 0 ∨ st = 7) : stepS e0 e2 c st bh hv ls ct gr ba un = (fol st bh c, bh, hv, ls, ct, gr, ba, c - 97 + 1) := by
  obtain ⟨a1, a2, a3, a4, a5, a6⟩ := not_sign h1
  unfold stepS
  rw [if_neg a1, if_neg a2, if_neg a3, if_neg a4, if_neg a5, if_neg a6, if_pos h2]
theorem stepS_unit1 {e0 e2 c st bh hv ls ct gr ba un : Int32} (h1 : ¬ c < 97) (h2 : st ≠ 0) (h3 : st ≠ 7) : stepS e0 e2 c st bh hv ls ct gr ba un = (fol st bh c, bh, hv, ls, c - 97 + 1, gr, ba, un) := by
  obtain ⟨a1, a2, a3, a4, a5, a6⟩ := not_sign h1
  unfold stepS
  rw [if_neg a1, if_neg a2, if_neg a3, if_neg a4, if_neg a5, if_neg a6, if_neg (fun q => q.elim h2 h3)]
theorem ge98_97 {c : Int32} (h : ¬ c < 98) : ¬ c < 97 := fun q => h (lt97_98 q)
/-- how a rest is read: to its stop, with what is meant if it is complete -/
def FinR (r : List Int32) (S : Int32 → Int32 → ES) (ok : Int32) (r' : List Int32) (V : Int32 → Int32 → ES → Prop) : Prop :=
  ∀ e0 e2, ∃ S', erun e0 e2 r (S e0 e2) = (r'.length, S') ∧ (ok = 0 → r' = [] → ¬ compl S'.1) ∧ (ok ≠ 0 → compl S'.1 ∧ V e0 e2 S')
theorem not_compl1 : ¬ compl 1 := by unfold compl; decide
theorem not_compl2 : ¬ compl 2 := by unfold compl; decide
theorem not_compl0 : ¬ compl 0 := by unfold compl; decide
theorem not_compl7 : ¬ compl 7 := by unfold compl; decide
theorem not_compl8 : ¬ compl 8 := by unfold compl; decide
theorem not_compl9 : ¬ compl 9 := by unfold compl; decide
theorem not_compl10 : ¬ compl 10 := by unfold compl; decide
theorem compl3 : compl 3 := by unfold compl; decide
theorem compl4 : compl 4 := by unfold compl; decide
theorem compl5 : compl 5 := by unfold compl; decide
theorem compl6 : compl 6 := by unfold compl; decide
theorem compl11 : compl 11 := by unfold compl; decide
/-- plus behind a base -/
theorem sp_plus {gu : Int32} {Q : Int32 → Int32 → Int32 → Prop} (hn : n ≤ 20) (ht : tl my n r)
    (h : ∀ ok r' gu', isBo ok → tl my n r' → (∀ bh hv ls ct, ∀ gr ba : Int32 → Int32 → Int32, FinR r (fun e0 e2 => (6, bh, hv, ls, ct, gr e0 e2, ba e0 e2, gu)) ok r' (fun e0 e2 S => S.2.2.2.1 = ls ∧ S.2.2.2.2.2.1 = gr e0 e2 ∧ S.2.2.2.2.2.2.1 = ba e0 e2 ∧ S.2.2.2.2.2.2.2 = gu')) → Q ok (nI (n - r'.length)) gu') : F_X6_plus my (nI n) (nI (n - r.length)) gu Q := by
  unfold F_X6_plus B_X6_plus_0 B_X6_plus_33
  refine sp_accepts hn ht (fun hN => ⟨fun _ => ?_, fun q => absurd rfl q⟩) (fun r1 er ht1 => ⟨fun q => absurd q (by decide), fun _ => ?_⟩)
  · refine h 1 r gu isBo1 ht (fun bh hv ls ct gr ba e0 e2 => ⟨_, stop_of (fun c r' e => ?_), fun q => absurd q (by decide), fun _ => ⟨compl6, rfl, rfl, rfl, rfl⟩⟩)
    show fol 6 bh c = -1
    rw [fol6, if_neg (hN c r' e)]
  · subst er
    have hg : ∀ e0 e2 bh hv ls ct gr ba : Int32, erun e0 e2 (43 :: r1) (6, bh, hv, ls, ct, gr, ba, gu) = erun e0 e2 r1 (7, bh, hv, ls, ct, gr, ba, gu) := fun _ _ _ _ _ _ _ _ => erun_go (by rw [fol6]; decide)
    refine sp_unitFrom hn ht1 (fun hN => ⟨fun _ => ⟨isBo0, ?_⟩, fun q => absurd (by decide) q⟩) (fun c r2 er h1 h2 ht2 => ⟨fun q => absurd q (unit_pos h1 h2), fun _ => ⟨isBo1, ?_⟩⟩)
    · refine h 0 r1 0 isBo0 ht1 (fun bh hv ls ct gr ba e0 e2 => ⟨_, (hg _ _ _ _ _ _ _ _).trans (stop_of (fun c r' e => ?_)), fun _ _ => not_compl7, fun q => absurd rfl q⟩)
      show fol 7 bh c = -1
      rw [fol7]
      rcases hN c r' e with q | q
      · rw [if_pos q]
      · by_cases q2 : c < 97
        · rw [if_pos q2]
        · rw [if_neg q2, if_pos q]
    · subst er
      refine h 1 r2 (c - 97 + 1) isBo1 ht2 (fun bh hv ls ct gr ba e0 e2 => ⟨(11, bh, hv, ls, ct, gr e0 e2, ba e0 e2, c - 97 + 1), ?_, fun q => absurd q (by decide), fun _ => ⟨compl11, rfl, rfl, rfl, rfl⟩⟩)
      have hf : fol 7 bh c = 11 := by rw [fol7, if_neg h1, if_neg (fun q => (Int32.not_le.mpr q) h2)]
      refine (hg _ _ _ _ _ _ _ _).trans ?_
      rw [erun_go (by rw [hf]; decide), stepS_unit0 h1 (Or.inr rfl), hf]
      exact erun_end r2
theorem folC_no {bh c : Int32} (h1 : c ≠ 83) (h2 : bh ≠ 0 ∨ c ≠ 71) : folC bh c = -1 := by
  unfold folC
  rw [if_neg h1]
  by_cases q : c = 71
  · rw [if_pos q, if_neg (h2.resolve_right (fun n => n q))]
  · rw [if_neg q]
/-- a base where no unit stands ahead -/
theorem sp_base0 {bh : Int32} {Q : Int32 → Int32 → Int32 → Int32 → Prop} (hn : n ≤ 20) (ht : tl my n r) (hu : ∀ c r', r = c :: r' → c < 97 ∨ 115 < c) (hb : bh = 0 → ∀ c r', r = c :: r' → c ≠ 71 ∧ c ≠ 72)
    (h : ∀ ok r' gb' gk', isBo ok → tl my n r' → (∀ ls un, ∀ gr : Int32 → Int32 → Int32, ok = 0 → FinR r (fun e0 e2 => (0, bh, 0, ls, 1, gr e0 e2, 0, un)) 0 r' (fun _ _ _ => True)) → (∀ ls un, ∀ gr : Int32 → Int32 → Int32, ok ≠ 0 → ∃ hv ct, ∀ e0 e2, erun e0 e2 r (0, bh, 0, ls, 1, gr e0 e2, 0, un) = erun e0 e2 r' (6, bh, hv, ls, ct, gr e0 e2, baV e0 gb' gk', un)) → Q ok (nI (n - r'.length)) gb' gk') : F_X6_base my (nI n) (nI (n - r.length)) 0 0 Q := by
  unfold F_X6_base B_X6_base_0 B_X6_base_56 B_X6_base_57
  refine sp_accepts hn ht (fun hS => ⟨fun _ => ?_, fun q => absurd rfl q⟩) (fun r1 er ht1 => ⟨fun q => absurd q (by decide), fun _ => ?_⟩)
  · refine sp_accepts hn ht (fun hH => ⟨isBo0, ?_⟩) (fun r1 er ht1 => ⟨isBo1, ?_⟩)
    · refine sp_unitFrom hn ht (fun hN => ⟨fun _ => ⟨isBo0, ?_⟩, fun q => absurd (by decide) q⟩) (fun c r2 er h1 h2 ht2 => ?_)
      · refine h 0 r 0 0 isBo0 ht (fun ls un gr _ e0 e2 => ⟨_, stop_of (fun c r' e => ?_), fun _ _ => not_compl0, fun q => absurd rfl q⟩) (fun ls un gr q => absurd rfl q)
        show fol 0 bh c = -1
        rw [fol0]
        unfold folS
        have hcu := hu c r' e
        have h97 : c ≠ 97 := by
          rintro rfl
          rcases hcu with q | q
          · exact absurd q (by decide)
          · exact absurd q (by decide)
        rw [if_neg (hH c r' e), if_neg (hS c r' e), if_neg h97]
        have hend : (if c < 98 then (-1 : Int32) else if 115 < c then -1 else 3) = -1 := by
          rcases hcu with q | q
          · rw [if_pos (lt97_98 q)]
          · by_cases q2 : c < 98
            · rw [if_pos q2]
            · rw [if_neg q2, if_pos q]
        rw [hend]
        by_cases q : c = 71
        · rw [if_pos q]
          by_cases q3 : bh = 0
          · exact absurd q (hb q3 c r' e).1
          · rw [if_neg q3]
        · rw [if_neg q]
      · exfalso
        rcases hu c r2 er with q | q
        · exact h1 (lt97_98 q)
        · exact (Int32.not_le.mpr q) h2
    · subst er
      have hbh : bh ≠ 0 := fun q => (hb q 72 r1 rfl).2 rfl
      have hg : ∀ e0 e2 ls gr un : Int32, erun e0 e2 (72 :: r1) (0, bh, 0, ls, 1, gr, 0, un) = erun e0 e2 r1 (1, bh, 1, ls, 1, gr, 0, un) := fun _ _ _ _ _ => erun_go (by rw [fol0_72]; decide)
      refine sp_unitFrom hn ht1 (fun hN => ⟨fun _ => ⟨isBo0, ?_⟩, fun q => absurd (by decide) q⟩) (fun c r2 er h1 h2 ht2 => ⟨fun q => absurd q (unit_pos (ge98_97 h1) h2), fun _ => ?_⟩)
      · refine h 0 r1 0 1 isBo0 ht1 (fun ls un gr _ e0 e2 => ⟨_, (hg _ _ _ _ _).trans (stop_of (fun c r' e => ?_)), fun _ _ => not_compl1, fun q => absurd rfl q⟩) (fun ls un gr q => absurd rfl q)
        show fol 1 bh c = -1
        rw [fol1]
        exact uni_no (hN c r' e)
      · subst er
        have hf : fol 1 bh c = 2 := by rw [fol1]; exact uni_yes h1 h2
        have hg2 : ∀ e0 e2 ls gr un : Int32, erun e0 e2 (72 :: c :: r2) (0, bh, 0, ls, 1, gr, 0, un) = erun e0 e2 r2 (2, bh, 1, ls, c - 97 + 1, gr, 0, un) := fun _ _ _ _ _ => by
          rw [hg, erun_go (by rw [hf]; decide), stepS_unit1 (ge98_97 h1) (by decide) (by decide), hf]
        refine sp_accepts hn ht2 (fun hS2 => ⟨fun _ => ⟨isBo0, ?_⟩, fun q => absurd rfl q⟩) (fun r3 er ht3 => ⟨fun q => absurd q (by decide), fun _ => ⟨isBo1, ?_⟩⟩)
        · refine h 0 r2 (c - 97 + 1) 1 isBo0 ht2 (fun ls un gr _ e0 e2 => ⟨_, (hg2 _ _ _ _ _).trans (stop_of (fun c2 r' e => ?_)), fun _ _ => not_compl2, fun q => absurd rfl q⟩) (fun ls un gr q => absurd rfl q)
          show fol 2 bh c2 = -1
          rw [fol2]
          exact folC_no (hS2 c2 r' e) (Or.inl hbh)
        · subst er
          refine h 1 r3 (c - 97 + 1) 1 isBo1 ht3 (fun ls un gr q => absurd q (by decide)) (fun ls un gr _ => ⟨1, c - 97 + 1, fun e0 e2 => ?_⟩)
          rw [hg2, erun_go (by rw [fol2_83]; decide)]
          rfl
  · subst er
    refine h 1 r1 1 0 isBo1 ht1 (fun ls un gr q => absurd q (by decide)) (fun ls un gr _ => ⟨0, 1, fun e0 e2 => ?_⟩)
    rw [erun_go (by rw [fol0_83]; decide)]
    rfl
/-- a base behind a unit and "-" -/
theorem sp_base8 {Q : Int32 → Int32 → Int32 → Int32 → Prop} (hn : n ≤ 20) (ht : tl my n r)
    (h : ∀ ok r' gb' gk', isBo ok → tl my n r' → (∀ bh ls un, ∀ gr : Int32 → Int32 → Int32, FinR r (fun e0 e2 => (8, bh, 0, ls, 1, gr e0 e2, 0, un)) ok r' (fun e0 e2 S => S.2.2.2.1 = ls ∧ S.2.2.2.2.2.1 = gr e0 e2 ∧ S.2.2.2.2.2.2.1 = baV e0 gb' gk' ∧ S.2.2.2.2.2.2.2 = un)) → Q ok (nI (n - r'.length)) gb' gk') : F_X6_base my (nI n) (nI (n - r.length)) 0 0 Q := by
  unfold F_X6_base B_X6_base_0 B_X6_base_56 B_X6_base_57
  refine sp_accepts hn ht (fun hS => ⟨fun _ => ?_, fun q => absurd rfl q⟩) (fun r1 er ht1 => ⟨fun q => absurd q (by decide), fun _ => ?_⟩)
  · refine sp_accepts hn ht (fun hH => ⟨isBo0, ?_⟩) (fun r1 er ht1 => ⟨isBo1, ?_⟩)
    · refine sp_unitFrom hn ht (fun hN => ⟨fun _ => ⟨isBo0, ?_⟩, fun q => absurd (by decide) q⟩) (fun c r2 er h1 h2 ht2 => ⟨fun q => absurd q (unit_pos (ge98_97 h1) h2), fun _ => ?_⟩)
      · refine h 0 r 0 0 isBo0 ht (fun bh ls un gr e0 e2 => ⟨_, stop_of (fun c r' e => ?_), fun _ _ => not_compl8, fun q => absurd rfl q⟩)
        show fol 8 bh c = -1
        rw [fol8]
        unfold folL
        rw [if_neg (hH c r' e), if_neg (hS c r' e)]
        exact uni_no (a := 10) (hN c r' e)
      · subst er
        obtain ⟨a1, a2, a3, a4, a5, a6⟩ := not_sign (ge98_97 h1)
        have hf : ∀ bh : Int32, fol 8 bh c = 10 := fun bh => by
          rw [fol8]
          unfold folL
          rw [if_neg a5, if_neg a6]
          exact uni_yes h1 h2
        have hg2 : ∀ e0 e2 bh ls gr un : Int32, erun e0 e2 (c :: r2) (8, bh, 0, ls, 1, gr, 0, un) = erun e0 e2 r2 (10, bh, 0, ls, c - 97 + 1, gr, 0, un) := fun _ _ _ _ _ _ => by
          rw [erun_go (by rw [hf]; decide), stepS_unit1 (ge98_97 h1) (by decide) (by decide), hf]
        refine sp_accepts hn ht2 (fun hS2 => ⟨fun _ => ⟨isBo0, ?_⟩, fun q => absurd rfl q⟩) (fun r3 er ht3 => ⟨fun q => absurd q (by decide), fun _ => ⟨isBo1, ?_⟩⟩)
        · refine h 0 r2 (c - 97 + 1) 0 isBo0 ht2 (fun bh ls un gr e0 e2 => ⟨_, (hg2 _ _ _ _ _ _).trans (stop_of (fun c2 r' e => ?_)), fun _ _ => not_compl10, fun q => absurd rfl q⟩)
          show fol 10 bh c2 = -1
          rw [fol10, if_neg (hS2 c2 r' e)]
        · subst er
          refine h 1 r3 (c - 97 + 1) 0 isBo1 ht3 (fun bh ls un gr e0 e2 => ⟨(11, bh, 0, ls, c - 97 + 1, gr e0 e2, baV e0 (c - 97 + 1) 0, un), ?_, fun q => absurd q (by decide), fun _ => ⟨compl11, rfl, rfl, rfl, rfl⟩⟩)
          refine (hg2 _ _ _ _ _ _).trans ?_
          rw [erun_go (by rw [fol10]; decide)]
          exact erun_end r3
    · subst er
      have hg : ∀ e0 e2 bh ls gr un : Int32, erun e0 e2 (72 :: r1) (8, bh, 0, ls, 1, gr, 0, un) = erun e0 e2 r1 (9, bh, 1, ls, 1, gr, 0, un) := fun _ _ _ _ _ _ => erun_go (by rw [fol8]; decide)
      refine sp_unitFrom hn ht1 (fun hN => ⟨fun _ => ⟨isBo0, ?_⟩, fun q => absurd (by decide) q⟩) (fun c r2 er h1 h2 ht2 => ⟨fun q => absurd q (unit_pos (ge98_97 h1) h2), fun _ => ?_⟩)
      · refine h 0 r1 0 1 isBo0 ht1 (fun bh ls un gr e0 e2 => ⟨_, (hg _ _ _ _ _ _).trans (stop_of (fun c r' e => ?_)), fun _ _ => not_compl9, fun q => absurd rfl q⟩)
        show fol 9 bh c = -1
        rw [fol9]
        exact uni_no (hN c r' e)
      · subst er
        have hf : ∀ bh : Int32, fol 9 bh c = 10 := fun bh => by rw [fol9]; exact uni_yes h1 h2
        have hg2 : ∀ e0 e2 bh ls gr un : Int32, erun e0 e2 (72 :: c :: r2) (8, bh, 0, ls, 1, gr, 0, un) = erun e0 e2 r2 (10, bh, 1, ls, c - 97 + 1, gr, 0, un) := fun _ _ _ _ _ _ => by
          rw [hg, erun_go (by rw [hf]; decide), stepS_unit1 (ge98_97 h1) (by decide) (by decide), hf]
        refine sp_accepts hn ht2 (fun hS2 => ⟨fun _ => ⟨isBo0, ?_⟩, fun q => absurd rfl q⟩) (fun r3 er ht3 => ⟨fun q => absurd q (by decide), fun _ => ⟨isBo1, ?_⟩⟩)
        · refine h 0 r2 (c - 97 + 1) 1 isBo0 ht2 (fun bh ls un gr e0 e2 => ⟨_, (hg2 _ _ _ _ _ _).trans (stop_of (fun c2 r' e => ?_)), fun _ _ => not_compl10, fun q => absurd rfl q⟩)
          show fol 10 bh c2 = -1
          rw [fol10, if_neg (hS2 c2 r' e)]
        · subst er
          refine h 1 r3 (c - 97 + 1) 1 isBo1 ht3 (fun bh ls un gr e0 e2 => ⟨(11, bh, 1, ls, c - 97 + 1, gr e0 e2, baV e0 (c - 97 + 1) 1, un), ?_, fun q => absurd q (by decide), fun _ => ⟨compl11, rfl, rfl, rfl, rfl⟩⟩)
          refine (hg2 _ _ _ _ _ _).trans ?_
          rw [erun_go (by rw [fol10]; decide)]
          exact erun_end r3
  · subst er
    refine h 1 r1 1 0 isBo1 ht1 (fun bh ls un gr e0 e2 => ⟨(11, bh, 0, ls, 1, gr e0 e2, baV e0 1 0, un), ?_, fun q => absurd q (by decide), fun _ => ⟨compl11, rfl, rfl, rfl, rfl⟩⟩)
    refine (erun_go (by rw [fol8]; decide)).trans ?_
    exact erun_end r1
end PS
