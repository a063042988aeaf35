/-! PURE 11: each text that is a spoken number is among the ways to say its meaning -/
def okr (w : List Nat) (S : ES) : Prop := (erun 1 1 (w.map nI) S).1 = 0 ∧ compl (erun 1 1 (w.map nI) S).2.1
def fin (w : List Nat) (S : ES) : ES := (erun 1 1 (w.map nI) S).2
def lim (w : List Nat) : Prop := ∀ d ∈ w, d < 128
theorem lim_cons {d : Nat} {w : List Nat} (h : lim (d :: w)) : d < 128 ∧ lim w := ⟨h d List.mem_cons_self, fun x hx => h x (List.mem_cons_of_mem _ hx)⟩
theorem okr_cons {d : Nat} {w : List Nat} {st bh hv ls ct gr ba un : Int32} (h : okr (d :: w) (st, bh, hv, ls, ct, gr, ba, un)) : fol st bh (nI d) ≠ -1 ∧ okr w (stepS 1 1 (nI d) st bh hv ls ct gr ba un) ∧ fin (d :: w) (st, bh, hv, ls, ct, gr, ba, un) = fin w (stepS 1 1 (nI d) st bh hv ls ct gr ba un) := by
  have hf : fol st bh (nI d) ≠ -1 := fun q => by
    have h1 := h.1
    rw [List.map_cons, erun_no (S := (st, bh, hv, ls, ct, gr, ba, un)) q] at h1
    exact absurd h1 (Nat.succ_ne_zero _)
  have e : erun 1 1 ((d :: w).map nI) (st, bh, hv, ls, ct, gr, ba, un) = erun 1 1 (w.map nI) (stepS 1 1 (nI d) st bh hv ls ct gr ba un) := erun_go hf
  refine ⟨hf, ?_, ?_⟩
  · unfold okr at h ⊢
    rw [e] at h
    exact h
  · unfold fin
    rw [e]
theorem okr_nil {S : ES} (h : okr [] S) : compl S.1 := h.2
theorem fin_nil {S : ES} : fin [] S = S := rfl
theorem code_eq {d c : Nat} (hd : d < 128) (hc : c < 128) (h : nI d = nI c) : d = c := (nI_eq (by omega) (by omega)).mp h
theorem code_unit {d : Nat} (hd : d < 128) (h1 : ¬ nI d < 97) (h2 : ¬ 115 < nI d) : ∃ u, 1 ≤ u ∧ u ≤ 19 ∧ d = 96 + u := by
  obtain ⟨j, hj, e⟩ := unit_of h1 (Int32.not_lt.mp h2)
  exact ⟨j + 1, by omega, by omega, by have := code_eq hd (by omega) e; omega⟩
theorem code_unit2 {d : Nat} (hd : d < 128) (h1 : ¬ nI d < 98) (h2 : ¬ 115 < nI d) : ∃ u, 2 ≤ u ∧ u ≤ 19 ∧ d = 96 + u := by
  obtain ⟨u, a, b, c⟩ := code_unit hd (ge98_97 h1) h2
  refine ⟨u, ?_, b, c⟩
  rcases Nat.lt_or_ge u 2 with q | q
  · exfalso
    have e : u = 1 := by omega
    rw [c, e] at h1
    exact h1 (by decide)
  · exact q
theorem unit_val (u : Nat) (h : 1 ≤ u) : nI (96 + u) - 97 + 1 = nI u := by
  obtain ⟨j, rfl⟩ : ∃ j, u = j + 1 := ⟨u - 1, by omega⟩
  rw [show 96 + (j + 1) = 97 + j by omega]
  exact unit_num j
theorem unit_notlt {u : Nat} (h : 1 ≤ u) (h2 : u ≤ 19) : ¬ nI (96 + u) < 97 := nI_nlt (b := 97) (by omega) (by omega)
theorem sco0 {u : Nat} : sco 1 0 (nI u) = nI (10 * (2 * u)) := by
  unfold sco
  rw [if_pos rfl, Int32.sub_zero, show (20 : Int32) = nI 20 from rfl, pk_mul]
  congr 1; omega
theorem sco1 {u : Nat} (h : 1 ≤ u) : sco 1 1 (nI u) = nI (10 * (2 * u - 1)) := by
  unfold sco
  rw [if_neg (by decide), if_neg (by decide), show (20 : Int32) = nI 20 from rfl, pk_mul, show (10 : Int32) = nI 10 from rfl, pk_sub (by omega)]
  congr 1; omega
theorem cnt_even {u ch : Nat} (h : 2 ≤ u) : cnt (2 * u) ch = [96 + u, ch] := by
  unfold cnt
  rw [if_neg (by omega), if_neg (by omega), show (2 * u + 1) / 2 = u by omega]; rfl
theorem cnt_odd {u ch : Nat} (h : 2 ≤ u) : cnt (2 * u - 1) ch = [72, 96 + u, ch] := by
  unfold cnt
  rw [if_pos (by omega), if_neg (by omega), show (2 * u - 1 + 1) / 2 = u by omega]; rfl
theorem folU_ne {c a : Int32} (h : folU c a ≠ -1) : ¬ c < 98 ∧ ¬ 115 < c := by
  unfold folU at h
  refine ⟨fun q => h (if_pos q), fun q => ?_⟩
  by_cases q2 : c < 98
  · exact h (if_pos q2)
  · exact h (by rw [if_neg q2, if_pos q])
theorem L11 {w : List Nat} {bh hv ls ct gr ba un : Int32} (h : okr w (11, bh, hv, ls, ct, gr, ba, un)) : w = [] := by
  cases w with
  | nil => rfl
  | cons d w => exact absurd fol11 (okr_cons h).1
theorem step_unit {u : Nat} {st bh hv ls ct gr ba un : Int32} (h1 : 1 ≤ u) (h2 : u ≤ 19) (h3 : st = 0 ∨ st = 7) : stepS 1 1 (nI (96 + u)) st bh hv ls ct gr ba un = (fol st bh (nI (96 + u)), bh, hv, ls, ct, gr, ba, nI u) := by
  rw [stepS_unit0 (unit_notlt h1 h2) h3, unit_val u h1]
theorem step_count {u : Nat} {st bh hv ls ct gr ba un : Int32} (h1 : 1 ≤ u) (h2 : u ≤ 19) (h3 : st ≠ 0) (h4 : st ≠ 7) : stepS 1 1 (nI (96 + u)) st bh hv ls ct gr ba un = (fol st bh (nI (96 + u)), bh, hv, ls, nI u, gr, ba, un) := by
  rw [stepS_unit1 (unit_notlt h1 h2) h3 h4, unit_val u h1]
theorem L6 {w : List Nat} {bh hv ls ct gr ba un : Int32} (hw : lim w) (h : okr w (6, bh, hv, ls, ct, gr, ba, un)) :
    (w = [] ∧ fin w (6, bh, hv, ls, ct, gr, ba, un) = (6, bh, hv, ls, ct, gr, ba, un)) ∨ ∃ u, 1 ≤ u ∧ u ≤ 19 ∧ w = [43, 96 + u] ∧ fin w (6, bh, hv, ls, ct, gr, ba, un) = (11, bh, hv, ls, ct, gr, ba, nI u) := by
  cases w with
  | nil => exact Or.inl ⟨rfl, rfl⟩
  | cons d w =>
    obtain ⟨hd1, hw1⟩ := lim_cons hw
    obtain ⟨h1, h2, h3⟩ := okr_cons h
    have hd43 : d = 43 := by
      rw [fol6] at h1
      by_cases q : nI d = 43
      · exact code_eq hd1 (by decide) q
      · exact absurd (if_neg q) h1
    subst hd43
    have h2b : okr w (7, bh, hv, ls, ct, gr, ba, un) := h2
    have h3b : _ = fin w (7, bh, hv, ls, ct, gr, ba, un) := h3
    cases w with
    | nil => exact absurd (okr_nil h2b) not_compl7
    | cons d w =>
      obtain ⟨hd2, hw2⟩ := lim_cons hw1
      obtain ⟨g1, g2, g3⟩ := okr_cons h2b
      rw [fol7] at g1
      have c1 : ¬ nI d < 97 := fun q => g1 (if_pos q)
      have c2 : ¬ 115 < nI d := fun q => g1 (by rw [if_neg c1, if_pos q])
      obtain ⟨u, a, b, c⟩ := code_unit hd2 c1 c2
      subst c
      have hf : fol 7 bh (nI (96 + u)) = 11 := by rw [fol7, if_neg c1, if_neg c2]
      rw [step_unit a b (Or.inr rfl), hf] at g2 g3
      have e := L11 g2
      subst e
      exact Or.inr ⟨u, a, b, rfl, h3b.trans g3⟩
theorem L10 {w : List Nat} {bh hv ls ct gr ba un : Int32} (hw : lim w) (h : okr w (10, bh, hv, ls, ct, gr, ba, un)) : w = [83] ∧ fin w (10, bh, hv, ls, ct, gr, ba, un) = (11, bh, hv, ls, ct, gr, sco 1 hv ct, un) := by
  cases w with
  | nil => exact absurd (okr_nil h) not_compl10
  | cons d w =>
    obtain ⟨hd1, hw1⟩ := lim_cons hw
    obtain ⟨h1, h2, h3⟩ := okr_cons h
    have hd83 : d = 83 := by
      rw [fol10] at h1
      by_cases q : nI d = 83
      · exact code_eq hd1 (by decide) q
      · exact absurd (if_neg q) h1
    subst hd83
    have h2b : okr w (11, bh, hv, ls, ct, gr, sco 1 hv ct, un) := h2
    have e := L11 h2b
    subst e
    exact ⟨rfl, h3⟩
theorem L8 {w : List Nat} {bh ls gr ba un : Int32} (hw : lim w) (h : okr w (8, bh, 0, ls, 1, gr, ba, un)) : ∃ t, 2 ≤ t ∧ t ≤ 38 ∧ w = cnt t 83 ∧ ∃ hv ct, fin w (8, bh, 0, ls, 1, gr, ba, un) = (11, bh, hv, ls, ct, gr, nI (10 * t), un) := by
  cases w with
  | nil => exact absurd (okr_nil h) not_compl8
  | cons d w =>
    obtain ⟨hd1, hw1⟩ := lim_cons hw
    obtain ⟨h1, h2, h3⟩ := okr_cons h
    rw [fol8] at h1
    unfold folL at h1
    by_cases q72 : nI d = 72
    · have e := code_eq (c := 72) hd1 (by decide) q72
      subst e
      have h2b : okr w (9, bh, 1, ls, 1, gr, ba, un) := h2
      have h3b : _ = fin w (9, bh, 1, ls, 1, gr, ba, un) := h3
      cases w with
      | nil => exact absurd (okr_nil h2b) not_compl9
      | cons d w =>
        obtain ⟨hd2, hw2⟩ := lim_cons hw1
        obtain ⟨g1, g2, g3⟩ := okr_cons h2b
        rw [fol9] at g1
        obtain ⟨c1, c2⟩ := folU_ne g1
        obtain ⟨u, a, b, c⟩ := code_unit2 hd2 c1 c2
        subst c
        have hf : fol 9 bh (nI (96 + u)) = 10 := by rw [fol9]; exact uni_yes c1 (Int32.not_lt.mp c2)
        rw [step_count (by omega) b (by decide) (by decide), hf] at g2 g3
        obtain ⟨e, g4⟩ := L10 hw2 g2
        subst e
        refine ⟨2 * u - 1, by omega, by omega, (cnt_odd a).symm, 1, nI u, ?_⟩
        rw [h3b, g3, g4, sco1 (by omega)]
    · rw [if_neg q72] at h1
      by_cases q83 : nI d = 83
      · have e := code_eq (c := 83) hd1 (by decide) q83
        subst e
        have h2c : okr w (11, bh, 0, ls, 1, gr, sco 1 0 1, un) := h2
        have e := L11 h2c
        subst e
        refine ⟨2, by omega, by omega, rfl, 0, 1, ?_⟩
        rw [h3]
        have e9 : sco 1 0 1 = nI (10 * 2) := sco0 (u := 1)
        rw [← e9]; rfl
      · rw [if_neg q83] at h1
        obtain ⟨c1, c2⟩ := folU_ne (a := 10) h1
        obtain ⟨u, a, b, c⟩ := code_unit2 hd1 c1 c2
        subst c
        have hf : fol 8 bh (nI (96 + u)) = 10 := by
          rw [fol8]
          unfold folL
          rw [if_neg q72, if_neg q83]
          exact uni_yes (a := 10) c1 (Int32.not_lt.mp c2)
        rw [step_count (by omega) b (by decide) (by decide), hf] at h2 h3
        obtain ⟨e, g4⟩ := L10 hw1 h2
        subst e
        refine ⟨2 * u, by omega, by omega, (cnt_even a).symm, 0, nI u, ?_⟩
        rw [h3, g4, sco0]
theorem f_unit : ∀ u, u < 20 → 1 ≤ u → [96 + u] ∈ smL u := by decide +kernel
theorem f_base : ∀ t, t < 39 → 2 ≤ t → cnt t 83 ∈ smL (10 * t) := by decide +kernel
def memW (w : List Nat) (L : List (List Nat)) : Bool := L.any (fun v => decide (v = w))
theorem memW_of {w : List Nat} {L : List (List Nat)} (h : memW w L = true) : w ∈ L := by
  unfold memW at h
  rw [List.any_eq_true] at h
  obtain ⟨v, hv, e⟩ := h
  rw [decide_eq_true_eq] at e
  exact e ▸ hv
theorem f_plus0 : ∀ t, t < 39 → ∀ u, u < 20 → (t < 2 ∨ u < 1 ∨ memW (cnt t 83 ++ [43, 96 + u]) (smL (10 * t + u)) = true) := by decide +kernel
theorem f_plus (t : Nat) (h1 : t < 39) (h2 : 2 ≤ t) (u : Nat) (h3 : u < 20) (h4 : 1 ≤ u) : cnt t 83 ++ [43, 96 + u] ∈ smL (10 * t + u) := memW_of (((f_plus0 t h1 u h3).resolve_left (by omega)).resolve_left (by omega))
theorem f_less0 : ∀ t, t < 39 → ∀ u, u < 20 → (t < 2 ∨ u < 1 ∨ memW ([96 + u, 45] ++ cnt t 83) (smL (10 * t - u)) = true) := by decide +kernel
theorem f_less (t : Nat) (h1 : t < 39) (h2 : 2 ≤ t) (u : Nat) (h3 : u < 20) (h4 : 1 ≤ u) : [96 + u, 45] ++ cnt t 83 ∈ smL (10 * t - u) := memW_of (((f_less0 t h1 u h3).resolve_left (by omega)).resolve_left (by omega))
/-- what is meant by a run that began with a great of gr -/
def val (S : ES) : Int32 := numb 1 S
theorem val_base {bh hv ct gr : Int32} {t : Nat} : val (6, bh, hv, 0, ct, gr, nI (10 * t), 0) = gr + nI (10 * t) := by
  show gr + nI (10 * t) + (if (0 : Int32) = 0 then 0 else _) = _
  rw [if_pos rfl, Int32.add_zero]
theorem val_plus {bh hv ct gr : Int32} {t u : Nat} : val (11, bh, hv, 0, ct, gr, nI (10 * t), nI u) = gr + nI (10 * t + u) := by
  show gr + nI (10 * t) + (if (0 : Int32) = 0 then nI u else _) = _
  rw [if_pos rfl, Int32.add_assoc, nI_add]
theorem val_less {bh hv ct gr : Int32} {t u : Nat} (h : u ≤ 10 * t) : val (11, bh, hv, 1, ct, gr, nI (10 * t), nI u) = gr + nI (10 * t - u) := by
  show gr + nI (10 * t) + (if (1 : Int32) = 0 then nI u else if (1 : Int32) = 0 then nI u else -nI u) = _
  rw [if_neg (by decide), if_neg (by decide), Int32.add_assoc]
  congr 1
  rw [← zI_nat, ← zI_nat, ← zI_nat, zI_neg, zI_add]
  congr 1; omega
theorem val_unit {st bh hv ct gr : Int32} {u : Nat} : val (st, bh, hv, 0, ct, gr, 0, nI u) = gr + nI u := by
  show gr + 0 + (if (0 : Int32) = 0 then nI u else _) = _
  rw [if_pos rfl, Int32.add_zero]
/-- a base that was said as p: behind it nothing or "+" and a unit -/
theorem LB {w p : List Nat} {bh hv ct gr : Int32} {t : Nat} (hw : lim w) (h2 : 2 ≤ t) (ht : t ≤ 38) (hp : p = cnt t 83) (h : okr w (6, bh, hv, 0, ct, gr, nI (10 * t), 0)) : ∃ s, 1 ≤ s ∧ s < 400 ∧ p ++ w ∈ smL s ∧ val (fin w (6, bh, hv, 0, ct, gr, nI (10 * t), 0)) = gr + nI s := by
  subst hp
  rcases L6 hw h with ⟨e, f⟩ | ⟨u, a, b, e, f⟩
  · refine ⟨10 * t, by omega, by omega, ?_, ?_⟩
    · rw [e, List.append_nil]; exact f_base t (by omega) h2
    · rw [f]; exact val_base
  · refine ⟨10 * t + u, by omega, by omega, ?_, ?_⟩
    · rw [e]; exact f_plus t (by omega) h2 u (by omega) a
    · rw [f]; exact val_plus
/-- behind a unit -/
theorem LU {w : List Nat} {bh gr : Int32} {u : Nat} (hw : lim w) (h1 : 1 ≤ u) (h2 : u ≤ 19) (h : okr w (stU (nI (96 + u)), bh, 0, 0, 1, gr, 0, nI u)) :
    (∃ s, 1 ≤ s ∧ s < 400 ∧ (96 + u) :: w ∈ smL s ∧ val (fin w (stU (nI (96 + u)), bh, 0, 0, 1, gr, 0, nI u)) = gr + nI s) ∨
    (bh = 0 ∧ 2 ≤ u ∧ ∃ w', w = 71 :: w' ∧ okr w' (5, 0, 0, 0, nI u, nI (200 * (2 * u)), 0, 0) ∧ fin w (stU (nI (96 + u)), bh, 0, 0, 1, gr, 0, nI u) = fin w' (5, 0, 0, 0, nI u, nI (200 * (2 * u)), 0, 0)) := by
  cases w with
  | nil => exact Or.inl ⟨u, h1, by omega, f_unit u (by omega) h1, val_unit⟩
  | cons d w =>
    obtain ⟨hd1, hw1⟩ := lim_cons hw
    obtain ⟨g1, g2, g3⟩ := okr_cons h
    by_cases q45 : nI d = 45
    · have e := code_eq (c := 45) hd1 (by decide) q45
      subst e
      have hf : fol (stU (nI (96 + u))) bh (nI 45) = 8 := folU_dash _ _
      have g2b : okr w (fol (stU (nI (96 + u))) bh (nI 45), bh, 0, 1, 1, gr, 0, nI u) := g2
      have g3b : _ = fin w (fol (stU (nI (96 + u))) bh (nI 45), bh, 0, 1, 1, gr, 0, nI u) := g3
      rw [hf] at g2b g3b
      obtain ⟨t, a, b, c, hv, ct, f⟩ := L8 hw1 g2b
      refine Or.inl ⟨10 * t - u, by omega, by omega, ?_, ?_⟩
      · rw [c]; exact f_less t (by omega) a u (by omega) h1
      · rw [g3b, f]; exact val_less (by omega)
    · by_cases hc : nI (96 + u) = 97
      · exfalso
        refine g1 ?_
        unfold stU
        rw [if_pos hc, fol4, if_neg q45]
      · have hu : 2 ≤ u := by
          rcases Nat.lt_or_ge u 2 with q | q
          · exfalso
            have e : u = 1 := by omega
            rw [e] at hc
            exact hc rfl
          · exact q
        have hs : stU (nI (96 + u)) = 3 := if_neg hc
        rw [hs] at g1 g2 g3 ⊢
        rw [fol3, if_neg q45] at g1
        by_cases q83 : nI d = 83
        · have e := code_eq (c := 83) hd1 (by decide) q83
          subst e
          have g2c : okr w (6, bh, 0, 0, nI u, gr, sco 1 0 (nI u), 0) := g2
          have g3c : _ = fin w (6, bh, 0, 0, nI u, gr, sco 1 0 (nI u), 0) := g3
          rw [sco0] at g2c g3c
          obtain ⟨s, a, b, c, f⟩ := LB (p := [96 + u, 83]) hw1 (by omega) (by omega) (cnt_even hu).symm g2c
          exact Or.inl ⟨s, a, b, c, by rw [g3c]; exact f⟩
        · unfold folC at g1
          rw [if_neg q83] at g1
          by_cases q71 : nI d = 71
          · have e := code_eq (c := 71) hd1 (by decide) q71
            subst e
            rw [if_pos q71] at g1
            have hb : bh = 0 := by
              by_cases q : bh = 0
              · exact q
              · exact absurd (if_neg q) g1
            subst hb
            refine Or.inr ⟨rfl, hu, w, rfl, ?_⟩
            have g2d : okr w (5, 0, 0, 0, nI u, 20 * sco 1 0 (nI u), 0, 0) := g2
            have g3d : _ = fin w (5, 0, 0, 0, nI u, 20 * sco 1 0 (nI u), 0, 0) := g3
            have e9 : 20 * sco 1 0 (nI u) = nI (200 * (2 * u)) := by
              rw [sco0, show (20 : Int32) = nI 20 from rfl, pk_mul]
              congr 1; omega
            rw [e9] at g2d g3d
            exact ⟨g2d, g3d⟩
          · exact absurd (if_neg q71) g1
/-- behind "H" -/
theorem LH {w : List Nat} {bh gr : Int32} (hw : lim w) (h : okr w (1, bh, 1, 0, 1, gr, 0, 0)) :
    (∃ s, 1 ≤ s ∧ s < 400 ∧ 72 :: w ∈ smL s ∧ val (fin w (1, bh, 1, 0, 1, gr, 0, 0)) = gr + nI s) ∨
    (bh = 0 ∧ ∃ u w', 2 ≤ u ∧ u ≤ 19 ∧ w = (96 + u) :: 71 :: w' ∧ okr w' (5, 0, 1, 0, nI u, nI (200 * (2 * u - 1)), 0, 0) ∧ fin w (1, bh, 1, 0, 1, gr, 0, 0) = fin w' (5, 0, 1, 0, nI u, nI (200 * (2 * u - 1)), 0, 0)) := by
  cases w with
  | nil => exact absurd (okr_nil h) not_compl1
  | cons d w =>
    obtain ⟨hd1, hw1⟩ := lim_cons hw
    obtain ⟨g1, g2, g3⟩ := okr_cons h
    rw [fol1] at g1
    obtain ⟨c1, c2⟩ := folU_ne g1
    obtain ⟨u, a, b, c⟩ := code_unit2 hd1 c1 c2
    subst c
    have hf : fol 1 bh (nI (96 + u)) = 2 := by rw [fol1]; exact uni_yes c1 (Int32.not_lt.mp c2)
    rw [step_count (by omega) b (by decide) (by decide), hf] at g2 g3
    cases w with
    | nil => exact absurd (okr_nil g2) not_compl2
    | cons d w =>
      obtain ⟨hd2, hw2⟩ := lim_cons hw1
      obtain ⟨k1, k2, k3⟩ := okr_cons g2
      rw [fol2] at k1
      by_cases q83 : nI d = 83
      · have e := code_eq (c := 83) hd2 (by decide) q83
        subst e
        have k2b : okr w (6, bh, 1, 0, nI u, gr, sco 1 1 (nI u), 0) := k2
        have k3b : _ = fin w (6, bh, 1, 0, nI u, gr, sco 1 1 (nI u), 0) := k3
        rw [sco1 (by omega)] at k2b k3b
        obtain ⟨s, a1, b1, c1, f⟩ := LB (p := [72, 96 + u, 83]) hw2 (by omega) (by omega) (cnt_odd a).symm k2b
        exact Or.inl ⟨s, a1, b1, c1, by rw [g3, k3b]; exact f⟩
      · unfold folC at k1
        rw [if_neg q83] at k1
        by_cases q71 : nI d = 71
        · have e := code_eq (c := 71) hd2 (by decide) q71
          subst e
          rw [if_pos q71] at k1
          have hb : bh = 0 := by
            by_cases q : bh = 0
            · exact q
            · exact absurd (if_neg q) k1
          subst hb
          have k2c : okr w (5, 0, 1, 0, nI u, 20 * sco 1 1 (nI u), 0, 0) := k2
          have k3c : _ = fin w (5, 0, 1, 0, nI u, 20 * sco 1 1 (nI u), 0, 0) := k3
          have e9 : 20 * sco 1 1 (nI u) = nI (200 * (2 * u - 1)) := by
            rw [sco1 (by omega), show (20 : Int32) = nI 20 from rfl, pk_mul]
            congr 1; omega
          rw [e9] at k2c k3c
          exact Or.inr ⟨rfl, u, w, a, b, rfl, k2c, g3.trans k3c⟩
        · exact absurd (if_neg q71) k1
/-- from the start, or behind "&" -/
theorem LStart {w : List Nat} {bh gr : Int32} (hw : lim w) (h : okr w (0, bh, 0, 0, 1, gr, 0, 0)) :
    (∃ s, 1 ≤ s ∧ s < 400 ∧ w ∈ smL s ∧ val (fin w (0, bh, 0, 0, 1, gr, 0, 0)) = gr + nI s) ∨
    (bh = 0 ∧ ∃ g w' hv ct, 2 ≤ g ∧ g < 39 ∧ w = cnt g 71 ++ w' ∧ okr w' (5, 0, hv, 0, ct, nI (200 * g), 0, 0) ∧ fin w (0, bh, 0, 0, 1, gr, 0, 0) = fin w' (5, 0, hv, 0, ct, nI (200 * g), 0, 0)) := by
  cases w with
  | nil => exact absurd (okr_nil h) not_compl0
  | cons d w =>
    obtain ⟨hd1, hw1⟩ := lim_cons hw
    obtain ⟨g1, g2, g3⟩ := okr_cons h
    rw [fol0] at g1
    unfold folS at g1
    by_cases q71 : nI d = 71
    · have e := code_eq (c := 71) hd1 (by decide) q71
      subst e
      rw [if_pos q71] at g1
      have hb : bh = 0 := by
        by_cases q : bh = 0
        · exact q
        · exact absurd (if_neg q) g1
      subst hb
      have g2b : okr w (5, 0, 0, 0, 1, 20 * sco 1 0 1, 0, 0) := g2
      have g3b : _ = fin w (5, 0, 0, 0, 1, 20 * sco 1 0 1, 0, 0) := g3
      have e9 : (20 : Int32) * sco 1 0 1 = nI (200 * 2) := by decide
      rw [e9] at g2b g3b
      exact Or.inr ⟨rfl, 2, w, 0, 1, by omega, by omega, rfl, g2b, g3b⟩
    rw [if_neg q71] at g1
    by_cases q72 : nI d = 72
    · have e := code_eq (c := 72) hd1 (by decide) q72
      subst e
      have g2c : okr w (1, bh, 1, 0, 1, gr, 0, 0) := g2
      have g3c : _ = fin w (1, bh, 1, 0, 1, gr, 0, 0) := g3
      rcases LH hw1 g2c with ⟨s, a, b, c, f⟩ | ⟨hb, u, w', a, b, c, d1, f⟩
      · exact Or.inl ⟨s, a, b, c, by rw [g3c]; exact f⟩
      · refine Or.inr ⟨hb, 2 * u - 1, w', 1, nI u, by omega, by omega, ?_, d1, g3c.trans f⟩
        rw [c, cnt_odd a]; rfl
    rw [if_neg q72] at g1
    by_cases q83 : nI d = 83
    · have e := code_eq (c := 83) hd1 (by decide) q83
      subst e
      have g2d : okr w (6, bh, 0, 0, 1, gr, sco 1 0 1, 0) := g2
      have g3d : _ = fin w (6, bh, 0, 0, 1, gr, sco 1 0 1, 0) := g3
      have e9 : sco 1 0 1 = nI (10 * 2) := sco0 (u := 1)
      rw [e9] at g2d g3d
      obtain ⟨s, a, b, c, f⟩ := LB (p := [83]) (t := 2) hw1 (by omega) (by omega) rfl g2d
      exact Or.inl ⟨s, a, b, c, by rw [g3d]; exact f⟩
    rw [if_neg q83] at g1
    have hu : ¬ nI d < 97 ∧ ¬ 115 < nI d := by
      by_cases q97 : nI d = 97
      · rw [q97]; exact ⟨by decide, by decide⟩
      · rw [if_neg q97] at g1
        obtain ⟨c1, c2⟩ := folU_ne (a := 3) g1
        exact ⟨ge98_97 c1, c2⟩
    obtain ⟨u, a, b, c⟩ := code_unit hd1 hu.1 hu.2
    subst c
    have hf : fol 0 bh (nI (96 + u)) = stU (nI (96 + u)) := fol0_unit hu.1 (Int32.not_lt.mp hu.2)
    rw [step_unit a b (Or.inl rfl), hf] at g2 g3
    rcases LU hw1 a b g2 with ⟨s, a1, b1, c1, f⟩ | ⟨hb, a1, w', c1, d1, f⟩
    · exact Or.inl ⟨s, a1, b1, c1, by rw [g3]; exact f⟩
    · refine Or.inr ⟨hb, 2 * u, w', 0, nI u, by omega, by omega, ?_, d1, g3.trans f⟩
      rw [c1, cnt_even a1]; rfl
theorem raw_sm {s : Nat} {v : List Nat} (h : s < 400) (hv : v ∈ smL s) : v ∈ rawW s := by
  unfold rawW
  rw [if_pos h]
  exact List.mem_append_left _ hv
theorem raw_gr {g s : Nat} {v : List Nat} (h1 : 2 ≤ g) (h2 : g < 39) (hs : s < 400) (hv : v ∈ grL g s) : v ∈ rawW (200 * g + s) := by
  unfold rawW
  refine List.mem_append_right _ (List.mem_flatMap.mpr ⟨g, ?_, ?_⟩)
  · rw [List.mem_range'_1]
    unfold loH hiH
    omega
  · rw [show 200 * g + s - 200 * g = s by omega]
    exact hv
/-- a text that is a spoken number is one of the ways to say what it means -/
theorem text_way {w : List Nat} (hw : lim w) (h : okr w S0) : ∃ n, 1 ≤ n ∧ n < 8000 ∧ w ∈ rawW n ∧ val (fin w S0) = nI n := by
  rcases LStart hw h with ⟨s, a, b, c, f⟩ | ⟨-, g, w', hv, ct, a, b, c, d1, f⟩
  · exact ⟨s, a, by omega, raw_sm b c, by rw [f, Int32.zero_add]⟩
  · have hw' : lim w' := fun d hd => hw d (by rw [c]; exact List.mem_append_right _ hd)
    cases w' with
    | nil =>
      refine ⟨200 * g + 0, by omega, by omega, raw_gr a b (by omega) ?_, ?_⟩
      · unfold grL
        rw [if_pos rfl, c, List.append_nil]
        exact List.mem_cons_self
      · rw [f, fin_nil]
        show nI (200 * g) + 0 + (if (0 : Int32) = 0 then 0 else _) = _
        rw [if_pos rfl, Int32.add_zero, Int32.add_zero]; rfl
    | cons d w' =>
      obtain ⟨hd, hw2⟩ := lim_cons hw'
      obtain ⟨k1, k2, k3⟩ := okr_cons d1
      have hd38 : d = 38 := by
        rw [fol5] at k1
        by_cases q : nI d = 38
        · exact code_eq hd (by decide) q
        · exact absurd (if_neg q) k1
      subst hd38
      have k2b : okr w' (0, 1, 0, 0, 1, nI (200 * g), 0, 0) := k2
      have k3b : _ = fin w' (0, 1, 0, 0, 1, nI (200 * g), 0, 0) := k3
      rcases LStart hw2 k2b with ⟨s, a1, b1, c1, f1⟩ | ⟨hb, -⟩
      · refine ⟨200 * g + s, by omega, by omega, raw_gr a b b1 ?_, ?_⟩
        · unfold grL
          rw [if_neg (by omega), c]
          exact List.mem_map.mpr ⟨w', c1, rfl⟩
        · rw [f, k3b, f1, nI_add]
      · exact absurd hb (by decide)

