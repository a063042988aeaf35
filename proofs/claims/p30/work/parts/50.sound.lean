/-! PURE A: every way is a valid text and means its number; nobody understands -5 -/
def chkT (w : List Nat) : Bool := w.all (fun d => decide (32 ≤ d) && decide (d ≤ 126))
def chkW (bh : Int32) (s : Nat) (w : List Nat) : Bool :=
  decide ((erun 1 1 (w.map nI) (0, bh, 0, 0, 1, 0, 0, 0)).1 = 0) && (decide (compl (erun 1 1 (w.map nI) (0, bh, 0, 0, 1, 0, 0, 0)).2.1) && (decide ((erun 1 1 (w.map nI) (0, bh, 0, 0, 1, 0, 0, 0)).2.2.2.2.2.2.1 = 0) && (decide (numb 1 (erun 1 1 (w.map nI) (0, bh, 0, 0, 1, 0, 0, 0)).2 = nI s) && (w.all (fun d => decide (nI d ≠ 71)) && chkT w))))
theorem chkW_ok : ∀ s, s < 400 → s = 0 ∨ (smL s).all (fun w => chkW 0 s w && chkW 1 s w) = true := by decide +kernel
def gR (h : Nat) : Nat × ES := erun 1 1 (List.map nI (cnt h 71 ++ [38])) S0
def gT (h : Nat) : Nat × ES := (0, (0, 1, 0, 0, 1, nI (200 * h), 0, 0))
def chkG (h : Nat) : Bool := decide ((gR h).1 = 0) && (decide ((gR h).2.1 = 0) && (decide ((gR h).2.2.1 = 1) && (decide ((gR h).2.2.2.1 = 0) && (decide ((gR h).2.2.2.2.1 = 0) && (decide ((gR h).2.2.2.2.2.1 = 1) && (decide ((gR h).2.2.2.2.2.2.1 = nI (200 * h)) && (decide ((gR h).2.2.2.2.2.2.2.1 = 0) && (decide ((gR h).2.2.2.2.2.2.2.2 = 0) && (decide ((erun 1 1 ((cnt h 71).map nI) S0).1 = 0) && (decide (compl (erun 1 1 ((cnt h 71).map nI) S0).2.1) && (decide (numb 1 (erun 1 1 ((cnt h 71).map nI) S0).2 = nI (200 * h)) && chkT (cnt h 71))))))))))))
theorem chkG_ok : ∀ h, h < 39 → h < 2 ∨ chkG h = true := by decide +kernel
def setG (S : ES) (g : Int32) : ES := (S.1, S.2.1, S.2.2.1, S.2.2.2.1, S.2.2.2.2.1, g, S.2.2.2.2.2.2.1, S.2.2.2.2.2.2.2)
theorem step_setG {e0 e2 c st bh hv ls ct gr ba un g : Int32} (h : c ≠ 71) : stepS e0 e2 c st bh hv ls ct g ba un = setG (stepS e0 e2 c st bh hv ls ct gr ba un) g := by
  unfold stepS
  rw [if_neg h, if_neg h]
  by_cases q1 : c = 38
  · rw [if_pos q1, if_pos q1]; rfl
  rw [if_neg q1, if_neg q1]
  by_cases q2 : c = 43
  · rw [if_pos q2, if_pos q2]; rfl
  rw [if_neg q2, if_neg q2]
  by_cases q3 : c = 45
  · rw [if_pos q3, if_pos q3]; rfl
  rw [if_neg q3, if_neg q3]
  by_cases q4 : c = 72
  · rw [if_pos q4, if_pos q4]; rfl
  rw [if_neg q4, if_neg q4]
  by_cases q5 : c = 83
  · rw [if_pos q5, if_pos q5]; rfl
  rw [if_neg q5, if_neg q5]
  by_cases q6 : st = 0 ∨ st = 7
  · rw [if_pos q6, if_pos q6]; rfl
  · rw [if_neg q6, if_neg q6]; rfl
theorem erun_setG {e0 e2 g : Int32} : ∀ (l : List Int32) (S : ES), (∀ c ∈ l, c ≠ 71) → erun e0 e2 l (setG S g) = ((erun e0 e2 l S).1, setG (erun e0 e2 l S).2 g)
  | [], _, _ => rfl
  | c :: r, (st, bh, hv, ls, ct, gr, ba, un), h => by
    by_cases q : fol st bh c = -1
    · rw [erun_no (S := setG (st, bh, hv, ls, ct, gr, ba, un) g) q, erun_no (S := (st, bh, hv, ls, ct, gr, ba, un)) q]
    · show erun e0 e2 (c :: r) (st, bh, hv, ls, ct, g, ba, un) = _
      rw [erun_go q, erun_go q, step_setG (gr := gr) (h c List.mem_cons_self)]
      exact erun_setG r _ (fun d hd => h d (List.mem_cons_of_mem _ hd))
theorem erun_app {e0 e2 : Int32} {b : List Int32} : ∀ (a : List Int32) (S : ES), (erun e0 e2 a S).1 = 0 → erun e0 e2 (a ++ b) S = erun e0 e2 b (erun e0 e2 a S).2
  | [], _, _ => rfl
  | c :: r, (st, bh, hv, ls, ct, gr, ba, un), h => by
    by_cases q : fol st bh c = -1
    · rw [erun_no (S := (st, bh, hv, ls, ct, gr, ba, un)) q] at h
      exact absurd h (by show (c :: r).length ≠ 0; exact Nat.succ_ne_zero _)
    · rw [erun_go q] at h
      rw [List.cons_append, erun_go q, erun_go q]
      exact erun_app r _ h
theorem chkW_use {bh : Int32} {s : Nat} {w : List Nat} (h : chkW bh s w = true) : (erun 1 1 (w.map nI) (0, bh, 0, 0, 1, 0, 0, 0)).1 = 0 ∧ compl (erun 1 1 (w.map nI) (0, bh, 0, 0, 1, 0, 0, 0)).2.1 ∧ (erun 1 1 (w.map nI) (0, bh, 0, 0, 1, 0, 0, 0)).2.2.2.2.2.2.1 = 0 ∧ numb 1 (erun 1 1 (w.map nI) (0, bh, 0, 0, 1, 0, 0, 0)).2 = nI s ∧ (∀ c ∈ w.map nI, c ≠ 71) ∧ ∀ d ∈ w, 32 ≤ d ∧ d ≤ 126 := by
  unfold chkW at h
  simp only [Bool.and_eq_true, decide_eq_true_eq] at h
  obtain ⟨a, b, c, d, e, f⟩ := h
  refine ⟨a, b, c, d, fun x hx => ?_, fun x hx => ?_⟩
  · obtain ⟨y, hy, rfl⟩ := List.mem_map.mp hx
    exact of_decide_eq_true (List.all_eq_true.mp e y hy)
  · have := List.all_eq_true.mp f x hx
    simp only [Bool.and_eq_true, decide_eq_true_eq] at this
    exact this
theorem numb_setG {S : ES} {g : Int32} (h : S.2.2.2.2.2.1 = 0) : numb 1 (setG S g) = g + numb 1 S := by
  obtain ⟨st, bh, hv, ls, ct, gr, ba, un⟩ := S
  have h : gr = 0 := h
  subst h
  show g + ba + _ = g + (0 + ba + _)
  rw [Int32.zero_add, ← Int32.add_assoc]; rfl
theorem sm_sound {s : Nat} {v : List Nat} (h1 : 1 ≤ s) (hs : s < 400) (hv : v ∈ smL s) (bh : Int32) (hb : bh = 0 ∨ bh = 1) (g : Int32) : (erun 1 1 (v.map nI) (0, bh, 0, 0, 1, g, 0, 0)).1 = 0 ∧ compl (erun 1 1 (v.map nI) (0, bh, 0, 0, 1, g, 0, 0)).2.1 ∧ numb 1 (erun 1 1 (v.map nI) (0, bh, 0, 0, 1, g, 0, 0)).2 = g + nI s ∧ ∀ d ∈ v, 32 ≤ d ∧ d ≤ 126 := by
  have h9 := List.all_eq_true.mp ((chkW_ok s hs).resolve_left (by omega)) v hv
  rw [Bool.and_eq_true] at h9
  have key : chkW bh s v = true := by
    rcases hb with e | e
    · rw [e]; exact h9.1
    · rw [e]; exact h9.2
  obtain ⟨a, b, c, d, e, f⟩ := chkW_use key
  have hg := erun_setG (e0 := 1) (e2 := 1) (g := g) (v.map nI) (0, bh, 0, 0, 1, 0, 0, 0) e
  have hg : erun 1 1 (v.map nI) (0, bh, 0, 0, 1, g, 0, 0) = _ := hg
  rw [hg]
  exact ⟨a, b, (numb_setG c).trans (by rw [d]), f⟩
theorem gr_sound {h : Nat} (h2 : 2 ≤ h) (hh : h < 39) : erun 1 1 ((cnt h 71 ++ [38]).map nI) S0 = (0, ((0, 1, 0, 0, 1, nI (200 * h), 0, 0) : ES)) ∧ okr (cnt h 71) S0 ∧ val (fin (cnt h 71) S0) = nI (200 * h) ∧ ∀ d ∈ cnt h 71, 32 ≤ d ∧ d ≤ 126 := by
  have h9 := (chkG_ok h hh).resolve_left (by omega)
  unfold chkG at h9
  simp only [Bool.and_eq_true, decide_eq_true_eq] at h9
  obtain ⟨a1, a2, a3, a4, a5, a6, a7, a8, a9, b, c, d, e⟩ := h9
  have a : gR h = gT h := by
    have e0 : gR h = ((gR h).1, (gR h).2.1, (gR h).2.2.1, (gR h).2.2.2.1, (gR h).2.2.2.2.1, (gR h).2.2.2.2.2.1, (gR h).2.2.2.2.2.2.1, (gR h).2.2.2.2.2.2.2.1, (gR h).2.2.2.2.2.2.2.2) := rfl
    rw [e0, a1, a2, a3, a4, a5, a6, a7, a8, a9]
    rfl
  refine ⟨a, ⟨b, c⟩, d, fun x hx => ?_⟩
  have := List.all_eq_true.mp e x hx
  simp only [Bool.and_eq_true, decide_eq_true_eq] at this
  exact this
theorem raw_sound {n : Nat} {w : List Nat} (h1 : 1 ≤ n) (hn : n < 8000) (hm : w ∈ rawW n) : okr w S0 ∧ val (fin w S0) = nI n ∧ ∀ d ∈ w, 32 ≤ d ∧ d ≤ 126 := by
  unfold rawW at hm
  rcases List.mem_append.mp hm with hm | hm
  · by_cases q : n < 400
    · rw [if_pos q] at hm
      obtain ⟨a, b, c, d⟩ := sm_sound h1 q hm 0 (Or.inl rfl) 0
      refine ⟨⟨a, b⟩, ?_, d⟩
      have c : val (fin w S0) = 0 + nI n := c
      rw [c, Int32.zero_add]
    · rw [if_neg q] at hm
      cases hm
  · obtain ⟨h, hh, hm⟩ := List.mem_flatMap.mp hm
    have hr := List.mem_range'_1.mp hh
    unfold loH hiH at hr
    have a1 : 2 ≤ h := by omega
    have a2 : h < 39 := by omega
    have a3 : 200 * h ≤ n := by
      have : h ≤ n / 200 := by omega
      have := Nat.div_mul_le_self n 200
      have : h * 200 ≤ n / 200 * 200 := Nat.mul_le_mul_right 200 (by assumption)
      omega
    have a4 : n - 200 * h < 400 := by
      have := Nat.div_add_mod n 200
      have := Nat.mod_lt n (show 0 < 200 by omega)
      omega
    obtain ⟨g1, g2, g3, g4⟩ := gr_sound a1 a2
    unfold grL at hm
    by_cases q : n - 200 * h = 0
    · rw [if_pos q] at hm
      rw [List.mem_singleton.mp hm]
      refine ⟨g2, ?_, g4⟩
      rw [g3]
      congr 1
      omega
    · rw [if_neg q] at hm
      obtain ⟨v, hv, rfl⟩ := List.mem_map.mp hm
      obtain ⟨b1, b2, b3, b4⟩ := sm_sound (by omega) a4 hv 1 (Or.inr rfl) (nI (200 * h))
      have ea : (cnt h 71 ++ 38 :: v).map nI = (cnt h 71 ++ [38]).map nI ++ v.map nI := by
        rw [← List.map_append, List.append_assoc]; rfl
      have hrun : erun 1 1 ((cnt h 71 ++ 38 :: v).map nI) S0 = erun 1 1 (v.map nI) (0, 1, 0, 0, 1, nI (200 * h), 0, 0) := by
        rw [ea, erun_app _ _ (by rw [g1]), g1]
      refine ⟨?_, ?_, fun d hd => ?_⟩
      · unfold okr
        rw [hrun]; exact ⟨b1, b2⟩
      · unfold val fin
        rw [hrun, b3, nI_add]
        congr 1
        omega
      · rcases List.mem_append.mp hd with hd | hd
        · exact g4 d hd
        · rcases List.mem_cons.mp hd with hd | hd
          · subst hd; exact ⟨by omega, by omega⟩
          · exact b4 d hd
/-! nobody understands -5 -/
def GJ (st hv ls : Int32) (c g b u : Nat) : Prop := 1 ≤ c ∧ c ≤ 19 ∧ g ≤ 8000 ∧ b ≤ 400 ∧ u ≤ 19 ∧ (st = 0 ∨ st = 3 ∨ st = 4 → hv = 0 ∧ c = 1) ∧ (st = 3 → 1 ≤ u) ∧ (ls = 0 ∨ (st = 8 ∧ hv = 0 ∧ c = 1) ∨ st = 9 ∨ (st = 10 ∧ 2 ≤ c) ∨ (st = 11 ∧ 20 ≤ b))
def GI (S : ES) : Prop := ∃ c g b u : Nat, S.2.2.2.2.1 = nI c ∧ S.2.2.2.2.2.1 = nI g ∧ S.2.2.2.2.2.2.1 = nI b ∧ S.2.2.2.2.2.2.2 = nI u ∧ GJ S.1 S.2.2.1 S.2.2.2.1 c g b u
theorem sco_nat {e0 hv : Int32} {c : Nat} (h1 : 1 ≤ c) (h2 : c ≤ 19) : ∃ s : Nat, sco e0 hv (nI c) = nI s ∧ s ≤ 380 ∧ (hv = 0 ∨ 2 ≤ c → 20 ≤ s) := by
  unfold sco
  have e : (20 : Int32) * nI c = nI (20 * c) := pk_mul 20 c
  rw [e]
  by_cases q : hv = 0
  · rw [if_pos q]
    exact ⟨20 * c, Int32.sub_zero _, by omega, fun _ => by omega⟩
  · rw [if_neg q]
    by_cases q2 : e0 = 0
    · rw [if_pos q2]
      exact ⟨20 * c, Int32.sub_zero _, by omega, fun _ => by omega⟩
    · rw [if_neg q2]
      refine ⟨20 * c - 10, pk_sub (b := 10) (by omega), by omega, fun q3 => ?_⟩
      have := q3.resolve_left q
      omega
theorem fol_vals {st bh c : Int32} (h : fol st bh c ≠ -1) : st = 0 ∨ st = 1 ∨ st = 2 ∨ st = 3 ∨ st = 4 ∨ st = 5 ∨ st = 6 ∨ st = 7 ∨ st = 8 ∨ st = 9 ∨ st = 10 := by
  refine Classical.byContradiction fun n => h ?_
  simp only [not_or] at n
  obtain ⟨n0, n1, n2, n3, n4, n5, n6, n7, n8, n9, n10⟩ := n
  unfold fol
  rw [if_neg n0, if_neg n1, if_neg n2, if_neg n3, if_neg n4, if_neg n5, if_neg n6, if_neg n7, if_neg n8, if_neg n9, if_neg n10]
theorem unit98 {c : Int32} (h1 : ¬ c < 98) (h2 : ¬ 115 < c) : ∃ u : Nat, 2 ≤ u ∧ u ≤ 19 ∧ c - 97 + 1 = nI u := by
  obtain ⟨j, hj, e⟩ := unit_of (ge98_97 h1) (Int32.not_lt.mp h2)
  subst e
  refine ⟨j + 1, ?_, by omega, unit_num j⟩
  rcases Nat.eq_zero_or_pos j with z | z
  · subst z; exact absurd (by decide) h1
  · omega
theorem unit97 {c : Int32} (h1 : ¬ c < 97) (h2 : ¬ 115 < c) : ∃ u : Nat, 1 ≤ u ∧ u ≤ 19 ∧ c - 97 + 1 = nI u := by
  obtain ⟨j, hj, e⟩ := unit_of h1 (Int32.not_lt.mp h2)
  subst e
  exact ⟨j + 1, by omega, by omega, unit_num j⟩
theorem folU_in {c a : Int32} (h : folU c a ≠ -1) : (¬ c < 98 ∧ ¬ 115 < c) ∧ folU c a = a := by
  obtain ⟨h1, h2⟩ := folU_ne h
  exact ⟨⟨h1, h2⟩, uni_yes h1 (Int32.not_lt.mp h2)⟩
theorem folC_in {bh c : Int32} (h : folC bh c ≠ -1) : (c = 83 ∧ folC bh c = 6) ∨ (c = 71 ∧ folC bh c = 5) := by
  unfold folC at h ⊢
  by_cases q : c = 83
  · exact Or.inl ⟨q, if_pos q⟩
  · rw [if_neg q] at h ⊢
    by_cases q2 : c = 71
    · rw [if_pos q2] at h ⊢
      by_cases q3 : bh = 0
      · exact Or.inr ⟨q2, if_pos q3⟩
      · rw [if_neg q3] at h; exact absurd rfl h
    · rw [if_neg q2] at h; exact absurd rfl h
section GST
variable {e0 e2 st bh hv ls ct gr ba un : Int32} {c g b u : Nat}
theorem GI_mk {v : Int32} (h : GJ v hv ls c g b u) : GI (v, bh, hv, ls, nI c, nI g, nI b, nI u) := ⟨c, g, b, u, rfl, rfl, rfl, rfl, h⟩
/-- a great -/
theorem GI_71 {v : Int32} (hf : fol st bh 71 = v) (hv5 : v = 5) (h : GJ st hv ls c g b u) (hl : ls = 0) : GI (stepS e0 e2 71 st bh hv ls (nI c) (nI g) (nI b) (nI u)) := by
  obtain ⟨c1, c2, g1, b1, u1, j1, j2, j3⟩ := h
  have hs : stepS e0 e2 71 st bh hv ls (nI c) (nI g) (nI b) (nI u) = (fol st bh 71, bh, hv, ls, (if st = 3 then nI u else nI c), (if e2 = 0 then sco e0 hv (if st = 3 then nI u else nI c) else 20 * sco e0 hv (if st = 3 then nI u else nI c)), nI b, (if st = 3 then 0 else nI u)) := rfl
  rw [hs, hf, hv5]
  obtain ⟨k, k1, k2, ek⟩ : ∃ k : Nat, 1 ≤ k ∧ k ≤ 19 ∧ (if st = 3 then nI u else nI c) = nI k := by
    by_cases q : st = 3
    · rw [if_pos q]; exact ⟨u, j2 q, u1, rfl⟩
    · rw [if_neg q]; exact ⟨c, c1, c2, rfl⟩
  obtain ⟨z, z1, ez⟩ : ∃ z : Nat, z ≤ 19 ∧ (if st = 3 then (0 : Int32) else nI u) = nI z := by
    by_cases q : st = 3
    · rw [if_pos q]; exact ⟨0, by omega, rfl⟩
    · rw [if_neg q]; exact ⟨u, u1, rfl⟩
  obtain ⟨s, s1, s2, s3⟩ := sco_nat (e0 := e0) (hv := hv) k1 k2
  rw [ek, ez, s1]
  obtain ⟨y, y1, ey⟩ : ∃ y : Nat, y ≤ 8000 ∧ (if e2 = 0 then nI s else 20 * nI s) = nI y := by
    by_cases q : e2 = 0
    · rw [if_pos q]; exact ⟨s, by omega, rfl⟩
    · rw [if_neg q]; exact ⟨20 * s, by omega, pk_mul 20 s⟩
  rw [ey]
  exact GI_mk ⟨k1, k2, y1, b1, z1, fun q => absurd q (by decide), fun q => absurd q (by decide), Or.inl hl⟩
/-- a score -/
theorem GI_83 {v : Int32} (hf : fol st bh 83 = v) (hv6 : v = 6 ∨ v = 11) (h : GJ st hv ls c g b u) (hl : ls = 0 ∨ (v = 11 ∧ st ≠ 3 ∧ (hv = 0 ∨ 2 ≤ c))) : GI (stepS e0 e2 83 st bh hv ls (nI c) (nI g) (nI b) (nI u)) := by
  obtain ⟨c1, c2, g1, b1, u1, j1, j2, j3⟩ := h
  have hs : stepS e0 e2 83 st bh hv ls (nI c) (nI g) (nI b) (nI u) = (fol st bh 83, bh, hv, ls, (if st = 3 then nI u else nI c), nI g, sco e0 hv (if st = 3 then nI u else nI c), (if st = 3 then 0 else nI u)) := rfl
  rw [hs, hf]
  have hvv : ¬ (v = 0 ∨ v = 3 ∨ v = 4) ∧ v ≠ 3 := by
    rcases hv6 with e | e <;> subst e <;> decide
  by_cases q : st = 3
  · rw [if_pos q, if_pos q]
    obtain ⟨s, s1, s2, s3⟩ := sco_nat (e0 := e0) (hv := hv) (j2 q) u1
    rw [s1]
    exact GI_mk (u := 0) ⟨j2 q, u1, g1, by omega, by omega, fun n => absurd n hvv.1, fun n => absurd n hvv.2, Or.inl (hl.resolve_right (fun n => n.2.1 q))⟩
  · rw [if_neg q, if_neg q]
    obtain ⟨s, s1, s2, s3⟩ := sco_nat (e0 := e0) (hv := hv) c1 c2
    rw [s1]
    refine GI_mk ⟨c1, c2, g1, by omega, u1, fun n => absurd n hvv.1, fun n => absurd n hvv.2, ?_⟩
    rcases hl with hl | ⟨x1, x2, x3⟩
    · exact Or.inl hl
    · exact Or.inr (Or.inr (Or.inr (Or.inr ⟨x1, s3 x3⟩)))
theorem GI_step {x : Int32} (h : GJ st hv ls c g b u) (hf : fol st bh x ≠ -1) : GI (stepS e0 e2 x st bh hv ls (nI c) (nI g) (nI b) (nI u)) := by
  obtain ⟨c1, c2, g1, b1, u1, j1, j2, j3⟩ := id h
  have l0 : ¬ (st = 8 ∨ st = 9 ∨ st = 10 ∨ st = 11) → ls = 0 := fun n => by
    rcases j3 with q | q | q | q | q
    · exact q
    · exact absurd (Or.inl q.1) n
    · exact absurd (Or.inr (Or.inl q)) n
    · exact absurd (Or.inr (Or.inr (Or.inl q.1))) n
    · exact absurd (Or.inr (Or.inr (Or.inr q.1))) n
  rcases fol_vals hf with e | e | e | e | e | e | e | e | e | e | e <;> subst e
  · have hl := l0 (by decide)
    obtain ⟨y1, y2⟩ := j1 (Or.inl rfl)
    rw [fol0] at hf
    unfold folS at hf
    by_cases q1 : x = 71
    · subst q1
      refine GI_71 (v := fol 0 bh 71) rfl ?_ h hl
      rw [fol0]; unfold folS
      rw [if_pos rfl]
      rw [if_pos rfl] at hf
      by_cases q : bh = 0
      · rw [if_pos q]
      · rw [if_neg q] at hf; exact absurd rfl hf
    rw [if_neg q1] at hf
    by_cases q2 : x = 72
    · subst q2
      show GI (1, bh, 1, ls, nI c, nI g, nI b, nI u)
      exact GI_mk ⟨c1, c2, g1, b1, u1, fun n => absurd n (by decide), fun n => absurd n (by decide), Or.inl hl⟩
    rw [if_neg q2] at hf
    by_cases q3 : x = 83
    · subst q3
      exact GI_83 (v := 6) rfl (Or.inl rfl) h (Or.inl hl)
    rw [if_neg q3] at hf
    have hun : ∀ v : Int32, (v = 3 ∨ v = 4) → ∀ k : Nat, 1 ≤ k → k ≤ 19 → GI (v, bh, hv, ls, nI c, nI g, nI b, nI k) := fun v hv9 k k1 k2 => GI_mk ⟨c1, c2, g1, b1, k2, fun _ => ⟨y1, y2⟩, fun _ => k1, Or.inl hl⟩
    by_cases q4 : x = 97
    · subst q4
      show GI (4, bh, hv, ls, nI c, nI g, nI b, nI 1)
      exact hun 4 (Or.inr rfl) 1 (by omega) (by omega)
    rw [if_neg q4] at hf
    have q5 : ¬ x < 98 := fun q => by rw [if_pos q] at hf; exact hf rfl
    rw [if_neg q5] at hf
    have q6 : ¬ 115 < x := fun q => by rw [if_pos q] at hf; exact hf rfl
    obtain ⟨k, k1, k2, ek⟩ := unit98 q5 q6
    rw [stepS_unit0 (ge98_97 q5) (Or.inl rfl), ek, fol0]
    unfold folS
    rw [if_neg q1, if_neg q2, if_neg q3, if_neg q4, if_neg q5, if_neg q6]
    exact hun 3 (Or.inl rfl) k (by omega) k2
  · have hl := l0 (by decide)
    rw [fol1] at hf
    obtain ⟨⟨q5, q6⟩, ef⟩ := folU_in hf
    obtain ⟨k, k1, k2, ek⟩ := unit98 q5 q6
    rw [stepS_unit1 (ge98_97 q5) (by decide) (by decide), ek, fol1, ef]
    exact GI_mk ⟨by omega, k2, g1, b1, u1, fun n => absurd n (by decide), fun n => absurd n (by decide), Or.inl hl⟩
  · have hl := l0 (by decide)
    rw [fol2] at hf
    rcases folC_in hf with ⟨e, ef⟩ | ⟨e, ef⟩
    · subst e
      exact GI_83 (v := 6) (by rw [fol2]; exact ef) (Or.inl rfl) h (Or.inl hl)
    · subst e
      exact GI_71 (v := 5) (by rw [fol2]; exact ef) rfl h hl
  · have hl := l0 (by decide)
    obtain ⟨y1, y2⟩ := j1 (Or.inr (Or.inl rfl))
    rw [fol3] at hf
    by_cases q : x = 45
    · subst q
      show GI (8, bh, hv, 1, nI c, nI g, nI b, nI u)
      exact GI_mk ⟨c1, c2, g1, b1, u1, fun n => absurd n (by decide), fun n => absurd n (by decide), Or.inr (Or.inl ⟨rfl, y1, y2⟩)⟩
    · rw [if_neg q] at hf
      rcases folC_in hf with ⟨e, ef⟩ | ⟨e, ef⟩
      · subst e
        exact GI_83 (v := 6) (by rw [fol3, if_neg (by decide)]; exact ef) (Or.inl rfl) h (Or.inl hl)
      · subst e
        exact GI_71 (v := 5) (by rw [fol3, if_neg (by decide)]; exact ef) rfl h hl
  · obtain ⟨y1, y2⟩ := j1 (Or.inr (Or.inr rfl))
    rw [fol4] at hf
    by_cases q : x = 45
    · subst q
      show GI (8, bh, hv, 1, nI c, nI g, nI b, nI u)
      exact GI_mk ⟨c1, c2, g1, b1, u1, fun n => absurd n (by decide), fun n => absurd n (by decide), Or.inr (Or.inl ⟨rfl, y1, y2⟩)⟩
    · rw [if_neg q] at hf; exact absurd rfl hf
  · have hl := l0 (by decide)
    rw [fol5] at hf
    by_cases q : x = 38
    · subst q
      show GI (0, 1, 0, ls, nI 1, nI g, nI b, nI u)
      exact GI_mk ⟨by omega, by omega, g1, b1, u1, fun _ => ⟨rfl, rfl⟩, fun n => absurd n (by decide), Or.inl hl⟩
    · rw [if_neg q] at hf; exact absurd rfl hf
  · have hl := l0 (by decide)
    rw [fol6] at hf
    by_cases q : x = 43
    · subst q
      show GI (7, bh, hv, ls, nI c, nI g, nI b, nI u)
      exact GI_mk ⟨c1, c2, g1, b1, u1, fun n => absurd n (by decide), fun n => absurd n (by decide), Or.inl hl⟩
    · rw [if_neg q] at hf; exact absurd rfl hf
  · have hl := l0 (by decide)
    rw [fol7] at hf
    have q5 : ¬ x < 97 := fun q => by rw [if_pos q] at hf; exact hf rfl
    rw [if_neg q5] at hf
    have q6 : ¬ 115 < x := fun q => by rw [if_pos q] at hf; exact hf rfl
    obtain ⟨k, k1, k2, ek⟩ := unit97 q5 q6
    rw [stepS_unit0 q5 (Or.inr rfl), ek, fol7, if_neg q5, if_neg q6]
    exact GI_mk ⟨c1, c2, g1, b1, k2, fun n => absurd n (by decide), fun n => absurd n (by decide), Or.inl hl⟩
  · rw [fol8] at hf
    unfold folL at hf
    have hc : ls = 0 ∨ (hv = 0 ∧ c = 1) := by
      rcases j3 with q | q | q | q | q
      · exact Or.inl q
      · exact Or.inr q.2
      · exact absurd q (by decide)
      · exact absurd q.1 (by decide)
      · exact absurd q.1 (by decide)
    by_cases q1 : x = 72
    · subst q1
      show GI (9, bh, 1, ls, nI c, nI g, nI b, nI u)
      exact GI_mk ⟨c1, c2, g1, b1, u1, fun n => absurd n (by decide), fun n => absurd n (by decide), Or.inr (Or.inr (Or.inl rfl))⟩
    rw [if_neg q1] at hf
    by_cases q2 : x = 83
    · subst q2
      refine GI_83 (v := 11) rfl (Or.inr rfl) h ?_
      rcases hc with q | q
      · exact Or.inl q
      · exact Or.inr ⟨rfl, by decide, Or.inl q.1⟩
    rw [if_neg q2] at hf
    have q5 : ¬ x < 98 := fun q => by rw [if_pos q] at hf; exact hf rfl
    rw [if_neg q5] at hf
    have q6 : ¬ 115 < x := fun q => by rw [if_pos q] at hf; exact hf rfl
    obtain ⟨k, k1, k2, ek⟩ := unit98 q5 q6
    rw [stepS_unit1 (ge98_97 q5) (by decide) (by decide), ek, fol8]
    unfold folL
    rw [if_neg q1, if_neg q2, if_neg q5, if_neg q6]
    exact GI_mk ⟨by omega, k2, g1, b1, u1, fun n => absurd n (by decide), fun n => absurd n (by decide), Or.inr (Or.inr (Or.inr (Or.inl ⟨rfl, k1⟩)))⟩
  · rw [fol9] at hf
    obtain ⟨⟨q5, q6⟩, ef⟩ := folU_in hf
    obtain ⟨k, k1, k2, ek⟩ := unit98 q5 q6
    rw [stepS_unit1 (ge98_97 q5) (by decide) (by decide), ek, fol9, ef]
    exact GI_mk ⟨by omega, k2, g1, b1, u1, fun n => absurd n (by decide), fun n => absurd n (by decide), Or.inr (Or.inr (Or.inr (Or.inl ⟨rfl, k1⟩)))⟩
  · rw [fol10] at hf
    have hc : ls = 0 ∨ 2 ≤ c := by
      rcases j3 with q | q | q | q | q
      · exact Or.inl q
      · exact absurd q.1 (by decide)
      · exact absurd q (by decide)
      · exact Or.inr q.2
      · exact absurd q.1 (by decide)
    by_cases q : x = 83
    · subst q
      refine GI_83 (v := 11) rfl (Or.inr rfl) h ?_
      rcases hc with q | q
      · exact Or.inl q
      · exact Or.inr ⟨rfl, by decide, Or.inr q⟩
    · rw [if_neg q] at hf; exact absurd rfl hf
end GST
theorem nI_ne5 {k : Nat} (h : k < 2147483648) : nI k ≠ -5 := fun e => by
  rw [show (-5 : Int32) = zI (-5) from rfl, ← zI_nat, zI_eq (by omega) (by omega) (by omega) (by omega)] at e
  omega
theorem hv_ne5 {e0 e1 e2 : Int32} : ∀ (l : List Int32) (S : ES), GI S → hv e0 e1 e2 l S ≠ -5
  | [], (st, bh, hv', ls, ct, gr, ba, un), ⟨c, g, b, u, h1, h2, h3, h4, hj⟩ => by
    have h1 : ct = nI c := h1
    have h2 : gr = nI g := h2
    have h3 : ba = nI b := h3
    have h4 : un = nI u := h4
    subst h1 h2 h3 h4
    obtain ⟨c1, c2, g1, b1, u1, j1, j2, j3⟩ := hj
    rw [hv_nil]
    by_cases q : compl st
    · rw [if_pos (show compl (st, bh, hv', ls, nI c, nI g, nI b, nI u).1 from q)]
      show nI g + nI b + (if ls = 0 then nI u else if e1 = 0 then nI u else -nI u) ≠ -5
      by_cases ql : ls = 0
      · rw [if_pos ql, nI_add, nI_add]
        exact nI_ne5 (by omega)
      · rw [if_neg ql]
        have hb : 20 ≤ b := by
          rcases j3 with x | x | x | x | x
          · exact absurd x ql
          · exact absurd q (by rw [show st = 8 from x.1]; exact not_compl8)
          · exact absurd q (by rw [show st = 9 from x]; exact not_compl9)
          · exact absurd q (by rw [show st = 10 from x.1]; exact not_compl10)
          · exact x.2
        by_cases qe : e1 = 0
        · rw [if_pos qe, nI_add, nI_add]
          exact nI_ne5 (by omega)
        · rw [if_neg qe, nI_add, ← Int32.sub_eq_add_neg, pk_sub (by omega)]
          exact nI_ne5 (by omega)
    · rw [if_neg (show ¬ compl (st, bh, hv', ls, nI c, nI g, nI b, nI u).1 from q)]
      decide
  | x :: r, (st, bh, hv', ls, ct, gr, ba, un), ⟨c, g, b, u, h1, h2, h3, h4, hj⟩ => by
    have h1 : ct = nI c := h1
    have h2 : gr = nI g := h2
    have h3 : ba = nI b := h3
    have h4 : un = nI u := h4
    subst h1 h2 h3 h4
    by_cases q : fol st bh x = -1
    · rw [hv_no (S := (st, bh, hv', ls, nI c, nI g, nI b, nI u)) q]
      decide
    · rw [hv_go q]
      exact hv_ne5 r _ (GI_step hj q)
theorem hrd_ne5 (row : Nat → Int32) (w : List Nat) : hrd row w ≠ -5 := hv_ne5 _ S0 ⟨1, 0, 0, 0, rfl, rfl, rfl, rfl, ⟨by omega, by omega, by omega, by omega, by omega, fun _ => ⟨rfl, rfl⟩, fun n => absurd n (by decide), Or.inl rfl⟩⟩
