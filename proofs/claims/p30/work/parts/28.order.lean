/-! PURE 8: the order of the ways -/
theorem pkr_app (c : Nat) : ∀ r : List Nat, pkr (r ++ [c]) = pkr r + 128 ^ r.length * c
  | [] => by show c + 128 * 0 = 0 + 128 ^ 0 * c; omega
  | d :: r => by
    show d + 128 * pkr (r ++ [c]) = d + 128 * pkr r + 128 ^ (r.length + 1) * c
    rw [pkr_app c r, Nat.pow_succ, Nat.mul_add, Nat.mul_comm (128 ^ r.length) 128, Nat.mul_assoc]
    omega
theorem pkN_cons (c : Nat) (r : List Nat) : pkN (c :: r) = pkN r + 128 ^ r.length * c := by
  unfold pkN
  rw [List.reverse_cons, pkr_app, List.length_reverse]
theorem pkN_lt {w : List Nat} (h : okc w) : pkN w < 128 ^ w.length := by
  have := pkr_lt w.reverse (fun c hc => h c (List.mem_reverse.mp hc))
  rw [List.length_reverse] at this
  exact this
theorem pkN_ge {c : Nat} {r : List Nat} (h : okc (c :: r)) : 128 ^ r.length ≤ pkN (c :: r) := by
  rw [pkN_cons]
  have h1 := (okc_cons h).1.1
  have : 128 ^ r.length * 1 ≤ 128 ^ r.length * c := Nat.mul_le_mul_left _ h1
  omega
theorem pk_short {u v : List Nat} (hu : okc u) (hv : okc v) (h : u.length < v.length) : pkN u < pkN v := by
  have h1 := pkN_lt hu
  cases v with
  | nil => exact absurd h (Nat.not_lt_zero _)
  | cons c r =>
    have h2 := pkN_ge hv
    have h3 : 128 ^ u.length ≤ 128 ^ r.length := Nat.pow_le_pow_right (by decide) (by have h : u.length < r.length + 1 := h; omega)
    omega
theorem list_eqD : ∀ (u v : List Nat), u.length = v.length → (∀ i, i < u.length → u.getD i 0 = v.getD i 0) → u = v
  | [], [], _, _ => rfl
  | [], _ :: _, h, _ => absurd h.symm (Nat.succ_ne_zero _)
  | _ :: _, [], h, _ => absurd h (Nat.succ_ne_zero _)
  | c :: u, d :: v, h, he => by
    have e0 : c = d := he 0 (Nat.succ_pos _)
    have e1 := list_eqD u v (Nat.succ.inj h) (fun i hi => he (i + 1) (Nat.succ_lt_succ hi))
    rw [e0, e1]
theorem pkN_inj {u v : List Nat} (hu : okc u) (hv : okc v) (h : pkN u = pkN v) : u = v := by
  rcases Nat.lt_trichotomy u.length v.length with q | q | q
  · have := pk_short hu hv q; omega
  · have key : ∀ n, ∀ u v : List Nat, u.length = n → v.length = n → okc u → okc v → pkN u = pkN v → u = v := by
      intro n
      induction n with
      | zero => intro u v h1 h2 _ _ _; rw [List.eq_nil_of_length_eq_zero h1, List.eq_nil_of_length_eq_zero h2]
      | succ n ih =>
        intro u v h1 h2 hu hv he
        cases u with
        | nil => cases h1
        | cons c u =>
          cases v with
          | nil => cases h2
          | cons d v =>
            have k1 : u.length = n := Nat.succ.inj h1
            have k2 : v.length = n := Nat.succ.inj h2
            have hu2 := pkN_lt (okc_cons hu).2
            have hv2 := pkN_lt (okc_cons hv).2
            rw [pkN_cons, pkN_cons, k1, k2] at he
            rw [k1] at hu2
            rw [k2] at hv2
            have e0 : c = d := by
              rcases Nat.lt_trichotomy c d with q | q | q
              · have : 128 ^ n * (c + 1) ≤ 128 ^ n * d := Nat.mul_le_mul_left _ q
                rw [Nat.mul_add] at this
                omega
              · exact q
              · have : 128 ^ n * (d + 1) ≤ 128 ^ n * c := Nat.mul_le_mul_left _ q
                rw [Nat.mul_add] at this
                omega
            subst e0
            rw [ih u v k1 k2 (okc_cons hu).2 (okc_cons hv).2 (by omega)]
    exact key _ u v rfl q.symm hu hv h
  · have := pk_short hv hu q; omega
theorem insR_perm (x : List Nat) : ∀ r : List (List Nat), (insR x r).Perm (x :: r)
  | [] => List.Perm.refl _
  | y :: r => by
    unfold insR
    by_cases q : pkN x < pkN y
    · rw [if_pos q]
      exact ((insR_perm x r).cons y).trans (List.Perm.swap x y r)
    · rw [if_neg q]
theorem sortR_perm : ∀ L r : List (List Nat), (sortR L r).Perm (L ++ r)
  | [], r => List.Perm.refl _
  | x :: L, r => by
    show (sortR L (insR x r)).Perm (x :: (L ++ r))
    refine (sortR_perm L (insR x r)).trans ?_
    refine (List.Perm.append_left L (insR_perm x r)).trans ?_
    exact List.perm_middle
/-- strictly falling -/
def desc (r : List (List Nat)) : Prop := r.Pairwise (fun a b => pkN b < pkN a)
theorem insR_desc {x : List Nat} : ∀ {r : List (List Nat)}, desc r → (∀ y ∈ r, pkN y ≠ pkN x) → desc (insR x r)
  | [], _, _ => List.pairwise_singleton _ _
  | y :: r, h, hx => by
    unfold desc at h ⊢
    rw [List.pairwise_cons] at h
    unfold insR
    by_cases q : pkN x < pkN y
    · rw [if_pos q, List.pairwise_cons]
      refine ⟨fun z hz => ?_, insR_desc h.2 (fun z hz => hx z (List.mem_cons_of_mem _ hz))⟩
      rcases insR_mem.mp hz with e | e
      · rw [e]; exact q
      · exact h.1 z e
    · rw [if_neg q, List.pairwise_cons]
      have hy := hx y List.mem_cons_self
      refine ⟨fun z hz => ?_, List.pairwise_cons.mpr h⟩
      rcases List.mem_cons.mp hz with e | e
      · rw [e]; omega
      · have := h.1 z e; omega
theorem sortR_desc : ∀ {L r : List (List Nat)}, desc r → L.Pairwise (fun a b => pkN a ≠ pkN b) → (∀ x ∈ L, ∀ y ∈ r, pkN y ≠ pkN x) → desc (sortR L r)
  | [], r, h, _, _ => h
  | x :: L, r, h, hp, hx => by
    rw [List.pairwise_cons] at hp
    show desc (sortR L (insR x r))
    refine sortR_desc (insR_desc h (fun y hy => hx x List.mem_cons_self y hy)) hp.2 (fun z hz y hy => ?_)
    rcases insR_mem.mp hy with e | e
    · rw [e]; exact hp.1 z hz
    · exact hx z (List.mem_cons_of_mem _ hz) y e
def rk (L : List (List Nat)) (w : List Nat) : Nat := L.countP (fun y => decide (pkN y < pkN w))
/-- in a list that rises strictly, the place is the rank -/
theorem rk_asc : ∀ (W : List (List Nat)), W.Pairwise (fun a b => pkN a < pkN b) → ∀ p, p < W.length → rk W (W.getD p []) = p
  | [], _, p, hp => absurd hp (Nat.not_lt_zero _)
  | x :: W, h, p, hp => by
    rw [List.pairwise_cons] at h
    unfold rk
    rw [List.countP_cons]
    cases p with
    | zero =>
      show List.countP (fun y => decide (pkN y < pkN x)) W + (if decide (pkN x < pkN x) = true then 1 else 0) = 0
      rw [if_neg (by simp)]
      rw [Nat.add_zero, List.countP_eq_zero]
      intro y hy
      have := h.1 y hy
      simp
      omega
    | succ p =>
      have hp : p < W.length := Nat.lt_of_succ_lt_succ hp
      show List.countP (fun y => decide (pkN y < pkN (W.getD p []))) W + (if decide (pkN x < pkN (W.getD p [])) = true then 1 else 0) = p + 1
      have hm : W.getD p [] ∈ W := by
        rw [List.getD_eq_getElem?_getD, List.getElem?_eq_getElem hp]
        exact List.getElem_mem _
      have h1 := h.1 _ hm
      rw [if_pos (by simpa using h1)]
      have h2 := rk_asc W h.2 p hp
      unfold rk at h2
      rw [h2]
/-- the ways in their order: each has its rank as its place -/
theorem Ws_rank {n : Nat} (hd : (rawW n).Pairwise (fun a b => pkN a ≠ pkN b)) : (Ws n).Pairwise (fun a b => pkN a < pkN b) ∧ (Ws n).Perm (rawW n) := by
  unfold Ws
  refine ⟨List.pairwise_reverse.mpr (sortR_desc List.Pairwise.nil hd (fun x _ y hy => by cases hy)), ?_⟩
  refine (List.reverse_perm _).trans ((sortR_perm _ _).trans ?_)
  rw [List.append_nil]
theorem Ws_rk {n p : Nat} (hd : (rawW n).Pairwise (fun a b => pkN a ≠ pkN b)) (hp : p < (Ws n).length) : rk (rawW n) ((Ws n).getD p []) = p := by
  obtain ⟨h1, h2⟩ := Ws_rank hd
  have h3 := rk_asc (Ws n) h1 p hp
  unfold rk at h3 ⊢
  rw [← h2.countP_eq]
  exact h3
/-! the ways of one number are unlike -/
def preH (h : Nat) : List Nat := (if h % 2 = 1 then [72] else []) ++ (if h ≤ 2 then [] else [96 + (h + 1) / 2])
theorem cnt_pre (h ch : Nat) : cnt h ch = preH h ++ [ch] := by unfold cnt preH; rw [List.append_assoc]
def untilG : List Nat → List Nat
  | [] => []
  | c :: r => if c = 71 then [] else c :: untilG r
theorem untilG_pre : ∀ h, h < 39 → ∀ r : List Nat, untilG (cnt h 71 ++ r) = preH h := by
  intro h hh r
  have key : ∀ p : List Nat, (∀ c ∈ p, c ≠ 71) → untilG (p ++ ([71] ++ r)) = p := by
    intro p
    induction p with
    | nil => intro _; rfl
    | cons c p ih =>
      intro hp
      show (if c = 71 then [] else c :: untilG (p ++ ([71] ++ r))) = _
      rw [if_neg (hp c List.mem_cons_self), ih (fun d hd => hp d (List.mem_cons_of_mem _ hd))]
  rw [cnt_pre, List.append_assoc]
  have h71 : ∀ h, h < 39 → ∀ c ∈ preH h, c ≠ 71 := by decide +kernel
  exact key _ (h71 h hh)
theorem pre_inj : ∀ a, a < 39 → ∀ b, b < 39 → 2 ≤ a → 2 ≤ b → preH a = preH b → a = b := by decide +kernel
theorem sm_nodup : ∀ s, s < 400 → s = 0 ∨ (smL s).Pairwise (fun a b => a ≠ b) := by decide +kernel
theorem ne_pk {L : List (List Nat)} (hw : ∀ y ∈ L, wok y) (h : L.Pairwise (fun a b => a ≠ b)) : L.Pairwise (fun a b => pkN a ≠ pkN b) := by
  induction L with
  | nil => exact List.Pairwise.nil
  | cons x L ih =>
    rw [List.pairwise_cons] at h ⊢
    refine ⟨fun y hy q => h.1 y hy (pkN_inj (hw x List.mem_cons_self).1 (hw y (List.mem_cons_of_mem _ hy)).1 q), ih (fun y hy => hw y (List.mem_cons_of_mem _ hy)) h.2⟩
theorem gr_nodup {h s : Nat} (hs : s < 400) : (grL h s).Pairwise (fun a b => a ≠ b) := by
  unfold grL
  by_cases q : s = 0
  · rw [if_pos q]; exact List.pairwise_singleton _ _
  · rw [if_neg q, List.pairwise_map]
    refine ((sm_nodup s hs).resolve_left q).imp (fun {a b} hab e => hab ?_)
    have e2 := List.append_cancel_left e
    injection e2
theorem gr_front {h s : Nat} (hh : h < 39) : ∀ v ∈ grL h s, untilG v = preH h := fun v hv => by
  unfold grL at hv
  by_cases q : s = 0
  · rw [if_pos q] at hv
    rcases List.mem_cons.mp hv with e | e
    · rw [e]
      have := untilG_pre h hh []
      rw [List.append_nil] at this
      exact this
    · cases e
  · rw [if_neg q] at hv
    obtain ⟨u, -, rfl⟩ := List.mem_map.mp hv
    exact untilG_pre h hh _
theorem raw_facts {n : Nat} (h1 : 1 ≤ n) (hn : n < 8000) : (∀ v ∈ rawW n, wok v) ∧ (rawW n).Pairwise (fun a b => pkN a ≠ pkN b) ∧ 1 ≤ (rawW n).length ∧ (rawW n).length ≤ 10 := by
  by_cases q : n < 400
  · have e0 : hiH n + 1 - loH n = 0 := by unfold hiH loH; omega
    have er : rawW n = smL n := by
      unfold rawW
      rw [if_pos q, e0]
      show smL n ++ [] = _
      rw [List.append_nil]
    have hf := sm_facts h1 q
    rw [er]
    exact ⟨wok_sm h1 q, ne_pk (wok_sm h1 q) ((sm_nodup n q).resolve_left (by omega)), hf.2.2, by omega⟩
  · have er : rawW n = (List.range' (loH n) (hiH n + 1 - loH n)).flatMap (fun g => grL g (n - 200 * g)) := by
      unfold rawW
      rw [if_neg q]; rfl
    have hg : ∀ g ∈ List.range' (loH n) (hiH n + 1 - loH n), 2 ≤ g ∧ g < 39 ∧ n - 200 * g < 400 := fun g hg => by
      rw [List.mem_range'_1] at hg
      unfold hiH loH at hg
      omega
    have hw : ∀ v ∈ rawW n, wok v := fun v hv => by
      rw [er] at hv
      obtain ⟨g, hg1, hg2⟩ := List.mem_flatMap.mp hv
      obtain ⟨a, b, c⟩ := hg g hg1
      exact wok_gr b c v hg2
    have hone : ∀ g s, s < 400 → 1 ≤ (grL g s).length := fun g s hs => by
      unfold grL
      by_cases q : s = 0
      · rw [if_pos q]; exact Nat.le_refl 1
      · rw [if_neg q, List.length_map]; exact (sm_facts (by omega) hs).2.2
    have hm : hiH n + 1 - loH n = 1 ∨ hiH n + 1 - loH n = 2 := by unfold hiH loH; omega
    refine ⟨hw, ne_pk hw ?_, ?_⟩
    · rw [er]
      rcases hm with e | e
      · rw [e] at hg ⊢
        show ((grL (loH n) _) ++ []).Pairwise _
        rw [List.append_nil]
        exact gr_nodup (hg (loH n) (by rw [List.mem_range'_1]; omega)).2.2
      · rw [e] at hg ⊢
        show ((grL (loH n) _) ++ ((grL (loH n + 1) _) ++ [])).Pairwise _
        rw [List.append_nil, List.pairwise_append]
        have g1 := hg (loH n) (by rw [List.mem_range'_1]; omega)
        have g2 := hg (loH n + 1) (by rw [List.mem_range'_1]; omega)
        refine ⟨gr_nodup g1.2.2, gr_nodup g2.2.2, fun a ha b hb e9 => ?_⟩
        have f1 := gr_front g1.2.1 a ha
        have f2 := gr_front g2.2.1 b hb
        rw [e9, f2] at f1
        have := pre_inj _ g2.2.1 _ g1.2.1 g2.1 g1.1 f1
        omega
    · rw [er]
      rcases hm with e | e
      · rw [e] at hg ⊢
        show 1 ≤ ((grL (loH n) _) ++ []).length ∧ ((grL (loH n) _) ++ []).length ≤ 10
        have g1 := hg (loH n) (by rw [List.mem_range'_1]; omega)
        have a1 := hone (loH n) _ g1.2.2
        have a2 := gr_len (h := loH n) g1.2.2
        rw [List.append_nil]
        omega
      · rw [e] at hg ⊢
        show 1 ≤ ((grL (loH n) _) ++ ((grL (loH n + 1) _) ++ [])).length ∧ ((grL (loH n) _) ++ ((grL (loH n + 1) _) ++ [])).length ≤ 10
        have g1 := hg (loH n) (by rw [List.mem_range'_1]; omega)
        have g2 := hg (loH n + 1) (by rw [List.mem_range'_1]; omega)
        have a1 := hone (loH n) _ g1.2.2
        have a2 := gr_len (h := loH n) g1.2.2
        have a3 := gr_len (h := loH n + 1) g2.2.2
        rw [List.append_nil, List.length_append]
        omega
theorem Ws_facts {n : Nat} (h1 : 1 ≤ n) (hn : n < 8000) : (∀ v ∈ Ws n, wok v) ∧ 1 ≤ (Ws n).length ∧ (Ws n).length ≤ 10 := by
  obtain ⟨a, b, c, d⟩ := raw_facts h1 hn
  have hp := (Ws_rank b).2
  refine ⟨fun v hv => a v (hp.mem_iff.mp hv), ?_⟩
  rw [hp.length_eq]
  exact ⟨c, d⟩

