/-! PURE 3: the reference's parser, upper part -/
section PS
variable {my : Nat → Int32} {n : Nat} {r : List Int32}
def stU (c : Int32) : Int32 := if c = 97 then 4 else 3
def VS (gr : Int32 → Int32 → Int32) (gb gu gk gl : Int32) : Int32 → Int32 → ES → Prop := fun e0 e2 S => S.2.2.2.1 = gl ∧ S.2.2.2.2.2.1 = gr e0 e2 ∧ S.2.2.2.2.2.2.1 = baV e0 gb gk ∧ S.2.2.2.2.2.2.2 = gu
def VN (gg gb gu gh gk gl : Int32) : Int32 → Int32 → ES → Prop := fun e0 e2 S => S.2.2.2.1 = gl ∧ S.2.2.2.2.2.1 = grV e0 e2 gg gh ∧ S.2.2.2.2.2.2.1 = baV e0 gb gk ∧ S.2.2.2.2.2.2.2 = gu
theorem baV0 (e0 : Int32) : baV e0 0 0 = 0 := by
  unfold baV
  rw [if_pos rfl]
  decide
theorem grV0 (e0 e2 : Int32) : grV e0 e2 0 0 = 0 := by
  unfold grV
  by_cases q : e2 = 0
  · rw [if_pos q, if_pos rfl]; decide
  · rw [if_neg q, if_pos rfl]; decide
theorem fol3_83 (bh : Int32) : fol 3 bh 83 = 6 := rfl
theorem stU_compl (c : Int32) : compl (stU c) := by
  unfold stU
  by_cases q : c = 97
  · rw [if_pos q]; exact compl4
  · rw [if_neg q]; exact compl3
theorem folU_dash (c bh : Int32) : fol (stU c) bh 45 = 8 := by
  unfold stU
  by_cases q : c = 97
  · rw [if_pos q]; rfl
  · rw [if_neg q]; rfl
theorem stU_3 (c : Int32) : stU c = 3 ∨ stU c = 4 := by
  unfold stU
  by_cases q : c = 97
  · rw [if_pos q]; exact Or.inr rfl
  · rw [if_neg q]; exact Or.inl rfl
theorem sp_sf24 {c gu gl : Int32} {Q : Int32 → Int32 → Int32 → Int32 → Int32 → Int32 → Prop} (hn : n ≤ 20) (ht : tl my n r) (hS : c ≠ 97 → ∀ c2 r2, r = c2 :: r2 → c2 ≠ 83)
    (h : ∀ ok r' gb' gk' gl', isBo ok → tl my n r' → (∀ bh, ∀ gr : Int32 → Int32 → Int32, (bh = 0 → c ≠ 97 → ∀ c2 r2, r = c2 :: r2 → c2 ≠ 71) → FinR r (fun e0 e2 => (stU c, bh, 0, 0, 1, gr e0 e2, 0, c - 97 + 1)) ok r' (VS gr gb' (c - 97 + 1) gk' gl')) → Q ok (nI (n - r'.length)) gb' (c - 97 + 1) gk' gl') :
    B_X6_smallFrom_24 Q my (nI n) (c - 97 + 1) (nI (n - r.length)) 0 gu 0 gl := by
  unfold B_X6_smallFrom_24 B_X6_smallFrom_53 B_X6_smallFrom_58
  refine sp_accepts hn ht (fun hD => ⟨isBo0, fun _ => ⟨isBo1, ?_⟩, fun q => absurd rfl q⟩) (fun r1 er ht1 => ⟨isBo1, fun q => absurd q (by decide), fun _ => ?_⟩)
  · refine h 1 r 0 0 0 isBo1 ht (fun bh gr hG e0 e2 => ⟨_, stop_of (fun c2 r2 e => ?_), fun q => absurd q (by decide), fun _ => ⟨stU_compl c, rfl, rfl, (baV0 e0).symm, rfl⟩⟩)
    show fol (stU c) bh c2 = -1
    unfold stU
    by_cases q : c = 97
    · rw [if_pos q, fol4, if_neg (hD c2 r2 e)]
    · rw [if_neg q, fol3, if_neg (hD c2 r2 e)]
      refine folC_no (hS q c2 r2 e) ?_
      by_cases q2 : bh = 0
      · exact Or.inr (hG q2 q c2 r2 e)
      · exact Or.inl q2
  · subst er
    refine sp_base8 hn ht1 (fun ok r' gb' gk' hok ht2 hF => ?_)
    have hR : ∀ bh, ∀ gr : Int32 → Int32 → Int32, FinR (45 :: r1) (fun e0 e2 => (stU c, bh, 0, 0, 1, gr e0 e2, 0, c - 97 + 1)) ok r' (VS gr gb' (c - 97 + 1) gk' 1) := fun bh gr e0 e2 => by
      obtain ⟨S', h1, h2, h3⟩ := hF bh 1 (c - 97 + 1) gr e0 e2
      refine ⟨S', ?_, h2, h3⟩
      rw [← h1]
      have hf := folU_dash c bh
      refine (erun_go (by rw [hf]; decide)).trans ?_
      unfold stepS
      rw [hf]
      rfl
    exact ⟨fun q => ⟨isBo0, by subst q; exact h 0 r' gb' gk' 1 isBo0 ht2 (fun bh gr _ => hR bh gr)⟩, fun q => ⟨isBo1, by
      have e1 : ok = 1 := hok.resolve_left q
      subst e1
      exact h 1 r' gb' gk' 1 isBo1 ht2 (fun bh gr _ => hR bh gr)⟩⟩
theorem sp_smallFrom {c : Int32} {Q : Int32 → Int32 → Int32 → Int32 → Int32 → Int32 → Prop} (hn : n ≤ 20) (ht : tl my n r) (h1 : ¬ c < 97) (h2 : c ≤ 115)
    (h : ∀ ok r' gb' gu' gk' gl', isBo ok → tl my n r' → (∀ bh, ∀ gr : Int32 → Int32 → Int32, (bh = 0 → c ≠ 97 → ∀ c2 r2, r = c2 :: r2 → c2 ≠ 71) → FinR r (fun e0 e2 => (stU c, bh, 0, 0, 1, gr e0 e2, 0, c - 97 + 1)) ok r' (VS gr gb' gu' gk' gl')) → Q ok (nI (n - r'.length)) gb' gu' gk' gl') :
    F_X6_smallFrom (c - 97 + 1) my (nI n) (nI (n - r.length)) 0 0 0 0 Q := by
  unfold F_X6_smallFrom B_X6_smallFrom_0
  refine ⟨fun q => ?_, fun q => ?_⟩
  · have hc : c = 97 := by
      by_cases q2 : c < 98
      · exact unit_one h1 q2
      · exact absurd q (unit_gt1 q2 h2)
    exact sp_sf24 hn ht (fun q2 => absurd hc q2) (fun ok r' gb' gk' gl' a1 a2 a3 => h ok r' gb' (c - 97 + 1) gk' gl' a1 a2 a3)
  · have hc : c ≠ 97 := by
      rintro rfl
      exact q (by decide)
    refine sp_accepts hn ht (fun hS => ⟨fun _ => ?_, fun q => absurd rfl q⟩) (fun r1 er ht1 => ⟨fun q => absurd q (by decide), fun _ => ?_⟩)
    · exact sp_sf24 hn ht (fun _ => hS) (fun ok r' gb' gk' gl' a1 a2 a3 => h ok r' gb' (c - 97 + 1) gk' gl' a1 a2 a3)
    · subst er
      refine sp_plus hn ht1 (fun ok r' gu' hok ht2 hF => ⟨hok, ?_⟩)
      refine h ok r' (c - 97 + 1) gu' 0 0 hok ht2 (fun bh gr _ e0 e2 => ?_)
      obtain ⟨S', g1, g2, g3⟩ := hF bh 0 0 (c - 97 + 1) gr (fun e0 _ => baV e0 (c - 97 + 1) 0) e0 e2
      refine ⟨S', ?_, g2, g3⟩
      rw [← g1]
      have hs : stU c = 3 := if_neg hc
      rw [hs]
      exact erun_go (by rw [fol3_83]; decide)
theorem fol0_unit {c bh : Int32} (h1 : ¬ c < 97) (h2 : c ≤ 115) : fol 0 bh c = stU c := by
  obtain ⟨a1, a2, a3, a4, a5, a6⟩ := not_sign h1
  rw [fol0]
  unfold folS stU
  rw [if_neg a4, if_neg a5, if_neg a6]
  by_cases q : c = 97
  · rw [if_pos q, if_pos q]
  · rw [if_neg q, if_neg q, if_neg (fun q2 => q (unit_one h1 q2)), if_neg (fun q2 => (Int32.not_le.mpr q2) h2)]
theorem stU_go (c : Int32) : stU c ≠ -1 := by
  rcases stU_3 c with q | q <;> (rw [q]; decide)
theorem sp_small {Q : Int32 → Int32 → Int32 → Int32 → Int32 → Int32 → Prop} (hn : n ≤ 20) (ht : tl my n r)
    (h : ∀ ok r' gb' gu' gk' gl', isBo ok → tl my n r' → (∀ gr : Int32 → Int32 → Int32, FinR r (fun e0 e2 => (0, 1, 0, 0, 1, gr e0 e2, 0, 0)) ok r' (VS gr gb' gu' gk' gl')) → Q ok (nI (n - r'.length)) gb' gu' gk' gl') :
    F_X6_small my (nI n) (nI (n - r.length)) 0 0 0 0 Q := by
  unfold F_X6_small B_X6_small_0 B_X6_small_37 B_X6_small_38
  refine sp_unitFrom hn ht (fun hN => ⟨fun _ => ?_, fun q => absurd (by decide) q⟩) (fun c r2 er h1 h2 ht2 => ⟨fun q => absurd q (unit_pos h1 h2), fun _ => ?_⟩)
  · refine sp_base0 (bh := 1) hn ht hN (fun q => absurd q (by decide)) (fun ok r' gb' gk' hok ht1 hF hT => ⟨fun q => ⟨isBo0, ?_⟩, fun q => ?_⟩)
    · refine h 0 r' gb' 0 gk' 0 isBo0 ht1 (fun gr e0 e2 => ?_)
      obtain ⟨S', g1, g2, g3⟩ := hF 0 0 gr q e0 e2
      exact ⟨S', g1, g2, fun q => absurd rfl q⟩
    · have hR : ∀ ok2 r'' gu', (∀ bh hv ls ct, ∀ gr ba : Int32 → Int32 → Int32, FinR r' (fun e0 e2 => (6, bh, hv, ls, ct, gr e0 e2, ba e0 e2, 0)) ok2 r'' (fun e0 e2 S => S.2.2.2.1 = ls ∧ S.2.2.2.2.2.1 = gr e0 e2 ∧ S.2.2.2.2.2.2.1 = ba e0 e2 ∧ S.2.2.2.2.2.2.2 = gu')) → ∀ gr : Int32 → Int32 → Int32, FinR r (fun e0 e2 => (0, 1, 0, 0, 1, gr e0 e2, 0, 0)) ok2 r'' (VS gr gb' gu' gk' 0) := fun ok2 r'' gu' hP gr e0 e2 => by
        obtain ⟨hv, ct, g0⟩ := hT 0 0 gr q
        obtain ⟨S', g1, g2, g3⟩ := hP 1 hv 0 ct gr (fun e0 _ => baV e0 gb' gk') e0 e2
        exact ⟨S', (g0 e0 e2).trans g1, g2, g3⟩
      refine sp_plus hn ht1 (fun ok2 r'' gu' hok2 ht2 hP => ⟨fun q2 => ⟨isBo0, ?_⟩, fun q2 => ⟨isBo1, ?_⟩⟩)
      · subst q2; exact h 0 r'' gb' gu' gk' 0 isBo0 ht2 (hR 0 r'' gu' hP)
      · have e1 : ok2 = 1 := hok2.resolve_left q2
        subst e1
        exact h 1 r'' gb' gu' gk' 0 isBo1 ht2 (hR 1 r'' gu' hP)
  · subst er
    refine sp_smallFrom hn ht2 h1 h2 (fun ok r' gb' gu' gk' gl' hok ht3 hF => ⟨hok, ?_⟩)
    refine h ok r' gb' gu' gk' gl' hok ht3 (fun gr e0 e2 => ?_)
    obtain ⟨S', g1, g2, g3⟩ := hF 1 gr (fun q => absurd q (by decide)) e0 e2
    refine ⟨S', ?_, g2, g3⟩
    rw [← g1]
    have hf := fol0_unit (bh := 1) h1 h2
    rw [erun_go (by rw [hf]; exact stU_go c), stepS_unit0 h1 (Or.inl rfl), hf]
theorem sp_and {Q : Int32 → Int32 → Int32 → Int32 → Int32 → Int32 → Prop} (hn : n ≤ 20) (ht : tl my n r)
    (h : ∀ ok r' gb' gu' gk' gl', isBo ok → tl my n r' → (∀ bh hv ct, ∀ gr : Int32 → Int32 → Int32, FinR r (fun e0 e2 => (5, bh, hv, 0, ct, gr e0 e2, 0, 0)) ok r' (VS gr gb' gu' gk' gl')) → Q ok (nI (n - r'.length)) gb' gu' gk' gl') :
    F_X6_and my (nI n) (nI (n - r.length)) 0 0 0 0 Q := by
  unfold F_X6_and B_X6_and_0 B_X6_and_16 B_X6_and_21
  refine sp_accepts hn ht (fun hN => ⟨fun _ => ⟨isBo1, ?_⟩, fun q => absurd rfl q⟩) (fun r1 er ht1 => ⟨fun q => absurd q (by decide), fun _ => ?_⟩)
  · refine h 1 r 0 0 0 0 isBo1 ht (fun bh hv ct gr e0 e2 => ⟨_, stop_of (fun c2 r2 e => ?_), fun q => absurd q (by decide), fun _ => ⟨compl5, rfl, rfl, (baV0 e0).symm, rfl⟩⟩)
    show fol 5 bh c2 = -1
    rw [fol5, if_neg (hN c2 r2 e)]
  · subst er
    refine sp_small hn ht1 (fun ok r' gb' gu' gk' gl' hok ht2 hF => ?_)
    have hR : ∀ bh hv ct, ∀ gr : Int32 → Int32 → Int32, FinR (38 :: r1) (fun e0 e2 => (5, bh, hv, 0, ct, gr e0 e2, 0, 0)) ok r' (VS gr gb' gu' gk' gl') := fun bh hv ct gr e0 e2 => by
      obtain ⟨S', g1, g2, g3⟩ := hF gr e0 e2
      refine ⟨S', ?_, g2, g3⟩
      rw [← g1]
      exact erun_go (by rw [fol5]; decide)
    refine ⟨fun q => ⟨isBo0, ?_⟩, fun q => ⟨isBo1, ?_⟩⟩
    · subst q; exact h 0 r' gb' gu' gk' gl' isBo0 ht2 hR
    · have e1 : ok = 1 := hok.resolve_left q
      subst e1
      exact h 1 r' gb' gu' gk' gl' isBo1 ht2 hR
theorem sp_half {Q : Int32 → Int32 → Int32 → Int32 → Int32 → Int32 → Int32 → Int32 → Prop} (hn : n ≤ 20) (ht : tl my n r)
    (h : ∀ ok r' gg' gb' gu' gh' gk' gl', isBo ok → tl my n r' → FinR r (fun _ _ => (1, 0, 1, 0, 1, 0, 0, 0)) ok r' (VN gg' gb' gu' gh' gk' gl') → Q ok (nI (n - r'.length)) gg' gb' gu' gh' gk' gl') :
    F_X6_half my (nI n) (nI (n - r.length)) 0 0 0 0 0 0 Q := by
  unfold F_X6_half B_X6_half_0
  refine sp_unitFrom hn ht (fun hN => ⟨fun _ => ?_, fun q => absurd (by decide) q⟩) (fun c r2 er h1 h2 ht2 => ⟨fun q => absurd q (unit_pos (ge98_97 h1) h2), fun _ => ?_⟩)
  · unfold B_X6_half_35 B_X6_half_69 B_X6_half_70
    refine ⟨fun _ => ⟨isBo0, ?_⟩, fun q => absurd (by decide) q⟩
    refine h 0 r 0 0 0 0 1 0 isBo0 ht (fun e0 e2 => ⟨_, stop_of (fun c' r' e => ?_), fun _ _ => not_compl1, fun q => absurd rfl q⟩)
    show fol 1 0 c' = -1
    rw [fol1]
    exact uni_no (hN c' r' e)
  · subst er
    have hf : fol 1 0 c = 2 := by rw [fol1]; exact uni_yes h1 h2
    have hg : ∀ e0 e2 : Int32, erun e0 e2 (c :: r2) (1, 0, 1, 0, 1, 0, 0, 0) = erun e0 e2 r2 (2, 0, 1, 0, c - 97 + 1, 0, 0, 0) := fun _ _ => by
      rw [erun_go (by rw [hf]; decide), stepS_unit1 (ge98_97 h1) (by decide) (by decide), hf]
    refine sp_accepts hn ht2 (fun hG => ⟨fun _ => ?_, fun q => absurd rfl q⟩) (fun r3 er ht3 => ⟨fun q => absurd q (by decide), fun _ => ?_⟩)
    · unfold B_X6_half_35 B_X6_half_69 B_X6_half_70
      refine ⟨fun q => absurd q (unit_pos (ge98_97 h1) h2), fun _ => ?_⟩
      refine sp_accepts hn ht2 (fun hS => ⟨fun _ => ⟨isBo0, ?_⟩, fun q => absurd rfl q⟩) (fun r3 er ht3 => ⟨fun q => absurd q (by decide), fun _ => ?_⟩)
      · refine h 0 r2 0 (c - 97 + 1) 0 0 1 0 isBo0 ht2 (fun e0 e2 => ⟨_, (hg e0 e2).trans (stop_of (fun c' r' e => ?_)), fun _ _ => not_compl2, fun q => absurd rfl q⟩)
        show fol 2 0 c' = -1
        rw [fol2]
        exact folC_no (hS c' r' e) (Or.inr (hG c' r' e))
      · subst er
        have hg2 : ∀ e0 e2 : Int32, erun e0 e2 (c :: 83 :: r3) (1, 0, 1, 0, 1, 0, 0, 0) = erun e0 e2 r3 (6, 0, 1, 0, c - 97 + 1, 0, baV e0 (c - 97 + 1) 1, 0) := fun e0 e2 => by
          rw [hg, erun_go (by rw [fol2]; decide)]
          rfl
        refine sp_plus hn ht3 (fun ok r' gu' hok ht4 hP => ?_)
        have hR : FinR (c :: 83 :: r3) (fun _ _ => (1, 0, 1, 0, 1, 0, 0, 0)) ok r' (VN 0 (c - 97 + 1) gu' 0 1 0) := fun e0 e2 => by
          obtain ⟨S', g1, g2, g3⟩ := hP 0 1 0 (c - 97 + 1) (fun _ _ => 0) (fun e0 _ => baV e0 (c - 97 + 1) 1) e0 e2
          refine ⟨S', (hg2 e0 e2).trans g1, g2, fun q => ⟨(g3 q).1, (g3 q).2.1, ?_, (g3 q).2.2.2⟩⟩
          rw [grV0]; exact (g3 q).2.2.1
        refine ⟨fun q => ⟨isBo0, ?_⟩, fun q => ⟨isBo1, ?_⟩⟩
        · subst q; exact h 0 r' 0 (c - 97 + 1) gu' 0 1 0 isBo0 ht4 hR
        · have e1 : ok = 1 := hok.resolve_left q
          subst e1
          exact h 1 r' 0 (c - 97 + 1) gu' 0 1 0 isBo1 ht4 hR
    · subst er
      refine sp_and hn ht3 (fun ok r' gb' gu' gk' gl' hok ht4 hF => ⟨hok, ?_⟩)
      refine h ok r' (c - 97 + 1) gb' gu' 1 gk' gl' hok ht4 (fun e0 e2 => ?_)
      obtain ⟨S', g1, g2, g3⟩ := hF 0 1 (c - 97 + 1) (fun e0 e2 => grV e0 e2 (c - 97 + 1) 1) e0 e2
      refine ⟨S', ?_, g2, g3⟩
      rw [← g1, hg]
      exact erun_go (by rw [fol2]; decide)
theorem sp_n64 {c : Int32} {r0 : List Int32} {Q : Int32 → Int32 → Int32 → Int32 → Int32 → Int32 → Int32 → Int32 → Prop} (hn : n ≤ 20) (ht : tl my n r) (h1 : ¬ c < 97) (h2 : c ≤ 115) (hr0 : r0 = c :: r) (hG : c ≠ 97 → ∀ c2 r2, r = c2 :: r2 → c2 ≠ 71)
    (h : ∀ ok r' gg' gb' gu' gh' gk' gl', isBo ok → tl my n r' → FinR r0 (fun _ _ => S0) ok r' (VN gg' gb' gu' gh' gk' gl') → Q ok (nI (n - r'.length)) gg' gb' gu' gh' gk' gl') :
    B_X6_number_64 Q my (nI n) (c - 97 + 1) (nI (n - r.length)) 0 0 0 0 0 0 := by
  unfold B_X6_number_64 B_X6_number_95
  refine ⟨fun q => absurd q (unit_pos h1 h2), fun _ => ?_⟩
  refine sp_smallFrom hn ht h1 h2 (fun ok r' gb' gu' gk' gl' hok ht2 hF => ⟨hok, ?_⟩)
  refine h ok r' 0 gb' gu' 0 gk' gl' hok ht2 (fun e0 e2 => ?_)
  obtain ⟨S', g1, g2, g3⟩ := hF 0 (fun _ _ => 0) (fun _ => hG) e0 e2
  refine ⟨S', ?_, g2, fun q => ⟨(g3 q).1, (g3 q).2.1, ?_, (g3 q).2.2.2⟩⟩
  · rw [← g1, hr0]
    have hf := fol0_unit (bh := 0) h1 h2
    rw [erun_go (by rw [hf]; exact stU_go c), stepS_unit0 h1 (Or.inl rfl), hf]
  · rw [grV0]; exact (g3 q).2.2.1
theorem sp_numberM {Q : Int32 → Int32 → Int32 → Int32 → Int32 → Int32 → Int32 → Int32 → Prop} (hn : n ≤ 20) (ht : tl my n r)
    (h : ∀ ok r' gg' gb' gu' gh' gk' gl', isBo ok → tl my n r' → FinR r (fun _ _ => S0) ok r' (VN gg' gb' gu' gh' gk' gl') → Q ok (nI (n - r'.length)) gg' gb' gu' gh' gk' gl') :
    F_X6_number my (nI n) (nI (n - r.length)) 0 0 0 0 0 0 Q := by
  unfold F_X6_number B_X6_number_0
  refine sp_accepts hn ht (fun hG => ⟨fun _ => ?_, fun q => absurd rfl q⟩) (fun r1 er ht1 => ⟨fun q => absurd q (by decide), fun _ => ?_⟩)
  · refine sp_accepts hn ht (fun hH => ⟨fun _ => ?_, fun q => absurd rfl q⟩) (fun r1 er ht1 => ⟨fun q => absurd q (by decide), fun _ => ?_⟩)
    · refine sp_unitFrom hn ht (fun hN => ⟨fun _ => ?_, fun q => absurd (by decide) q⟩) (fun c r2 er h1 h2 ht2 => ⟨fun q => ?_, fun q => ?_⟩)
      · unfold B_X6_number_64 B_X6_number_94 B_X6_number_95
        refine ⟨fun _ => ?_, fun q => absurd (by decide) q⟩
        refine sp_base0 (bh := 0) hn ht hN (fun _ c' r' e => ⟨hG c' r' e, hH c' r' e⟩) (fun ok r' gb' gk' hok ht1 hF hT => ⟨fun q => ⟨isBo0, ?_⟩, fun q => ?_⟩)
        · refine h 0 r' 0 gb' 0 0 gk' 0 isBo0 ht1 (fun e0 e2 => ?_)
          obtain ⟨S', g1, g2, g3⟩ := hF 0 0 (fun _ _ => 0) q e0 e2
          exact ⟨S', g1, g2, fun q => absurd rfl q⟩
        · have hR : ∀ ok2 r'' gu', (∀ bh hv ls ct, ∀ gr ba : Int32 → Int32 → Int32, FinR r' (fun e0 e2 => (6, bh, hv, ls, ct, gr e0 e2, ba e0 e2, 0)) ok2 r'' (fun e0 e2 S => S.2.2.2.1 = ls ∧ S.2.2.2.2.2.1 = gr e0 e2 ∧ S.2.2.2.2.2.2.1 = ba e0 e2 ∧ S.2.2.2.2.2.2.2 = gu')) → FinR r (fun _ _ => S0) ok2 r'' (VN 0 gb' gu' 0 gk' 0) := fun ok2 r'' gu' hP e0 e2 => by
            obtain ⟨hv, ct, g0⟩ := hT 0 0 (fun _ _ => 0) q
            obtain ⟨S', g1, g2, g3⟩ := hP 0 hv 0 ct (fun _ _ => 0) (fun e0 _ => baV e0 gb' gk') e0 e2
            refine ⟨S', (g0 e0 e2).trans g1, g2, fun q => ⟨(g3 q).1, (g3 q).2.1, ?_, (g3 q).2.2.2⟩⟩
            rw [grV0]; exact (g3 q).2.2.1
          refine sp_plus hn ht1 (fun ok2 r'' gu' hok2 ht2 hP => ⟨fun q2 => ⟨isBo0, ?_⟩, fun q2 => ⟨isBo1, ?_⟩⟩)
          · subst q2; exact h 0 r'' 0 gb' gu' 0 gk' 0 isBo0 ht2 (hR 0 r'' gu' hP)
          · have e1 : ok2 = 1 := hok2.resolve_left q2
            subst e1
            exact h 1 r'' 0 gb' gu' 0 gk' 0 isBo1 ht2 (hR 1 r'' gu' hP)
      · have hc : c = 97 := by
          by_cases q2 : c < 98
          · exact unit_one h1 q2
          · exact absurd q (unit_gt1 q2 h2)
        exact sp_n64 hn ht2 h1 h2 er (fun q2 => absurd hc q2) h
      · have hc : c ≠ 97 := by
          rintro rfl
          exact q (by decide)
        refine sp_accepts hn ht2 (fun hG2 => ⟨fun _ => ?_, fun q => absurd rfl q⟩) (fun r3 er3 ht3 => ⟨fun q => absurd q (by decide), fun _ => ?_⟩)
        · exact sp_n64 hn ht2 h1 h2 er (fun _ => hG2) h
        · subst er3
          subst er
          refine sp_and hn ht3 (fun ok r' gb' gu' gk' gl' hok ht4 hF => ⟨hok, ?_⟩)
          refine h ok r' (c - 97 + 1) gb' gu' 0 gk' gl' hok ht4 (fun e0 e2 => ?_)
          obtain ⟨S', g1, g2, g3⟩ := hF 0 0 (c - 97 + 1) (fun e0 e2 => grV e0 e2 (c - 97 + 1) 0) e0 e2
          refine ⟨S', ?_, g2, g3⟩
          rw [← g1]
          have hf := fol0_unit (bh := 0) h1 h2
          have hs : stU c = 3 := if_neg hc
          rw [hs] at hf
          rw [erun_go (by rw [hf]; decide), stepS_unit0 h1 (Or.inl rfl), hf]
          exact erun_go (by rw [fol3]; decide)
    · subst er
      refine sp_half hn ht1 (fun ok r' gg' gb' gu' gh' gk' gl' hok ht2 hF => ⟨hok, ?_⟩)
      refine h ok r' gg' gb' gu' gh' gk' gl' hok ht2 (fun e0 e2 => ?_)
      obtain ⟨S', g1, g2, g3⟩ := hF e0 e2
      refine ⟨S', ?_, g2, g3⟩
      rw [← g1]
      exact erun_go (by rw [fol0]; decide)
  · subst er
    refine sp_and hn ht1 (fun ok r' gb' gu' gk' gl' hok ht2 hF => ⟨hok, ?_⟩)
    refine h ok r' 1 gb' gu' 0 gk' gl' hok ht2 (fun e0 e2 => ?_)
    obtain ⟨S', g1, g2, g3⟩ := hF 0 0 1 (fun e0 e2 => grV e0 e2 1 0) e0 e2
    refine ⟨S', ?_, g2, g3⟩
    rw [← g1]
    exact erun_go (by rw [fol0]; decide)
end PS
/-- the fault of the first n characters, and what they mean -/
def FaultR (l : List Int32) (f gg gb gu gh gk gl : Int32) : Prop :=
  (f = -1 ∧ ∀ e0 e2, ∃ S', erun e0 e2 l S0 = (0, S') ∧ compl S'.1 ∧ VN gg gb gu gh gk gl e0 e2 S') ∨
  (∃ k, k ≤ l.length ∧ f = nI (l.length - k) ∧ ∀ e0 e2, ∃ S', erun e0 e2 l S0 = (k, S') ∧ (k = 0 → ¬ compl S'.1))
theorem sp_faultOf {my : Nat → Int32} {n : Nat} {gs ga gg gb gu gh gk gl : Int32} {Q : Int32 → Int32 → Int32 → Int32 → Int32 → Int32 → Int32 → Int32 → Int32 → Prop} (hn : n ≤ 20)
    (h : ∀ f gs' ga' gg' gb' gu' gh' gk' gl', FaultR (seg my 0 n) f gg' gb' gu' gh' gk' gl' → Q f gs' ga' gg' gb' gu' gh' gk' gl') : F_X6_faultOf (nI n) my gs ga gg gb gu gh gk gl Q := by
  unfold F_X6_faultOf B_X6_faultOf_0 B_X6_faultOf_64 B_X6_faultOf_68
  have e : (0 : Int32) = nI (n - (seg my 0 n).length) := by rw [seg_len, Nat.sub_self]; rfl
  have hw : ∀ Q2 : Int32 → Int32 → Int32 → Int32 → Int32 → Int32 → Int32 → Int32 → Prop, F_X6_number my (nI n) (nI (n - (seg my 0 n).length)) 0 0 0 0 0 0 Q2 → F_X6_number my (nI n) 0 0 0 0 0 0 0 Q2 := fun Q2 q => by
    rw [← e] at q; exact q
  refine hw _ (sp_numberM hn (tl_full my n) (fun ok r' gg' gb' gu' gh' gk' gl' hok ht hF => ?_))
  have hlen : r'.length ≤ n := ht.1
  have hbad : FaultR (seg my 0 n) (nI (n - r'.length)) gg' gb' gu' gh' gk' gl' ∨ (ok ≠ 0 ∧ r' = []) := by
    by_cases q : ok ≠ 0 ∧ r' = []
    · exact Or.inr q
    · refine Or.inl (Or.inr ⟨r'.length, by rw [seg_len]; exact hlen, by rw [seg_len], fun e0 e2 => ?_⟩)
      obtain ⟨S', g1, g2, g3⟩ := hF e0 e2
      refine ⟨S', g1, fun k0 => ?_⟩
      have hr : r' = [] := List.eq_nil_of_length_eq_zero k0
      have ho : ok = 0 := Classical.byContradiction fun ho => q ⟨ho, hr⟩
      exact g2 ho hr
  refine ⟨fun q => ?_, fun q => ⟨fun q2 => ?_, fun q2 => ?_⟩⟩
  · rcases hbad with hb | hb
    · exact h _ _ _ _ _ _ _ _ _ hb
    · exact absurd q hb.1
  · have hr : r'.length = 0 := by
      have h9 := (nI_eq (by omega) (by omega)).mp q2
      omega
    refine h _ _ _ _ _ _ _ _ _ (Or.inl ⟨rfl, fun e0 e2 => ?_⟩)
    obtain ⟨S', g1, g2, g3⟩ := hF e0 e2
    exact ⟨S', by rw [g1, hr], g3 q⟩
  · rcases hbad with hb | hb
    · exact h _ _ _ _ _ _ _ _ _ hb
    · refine absurd ?_ q2
      rw [hb.2]
      show nI (n - 0) = nI n
      rw [Nat.sub_zero]
def meanV (v1 v2 v3 gg gb gu gh gk gl : Int32) : Int32 :=
  ((if v3 = 0 then 20 else 400) * gg - (if gh = 0 then 0 else if v1 = 0 then 0 else (if v3 = 0 then 20 else 400) / 2)) + (20 * gb - (if gk = 0 then 0 else if v1 = 0 then 0 else 10)) + (if gl = 0 then gu else if v2 = 0 then gu else -gu)
theorem sp_meaningBy {v1 v2 v3 gg gb gu gh gk gl : Int32} {Q : Int32 → Prop} (h : Q (meanV v1 v2 v3 gg gb gu gh gk gl)) : F_X6_meaningBy v1 v2 v3 gg gb gu gh gk gl Q := by
  unfold F_X6_meaningBy B_X6_meaningBy_0 B_X6_meaningBy_12 B_X6_meaningBy_39 B_X6_meaningBy_40 B_X6_meaningBy_66 B_X6_meaningBy_67 B_X6_meaningBy_94 B_X6_meaningBy_98
  unfold meanV at h
  by_cases q3 : v3 = 0 <;> by_cases q1 : v1 = 0 <;> by_cases qh : gh = 0 <;> by_cases qk : gk = 0 <;> by_cases ql : gl = 0 <;> by_cases q2 : v2 = 0 <;> simp_all
theorem mean_numb {v1 v2 v3 gg gb gu gh gk gl : Int32} {S : ES} (h : VN gg gb gu gh gk gl v1 v3 S) : numb v2 S = meanV v1 v2 v3 gg gb gu gh gk gl := by
  obtain ⟨h1, h2, h3, h4⟩ := h
  unfold numb meanV
  rw [h1, h2, h3, h4]
  unfold grV baV
  congr 2
  by_cases q3 : v3 = 0
  · rw [if_pos q3, if_pos q3]
    rfl
  · rw [if_neg q3, if_neg q3]
    have e : ∀ t : Int32, (20 : Int32) * (20 * gg - t) = 400 * gg - 20 * t := fun t => by
      rw [zI_of gg, zI_of t, zI_lit 20, zI_lit 400]
      rw [zI_mul, zI_sub, zI_mul, zI_mul, zI_mul, zI_sub]
      congr 1
      omega
    rw [e]
    congr 1
    by_cases qh : gh = 0
    · rw [if_pos qh, if_pos qh]; rfl
    · rw [if_neg qh, if_neg qh]
      by_cases q1 : v1 = 0
      · rw [if_pos q1, if_pos q1]; rfl
      · rw [if_neg q1, if_neg q1]; rfl
