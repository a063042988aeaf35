/-! PURE 7: the class finds all ways -/
def chkS (s : Nat) : Bool := (smL s).all (fun v => decide (v.length ≤ 5) && v.all (fun c => decide (0 < c) && decide (c < 128))) && decide ((smL s).length ≤ 5) && decide (1 ≤ (smL s).length)
theorem chkS_ok : ∀ s, s < 400 → s = 0 ∨ chkS s = true := by decide +kernel
def chkH (h : Nat) : Bool := decide ((cnt h 71).length ≤ 3) && (cnt h 71).all (fun c => decide (0 < c) && decide (c < 128))
theorem chkH_ok : ∀ h, h < 39 → chkH h = true := by decide +kernel
theorem sm_facts {s : Nat} (h1 : 1 ≤ s) (h2 : s < 400) : (∀ v ∈ smL s, okc v ∧ v.length ≤ 5) ∧ (smL s).length ≤ 5 ∧ 1 ≤ (smL s).length := by
  have h := (chkS_ok s h2).resolve_left (by omega)
  unfold chkS at h
  rw [Bool.and_eq_true, Bool.and_eq_true, List.all_eq_true, decide_eq_true_eq, decide_eq_true_eq] at h
  refine ⟨fun v hv => ?_, h.1.2, h.2⟩
  have h3 := h.1.1 v hv
  rw [Bool.and_eq_true, List.all_eq_true, decide_eq_true_eq] at h3
  refine ⟨fun c hc => ?_, h3.1⟩
  have h4 := h3.2 c hc
  rw [Bool.and_eq_true, decide_eq_true_eq, decide_eq_true_eq] at h4
  exact h4
theorem gr_facts {h : Nat} (h1 : h < 39) : okc (cnt h 71) ∧ (cnt h 71).length ≤ 3 := by
  have h2 := chkH_ok h h1
  unfold chkH at h2
  rw [Bool.and_eq_true, List.all_eq_true, decide_eq_true_eq] at h2
  refine ⟨fun c hc => ?_, h2.1⟩
  have h4 := h2.2 c hc
  rw [Bool.and_eq_true, decide_eq_true_eq, decide_eq_true_eq] at h4
  exact h4
theorem okc_app {a b : List Nat} (ha : okc a) (hb : okc b) : okc (a ++ b) := fun c hc => (List.mem_append.mp hc).elim (ha c) (hb c)
theorem wok_sm {s : Nat} (h1 : 1 ≤ s) (h2 : s < 400) : ∀ v ∈ smL s, wok v := fun v hv => by
  obtain ⟨a, -⟩ := sm_facts h1 h2
  obtain ⟨b, c⟩ := a v hv
  exact ⟨b, by omega⟩
theorem wok_front {h s : Nat} (hh : h < 39) (h1 : 1 ≤ s) (h2 : s < 400) : ∀ v ∈ smL s, wok (cnt h 71 ++ 38 :: v) := fun v hv => by
  obtain ⟨a, -⟩ := sm_facts h1 h2
  obtain ⟨b, c⟩ := a v hv
  obtain ⟨d, e⟩ := gr_facts hh
  refine ⟨okc_app d (fun x hx => ?_), ?_⟩
  · rcases List.mem_cons.mp hx with q | q
    · subst q; omega
    · exact b x q
  · rw [List.length_append]
    show _ + (v.length + 1) ≤ 9
    omega
theorem wok_gr {h s : Nat} (hh : h < 39) (h2 : s < 400) : ∀ v ∈ grL h s, wok v := fun v hv => by
  unfold grL at hv
  by_cases q : s = 0
  · rw [if_pos q] at hv
    obtain ⟨d, e⟩ := gr_facts hh
    rcases List.mem_cons.mp hv with q2 | q2
    · subst q2; exact ⟨d, by omega⟩
    · cases q2
  · rw [if_neg q] at hv
    obtain ⟨u, hu, rfl⟩ := List.mem_map.mp hv
    exact wok_front hh (by omega) h2 u hu
theorem sp_addWithBase {w : List Nat} {s t : Nat} {r : List (List Nat)} {sd : Nat → Int64} {Q : Int32 → (Nat → Int64) → Prop} (ht : t ≤ 38) (hs : s < 400) (hd1 : s ≤ 10 * t + 19) (hd2 : 10 * t ≤ s + 19) (hx : wok (w ++ smW s t)) (hr : ∀ y ∈ r, wok y) (hl : r.length < 16) (hS : XS sd r)
    (h : ∀ sd', XS sd' (insR (w ++ smW s t) r) → Q (nI (r.length + 1)) sd') : F_X4_addWithBase (pkL w) (nI (10 * t)) (nI s - nI (10 * t)) (nI r.length) sd Q := by
  have e10 : nI (10 * t) / 10 = nI t := by
    rw [show (10 : Int32) = nI 10 from rfl, pk_div (by omega) (by decide) (by decide), Nat.mul_div_cancel_left _ (by decide)]
  have er : nI s - nI (10 * t) = zI ((s : Int) - 10 * t) := by
    rw [← zI_nat, ← zI_nat, zI_sub]
    congr 1
  have hz : ∀ z : Int, -1000 ≤ z → z ≤ 1000 → (zI ((s : Int) - 10 * t) < zI z ↔ (s : Int) - 10 * t < z) := fun z a b => zI_lt (by omega) (by omega) (by omega) (by omega)
  have hz2 : ∀ z : Int, -1000 ≤ z → z ≤ 1000 → (zI z < zI ((s : Int) - 10 * t) ↔ z < (s : Int) - 10 * t) := fun z a b => zI_lt (by omega) (by omega) (by omega) (by omega)
  unfold F_X4_addWithBase B_X4_addWithBase_0 B_X4_addWithBase_114
  rw [e10]
  have h71 : s < 10 * t → B_X4_addWithBase_71 Q (pkL w) (nI s - nI (10 * t)) (nI t) (nI r.length) sd := fun hlt => by
    unfold B_X4_addWithBase_71 B_X4_addWithBase_114
    refine ⟨fun q => ?_, fun _ => ⟨fun q => ?_, fun _ => ?_⟩⟩
    · exfalso
      rw [er, show (-19 : Int32) = zI (-19) from rfl, hz (-19) (by omega) (by omega)] at q
      omega
    · exfalso
      rw [er, show (-1 : Int32) = zI (-1) from rfl, hz2 (-1) (by omega) (by omega)] at q
      omega
    · have en : -(nI s - nI (10 * t)) = nI (10 * t - s) := by
        rw [er, zI_neg, ← zI_nat]
        congr 1; omega
      rw [en]
      refine sp_unit (sp_then (sp_then (c := 45) ?_ (by omega)) (by omega))
      refine sp_counted (ch := 83) (by omega) (by omega) ?_
      have ew : w ++ [96 + (10 * t - s)] ++ [45] ++ cnt t 83 = w ++ smW s t := by
        unfold smW
        rw [if_neg (by omega), if_neg (by omega), List.append_assoc, List.append_assoc]
        rfl
      rw [ew]
      exact sp_addX hx hr hl hS h
  refine ⟨fun q => ?_, fun q0 => ⟨fun q => ?_, fun q1 => ⟨fun q => ?_, fun _ => ?_⟩⟩⟩
  · have e0 : s = 10 * t := by
      rw [er, show (0 : Int32) = zI 0 from rfl, zI_eq (by omega) (by omega) (by omega) (by omega)] at q
      omega
    refine sp_counted (ch := 83) (by omega) (by omega) ?_
    have ew : w ++ cnt t 83 = w ++ smW s t := by
      unfold smW
      rw [if_pos e0]
    rw [ew]
    exact sp_addX hx hr hl hS h
  · refine h71 ?_
    rw [er, show (1 : Int32) = zI 1 from rfl, hz 1 (by omega) (by omega)] at q
    have hne : s ≠ 10 * t := fun e0 => q0 (by rw [e0]; exact Int32.sub_self _)
    omega
  · exfalso
    rw [er, show (19 : Int32) = zI 19 from rfl, hz2 19 (by omega) (by omega)] at q
    omega
  · have hgt : 10 * t < s := by
      have hne : s ≠ 10 * t := fun e0 => q0 (by rw [e0]; exact Int32.sub_self _)
      rw [er, show (1 : Int32) = zI 1 from rfl, hz 1 (by omega) (by omega)] at q1
      omega
    refine sp_counted (ch := 83) (by omega) (by omega) (sp_then (c := 43) ?_ (by omega))
    rw [pk_sub (by omega)]
    refine sp_unit (sp_then ?_ (by omega))
    have ew : w ++ cnt t 83 ++ [43] ++ [96 + (s - 10 * t)] = w ++ smW s t := by
      unfold smW
      rw [if_neg (by omega), if_pos hgt, List.append_assoc, List.append_assoc]
      rfl
    rw [ew]
    exact sp_addX hx hr hl hS h
theorem sortR_wok {L r : List (List Nat)} (hL : ∀ y ∈ L, wok y) (hr : ∀ y ∈ r, wok y) : ∀ y ∈ sortR L r, wok y := fun y hy => (sortR_mem.mp hy).elim (hL y) (hr y)
theorem insR_wok {x : List Nat} {r : List (List Nat)} (hx : wok x) (hr : ∀ y ∈ r, wok y) : ∀ y ∈ insR x r, wok y := fun y hy => (insR_mem.mp hy).elim (fun e => e ▸ hx) (hr y)
theorem min_if {a b : Nat} (ha : a < 2147483648) (hb : b < 2147483648) : (if nI a < nI b then nI a else nI b) = nI (min a b) := by
  by_cases q : a < b
  · rw [if_pos (nI_lt q hb)]; congr 1; omega
  · rw [if_neg (nI_nlt (by omega) ha)]; congr 1; omega
theorem max_if {a b : Nat} (ha : a < 2147483648) (hb : b < 2147483648) : (if nI a < nI b then nI b else nI a) = nI (max a b) := by
  by_cases q : a < b
  · rw [if_pos (nI_lt q hb)]; congr 1; omega
  · rw [if_neg (nI_nlt (by omega) ha)]; congr 1; omega
theorem sp_addSmalls {w : List Nat} {s : Nat} {r : List (List Nat)} {sd : Nat → Int64} {Q : Int32 → (Nat → Int64) → Prop} (h1 : 1 ≤ s) (hs : s < 400) (hx : ∀ v ∈ smL s, wok (w ++ v)) (hr : ∀ y ∈ r, wok y) (hl : r.length + (smL s).length ≤ 16) (hS : XS sd r)
    (h : ∀ sd', XS sd' (sortR ((smL s).map (fun v => w ++ v)) r) → Q (nI (r.length + (smL s).length)) sd') : F_X4_addSmalls (pkL w) (nI s) (nI r.length) sd Q := by
  have elast : (if nI s + 19 < 380 then nI s + 19 else 380) = nI (min (s + 19) 380) := by
    rw [show nI s + 19 = nI (s + 19) from nI_add s 19]
    exact min_if (b := 380) (by omega) (by omega)
  have efirst : (if (20 : Int32) < (nI s - 10) / 10 * 10 then (nI s - 10) / 10 * 10 else 20) = nI (10 * loT s) := by
    have e1 : (nI s - 10) / 10 * 10 = nI (10 * (s / 10 - 1)) := by
      have e2 : nI s - 10 = zI ((s : Int) - 10) := by
        rw [← zI_nat, show (10 : Int32) = zI 10 from rfl, zI_sub]
      rw [e2, show (10 : Int32) = zI 10 from rfl, zI_div (by omega) (by omega) (by omega) (by omega), zI_mul, ← zI_nat]
      congr 1
      rcases Nat.lt_or_ge s 10 with q | q
      · have e3 : ((s : Int) - 10).tdiv 10 = 0 := by
          have e4 : (s : Int) - 10 = -((10 - s : Nat) : Int) := by omega
          rw [e4, Int.neg_tdiv]
          have h6 : ((10 - s : Nat) : Int).tdiv 10 = 0 := Int.tdiv_eq_zero_of_lt (by omega) (by omega)
          rw [h6]; rfl
        rw [e3]; omega
      · have e4 : (s : Int) - 10 = ((s - 10 : Nat) : Int) := by omega
        rw [e4, Int.tdiv_eq_ediv_of_nonneg (by omega)]
        omega
    rw [e1]
    show (if nI 20 < _ then _ else nI 20) = _
    rw [max_if (by omega) (by omega)]
    congr 1
    unfold loT
    omega
  have h31 : ∀ (r : List (List Nat)) (sd : Nat → Int64), (∀ y ∈ r, wok y) → r.length + (hiT s + 1 - loT s) ≤ 16 → XS sd r → (∀ v ∈ (List.range' (loT s) (hiT s + 1 - loT s)).map (smW s), wok (w ++ v)) →
      (∀ sd', XS sd' (sortR (((List.range' (loT s) (hiT s + 1 - loT s)).map (smW s)).map (fun v => w ++ v)) r) → Q (nI (r.length + (hiT s + 1 - loT s))) sd') → B_X4_addSmalls_31 Q (pkL w) (nI s) (nI r.length) sd := by
    intro r sd hr hl hS hx hh
    unfold B_X4_addSmalls_31
    rw [elast, efirst]
    have key : ∀ m t (r : List (List Nat)) (sd : Nat → Int64), t + m = max (hiT s + 1) (loT s) → loT s ≤ t → (∀ y ∈ r, wok y) → r.length + m ≤ 16 → XS sd r → (∀ v ∈ (List.range' t m).map (smW s), wok (w ++ v)) →
        (∀ sd', XS sd' (sortR (((List.range' t m).map (smW s)).map (fun v => w ++ v)) r) → Q (nI (r.length + m)) sd') → L_X4_addSmalls_64 Q (m + 1) (pkL w) (nI s) (nI (min (s + 19) 380)) (nI (10 * t)) (nI r.length) sd := by
      intro m
      induction m with
      | zero =>
        intro t r sd ht hlo hr hl hS hx hh
        refine ⟨fun _ => hh sd hS, fun q => absurd (nI_lt ?_ ?_) q⟩
        · unfold hiT loT at ht
          unfold loT at hlo
          omega
        · unfold hiT loT at ht
          omega
      | succ m ih =>
        intro t r sd ht hlo hr hl hS hx hh
        have ht2 : t ≤ hiT s := by
          unfold loT at hlo ht
          unfold hiT at ht ⊢
          omega
        have hx1 : wok (w ++ smW s t) := hx _ (List.mem_map.mpr ⟨t, by rw [List.mem_range'_1]; omega, rfl⟩)
        refine ⟨fun q => absurd q (nI_nlt ?_ ?_), fun _ => ?_⟩
        · unfold hiT at ht2
          omega
        · unfold hiT at ht2
          omega
        · have b1 : t ≤ 38 := by unfold hiT at ht2; omega
          have b2 : s ≤ 10 * t + 19 := by unfold loT at hlo; omega
          have b3 : 10 * t ≤ s + 19 := by unfold hiT at ht2; omega
          refine sp_addWithBase b1 hs b2 b3 hx1 hr (by omega) hS (fun sd' hS' => ?_)
          have e5 : nI (10 * t) + 10 = nI (10 * (t + 1)) := by
            show nI (10 * t) + nI 10 = _
            rw [nI_add]; congr 1
          rw [e5]
          have h5 := ih (t + 1) (insR (w ++ smW s t) r) sd' (by omega) (by omega) (insR_wok hx1 hr) (by rw [insR_len]; omega) hS' (fun v hv => hx v (by
            rw [List.range'_succ, List.map_cons]
            exact List.mem_cons_of_mem _ hv)) (fun sd2 hS2 => by
              rw [insR_len, show r.length + 1 + m = r.length + (m + 1) by omega]
              refine hh sd2 ?_
              rw [List.range'_succ, List.map_cons, List.map_cons]
              exact hS2)
          rw [insR_len] at h5
          exact h5
    exact ⟨_, key (hiT s + 1 - loT s) (loT s) r sd (by omega) (Nat.le_refl _) hr hl hS hx hh⟩
  unfold F_X4_addSmalls B_X4_addSmalls_0
  have hlen : (smL s).length = (if s ≤ 19 then 1 else 0) + (hiT s + 1 - loT s) := by
    unfold smL
    rw [List.length_append, List.length_map, List.length_range']
    congr 1
    by_cases q : s ≤ 19
    · rw [if_pos q, if_pos q]; rfl
    · rw [if_neg q, if_neg q]; rfl
  refine ⟨fun q => absurd q (nI_nlt (b := 1) h1 (by omega)), fun _ => ⟨fun _ => ⟨fun q => ?_, fun q => ?_⟩, fun q => absurd (nI_le (b := 399) (by omega) (by omega)) q⟩⟩
  · have q2 : ¬ s ≤ 19 := fun q2 => nI_nlt (a := 19) q2 (by omega) q
    rw [if_neg q2] at hlen
    have esm : smL s = (List.range' (loT s) (hiT s + 1 - loT s)).map (smW s) := by
      unfold smL
      rw [if_neg q2]; rfl
    rw [esm] at hx
    refine h31 r sd hr (by omega) hS hx (fun sd' hS' => ?_)
    rw [show r.length + (hiT s + 1 - loT s) = r.length + (smL s).length by omega]
    refine h sd' ?_
    rw [esm]; exact hS'
  · have q2 : s ≤ 19 := Classical.byContradiction fun q2 => q (nI_lt (a := 19) (by omega) (by omega))
    rw [if_pos q2] at hlen
    have esm : smL s = [96 + s] :: (List.range' (loT s) (hiT s + 1 - loT s)).map (smW s) := by
      unfold smL
      rw [if_pos q2]; rfl
    rw [esm] at hx
    have hx1 : wok (w ++ [96 + s]) := hx _ List.mem_cons_self
    refine sp_unit (sp_then ?_ (by omega))
    refine sp_addX hx1 hr (by omega) hS (fun sd' hS' => ?_)
    have h5 := h31 (insR (w ++ [96 + s]) r) sd' (insR_wok hx1 hr) (by rw [insR_len]; omega) hS' (fun v hv => hx v (List.mem_cons_of_mem _ hv)) (fun sd2 hS2 => by
      rw [insR_len, show r.length + 1 + (hiT s + 1 - loT s) = r.length + (smL s).length by omega]
      refine h sd2 ?_
      rw [esm]; exact hS2)
    rw [insR_len] at h5
    exact h5
theorem sp_addGreat {h s : Nat} {r : List (List Nat)} {sd : Nat → Int64} {Q : Int32 → (Nat → Int64) → Prop} (hh : h < 39) (hs : s < 400) (hr : ∀ y ∈ r, wok y) (hl : r.length + (grL h s).length ≤ 16) (hS : XS sd r)
    (hQ : ∀ sd', XS sd' (sortR (grL h s) r) → Q (nI (r.length + (grL h s).length)) sd') : F_X4_addGreat (nI (200 * h)) (nI s) (nI r.length) sd Q := by
  have e2 : nI (200 * h) / 200 = nI h := by
    rw [show (200 : Int32) = nI 200 from rfl, pk_div (by omega) (by decide) (by decide), Nat.mul_div_cancel_left _ (by decide)]
  unfold F_X4_addGreat B_X4_addGreat_0 B_X4_addGreat_35
  rw [e2]
  refine sp_counted (w := []) (ch := 71) (by omega) (by omega) ⟨fun q => ?_, fun q => ?_⟩
  · have q2 : s = 0 := (nI_eq (b := 0) (by omega) (by omega)).mp q
    unfold grL at hQ hl
    rw [if_pos q2] at hQ hl
    have hw : wok (cnt h 71) := wok_gr hh hs _ (by unfold grL; rw [if_pos q2]; exact List.mem_cons_self)
    exact sp_addX hw hr (by simp at hl; omega) hS hQ
  · have q2 : s ≠ 0 := fun q2 => q (by rw [q2]; rfl)
    have eg : grL h s = (smL s).map (fun v => cnt h 71 ++ 38 :: v) := by unfold grL; rw [if_neg q2]
    have em : (smL s).map (fun v => cnt h 71 ++ [38] ++ v) = (smL s).map (fun v => cnt h 71 ++ 38 :: v) := by
      congr 1; funext v; rw [List.append_assoc]; rfl
    rw [eg, List.length_map] at hl
    refine sp_then (c := 38) ?_ (by omega)
    show F_X4_addSmalls (pkL (cnt h 71 ++ [38])) _ _ _ _
    refine sp_addSmalls (by omega) hs (fun v hv => ?_) hr hl hS (fun sd' hS' => ?_)
    · rw [List.append_assoc]; exact wok_front hh (by omega) hs v hv
    · rw [eg, List.length_map] at hQ
      refine hQ sd' ?_
      rw [← em]; exact hS'
theorem gr_len {h s : Nat} (hs : s < 400) : (grL h s).length ≤ 5 := by
  unfold grL
  by_cases q : s = 0
  · rw [if_pos q]; exact Nat.le_of_ble_eq_true rfl
  · rw [if_neg q, List.length_map]
    exact (sm_facts (by omega) hs).2.1
def Ws (n : Nat) : List (List Nat) := (sortR (rawW n) []).reverse
theorem sortR_app (A B r : List (List Nat)) : sortR (A ++ B) r = sortR B (sortR A r) := List.foldl_append
theorem sp_find {n : Nat} {mn : Int32} {sd : Nat → Int64} {Q : Int32 → (Nat → Int64) → Prop} (h1 : 1 ≤ n) (hn : n < 8000)
    (h : ∀ sd', (∀ i, i < (Ws n).length → sd' i = pkL ((Ws n).getD i [])) → Q (nI (Ws n).length) sd') : F_X4_find (nI n) mn sd Q := by
  have hfin : ∀ sd', XS sd' (sortR (rawW n) []) → Q (nI (sortR (rawW n) []).length) sd' := fun sd' hS => by
    have h9 := h sd' (fun i hi => by
      unfold Ws at hi ⊢
      rw [List.length_reverse] at hi
      exact hS i hi)
    unfold Ws at h9
    rw [List.length_reverse] at h9
    exact h9
  have key : ∀ m t (r : List (List Nat)) (sd : Nat → Int64), t + m = max (hiH n + 1) (loH n) → loH n ≤ t → (∀ y ∈ r, wok y) → r.length + 5 * m ≤ 16 → XS sd r →
      (∀ sd', XS sd' (sortR ((List.range' t m).flatMap (fun g => grL g (n - 200 * g))) r) → Q (nI (sortR ((List.range' t m).flatMap (fun g => grL g (n - 200 * g))) r).length) sd') → L_X4_find_42 Q (m + 1) (nI n) (nI (min n 7600)) (nI (200 * t)) (nI r.length) sd := by
    intro m
    induction m with
    | zero =>
      intro t r sd ht hlo hr hl hS hh
      refine ⟨fun _ => hh sd hS, fun q => absurd (nI_lt ?_ ?_) q⟩
      · unfold hiH loH at ht
        unfold loH at hlo
        omega
      · unfold hiH loH at ht
        omega
    | succ m ih =>
      intro t r sd ht hlo hr hl hS hh
      have ht2 : t ≤ hiH n := by
        unfold loH at hlo ht
        unfold hiH at ht ⊢
        omega
      have b1 : t < 39 := by unfold hiH at ht2; omega
      have b2 : 200 * t ≤ n := by unfold hiH at ht2; omega
      have b3 : n - 200 * t < 400 := by unfold loH at hlo; omega
      have hgl := gr_len (h := t) b3
      refine ⟨fun q => absurd q (nI_nlt (by omega) (by omega)), fun _ => ?_⟩
      rw [pk_sub b2]
      refine sp_addGreat b1 b3 hr (by omega) hS (fun sd' hS' => ?_)
      have e5 : nI (200 * t) + 200 = nI (200 * (t + 1)) := by
        show nI (200 * t) + nI 200 = _
        rw [nI_add]; congr 1
      rw [e5]
      have h5 := ih (t + 1) (sortR (grL t (n - 200 * t)) r) sd' (by omega) (by omega) (sortR_wok (wok_gr b1 b3) hr) (by rw [sortR_len]; omega) hS' (fun sd2 hS2 => by
        have h6 := hh sd2
        rw [List.range'_succ, List.flatMap_cons, sortR_app] at h6
        exact h6 hS2)
      rw [sortR_len, Nat.add_comm (grL t (n - 200 * t)).length] at h5
      exact h5
  have hgreat : ∀ (r : List (List Nat)) (sd : Nat → Int64), (∀ y ∈ r, wok y) → r.length + 5 * (hiH n + 1 - loH n) ≤ 16 → XS sd r → sortR (rawW n) [] = sortR ((List.range' (loH n) (hiH n + 1 - loH n)).flatMap (fun g => grL g (n - 200 * g))) r →
      ∃ n9 : Nat, L_X4_find_42 Q n9 (nI n) (if nI n < 7600 then nI n else 7600) (if (400 : Int32) < (nI n - 200) / 200 * 200 then (nI n - 200) / 200 * 200 else 400) (nI r.length) sd := fun r sd hr hl hS e => by
    have elast : (if nI n < 7600 then nI n else 7600) = nI (min n 7600) := min_if (b := 7600) (by omega) (by omega)
    have efirst : (if (400 : Int32) < (nI n - 200) / 200 * 200 then (nI n - 200) / 200 * 200 else 400) = nI (200 * loH n) := by
      have e1 : (nI n - 200) / 200 * 200 = nI (200 * (n / 200 - 1)) := by
        have e2 : nI n - 200 = zI ((n : Int) - 200) := by
          rw [← zI_nat, show (200 : Int32) = zI 200 from rfl, zI_sub]
        rw [e2, show (200 : Int32) = zI 200 from rfl, zI_div (by omega) (by omega) (by omega) (by omega), zI_mul, ← zI_nat]
        congr 1
        rcases Nat.lt_or_ge n 200 with q | q
        · have e3 : ((n : Int) - 200).tdiv 200 = 0 := by
            have e4 : (n : Int) - 200 = -((200 - n : Nat) : Int) := by omega
            rw [e4, Int.neg_tdiv]
            have h6 : ((200 - n : Nat) : Int).tdiv 200 = 0 := Int.tdiv_eq_zero_of_lt (by omega) (by omega)
            rw [h6]; rfl
          rw [e3]; omega
        · have e4 : (n : Int) - 200 = ((n - 200 : Nat) : Int) := by omega
          rw [e4, Int.tdiv_eq_ediv_of_nonneg (by omega)]
          omega
      rw [e1]
      show (if nI 400 < _ then _ else nI 400) = _
      rw [max_if (by omega) (by omega)]
      congr 1
      unfold loH
      omega
    rw [elast, efirst]
    exact ⟨_, key (hiH n + 1 - loH n) (loH n) r sd (by omega) (Nat.le_refl _) hr hl hS (fun sd' hS' => by rw [← e] at hS' ⊢; exact hfin sd' hS')⟩
  unfold F_X4_find B_X4_find_0
  have hm : hiH n + 1 - loH n ≤ 2 := by unfold hiH loH; omega
  by_cases q : n < 400
  · have hm0 : hiH n + 1 - loH n = 0 := by unfold hiH loH; omega
    have hsm := sm_facts h1 q
    refine sp_addSmalls (w := []) (r := []) h1 q (fun v hv => wok_sm h1 q v hv) (fun y hy => by cases hy) (by show 0 + _ ≤ 16; omega) (fun i hi => absurd hi (Nat.not_lt_zero i)) (fun sd' hS' => ?_)
    have em : (smL n).map (fun v => [] ++ v) = smL n := by
      have : (fun v : List Nat => [] ++ v) = id := by funext v; rfl
      rw [this, List.map_id]
    rw [em] at hS'
    have h5 := hgreat (sortR (smL n) []) sd' (sortR_wok (wok_sm h1 q) (fun y hy => by cases hy)) (by rw [sortR_len, hm0]; show (smL n).length + 0 + _ ≤ 16; omega) hS' (by
      unfold rawW
      rw [if_pos q, sortR_app])
    rw [sortR_len] at h5
    show ∃ n9 : Nat, _
    rw [show ([] : List (List Nat)).length + (smL n).length = (smL n).length + ([] : List (List Nat)).length by rw [Nat.add_comm]]
    exact h5
  · unfold F_X4_addSmalls B_X4_addSmalls_0 B_X4_addSmalls_12
    have h5 := hgreat [] sd (fun y hy => by cases hy) (by show 0 + _ ≤ 16; omega) (fun i hi => absurd hi (Nat.not_lt_zero i)) (by
      unfold rawW
      rw [if_neg q]
      rfl)
    refine ⟨fun _ => h5, fun _ => ⟨fun q2 => ?_, fun _ => h5⟩⟩
    exfalso
    exact nI_ge (a := 399) (by omega) (by omega) q2

