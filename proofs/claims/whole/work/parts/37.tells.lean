/-! PURE 15: the reference tells; both together -/
/-- the buffer holds w -/
def SAY (my : Nat → Int32) (w : List Nat) : Prop := ∀ i, i < w.length → my i = nI (w.getD i 0)
theorem SAY_seg {my : Nat → Int32} {w : List Nat} (h : SAY my w) : seg my 0 w.length = w.map nI := by
  apply List.ext_getElem?
  intro i
  by_cases q : i < w.length
  · rw [seg_get my _ 0 i q, List.getElem?_map, List.getElem?_eq_getElem q, Nat.zero_add, h i q, List.getD_eq_getElem?_getD, List.getElem?_eq_getElem q]
    rfl
  · rw [List.getElem?_eq_none (by rw [seg_len]; omega), List.getElem?_eq_none (by rw [List.length_map]; omega)]
theorem sp_saysWord {my : Nat → Int32} {w : List Nat} {ch : Nat} {Q : Int32 → Prop} (hs : SAY my w) (hl : w.length ≤ 20) (hw : lim w) (hc : ch < 128) (hQ : Q (hasC w ch)) : F_X6_saysWord (nI ch) (nI w.length) my Q := by
  have key : ∀ m i, i + m = w.length → L_X6_saysWord_5 Q my (m + 1) (nI ch) (nI w.length) (hasC (w.take i) ch) (nI i) := by
    intro m
    induction m with
    | zero =>
      intro i hi
      have hi : i = w.length := by omega
      subst hi
      rw [List.take_length]
      exact ⟨fun _ => ⟨hasC_bo _ _, hQ⟩, fun q => absurd (nI_le (Nat.le_refl _) (by omega)) q⟩
    | succ m ih =>
      intro i hi
      have hi2 : i < w.length := by omega
      have h5 := ih (i + 1) (by omega)
      rw [getD_append w 0 i hi2] at h5
      have hd : w.getD i 0 < 128 := by
        rw [List.getD_eq_getElem?_getD, List.getElem?_eq_getElem hi2]
        exact hw _ (List.getElem_mem _)
      refine ⟨fun q => absurd q (nI_ge hi2 (by omega)), fun _ => ⟨fun q => ⟨vp_in_nI (by omega) (by decide), ?_⟩, fun q => ?_⟩⟩
      · rw [nI_clamp (show i < 2147483648 by omega), hs i hi2]
        have hn : ch ∉ w.take i := fun n => by
          unfold hasC at q
          rw [if_pos n] at q
          exact absurd q (by decide)
        refine ⟨fun q2 => ?_, fun q2 => ?_⟩
        · unfold B_X6_saysWord_26 B_X6_saysWord_31
          have e := code_eq hd hc q2
          have e1 : hasC (w.take i ++ [w.getD i 0]) ch = 1 := by
            unfold hasC
            rw [if_pos (List.mem_append_right _ (by rw [e]; exact List.mem_singleton_self _))]
          rw [e1] at h5
          rw [nI_1]; exact h5
        · unfold B_X6_saysWord_31
          have e1 : hasC (w.take i ++ [w.getD i 0]) ch = 0 := by
            unfold hasC
            rw [if_neg]
            intro n
            rcases List.mem_append.mp n with n | n
            · exact hn n
            · exact q2 (by rw [List.mem_singleton.mp n])
          rw [e1] at h5
          rw [nI_1]; exact h5
      · unfold B_X6_saysWord_26 B_X6_saysWord_31
        have hm : ch ∈ w.take i := Classical.byContradiction fun n => q (by unfold hasC; rw [if_neg n])
        have e1 : hasC (w.take i ++ [w.getD i 0]) ch = 1 := by
          unfold hasC
          rw [if_pos (List.mem_append_left _ hm)]
        rw [e1] at h5
        rw [nI_1]; exact h5
  have h0 := key w.length 0 (by omega)
  have e : hasC (w.take 0) ch = 0 := by
    unfold hasC
    rw [List.take_zero, if_neg (fun n => by cases n)]
  rw [e] at h0
  exact ⟨w.length + 1, h0⟩
theorem sp_logs {K : Nat} {v1 v2 v3 v4 v5 : Int32} {ms : Nat → Int32} {Q : (Nat → Int32) → Prop} (hK : ms 55 = nI K) (k1 : K ≤ 10)
    (hQ : ∀ ms', (∀ i, i < 55 → ms' i = ms i) → ms' 55 = nI (min (K + 1) 10) → (∀ c, c < 5 → ms' (56 + 5 * (min (K + 1) 10 - 1) + c) = (if c = 0 then v1 else if c = 1 then v2 else if c = 2 then v3 else if c = 3 then v4 else if v5 ≤ 0 then 0 else 1)) → (∀ r, r < min (K + 1) 10 - 1 → ∀ c, c < 5 → ms' (56 + 5 * r + c) = ms (56 + 5 * (r + (K - (min (K + 1) 10 - 1))) + c)) → Q ms') : F_X6_logs v1 v2 v3 v4 v5 ms Q := by
  have z55 : (55 : Int32).toNatClampNeg = 55 := rfl
  have i55 : vp_in (55 : Int32) 106 := vp_in_nI (n := 55) (by omega) (by decide)
  have h56 : ∀ (g : Nat) (m0 : Nat → Int32), g = min (K + 1) 10 - 1 → m0 55 = nI g → (∀ i, i < 55 → m0 i = ms i) → (∀ r, r < g → ∀ c, c < 5 → m0 (56 + 5 * r + c) = ms (56 + 5 * (r + (K - g)) + c)) → B_X6_logs_56 Q v1 v2 v3 v4 v5 m0 := fun g m0 hg x1 x2 x3 => by
    have hg9 : g ≤ 9 := by omega
    have e5 : ∀ c : Nat, (56 : Int32) + 5 * nI g + nI c = nI (56 + 5 * g + c) := fun c => by
      rw [show (5 : Int32) = nI 5 from rfl, pk_mul, show (56 : Int32) = nI 56 from rfl, nI_add, nI_add]
    have e0 : (56 : Int32) + 5 * nI g = nI (56 + 5 * g + 0) := by
      rw [show (5 : Int32) = nI 5 from rfl, pk_mul, show (56 : Int32) = nI 56 from rfl, nI_add, Nat.add_zero]
    have e1 : (56 : Int32) + 5 * nI g + 1 = nI (56 + 5 * g + 1) := e5 1
    have e2 : (56 : Int32) + 5 * nI g + 2 = nI (56 + 5 * g + 2) := e5 2
    have e3 : (56 : Int32) + 5 * nI g + 3 = nI (56 + 5 * g + 3) := e5 3
    have e4 : (56 : Int32) + 5 * nI g + 4 = nI (56 + 5 * g + 4) := e5 4
    have ii : ∀ c : Nat, c < 5 → vp_in (nI (56 + 5 * g + c)) 106 := fun c hc => vp_in_nI (by omega) (by decide)
    have cc : ∀ c : Nat, c < 5 → (nI (56 + 5 * g + c)).toNatClampNeg = 56 + 5 * g + c := fun c hc => nI_clamp (by omega)
    have h127 : ∀ l : Int32, l = (if v5 ≤ 0 then 0 else 1) → B_X6_logs_127 Q (nI (56 + 5 * g + 4)) l (upd (upd (upd (upd m0 (56 + 5 * g + 0) v1) (56 + 5 * g + 1) v2) (56 + 5 * g + 2) v3) (56 + 5 * g + 3) v4) := fun l hl => by
      unfold B_X6_logs_127
      rw [cc 4 (by omega), z55]
      refine ⟨ii 4 (by omega), i55, i55, ?_⟩
      refine hQ _ (fun i hi => ?_) ?_ (fun c hc => ?_) (fun r hr9 c hc => ?_)
      · rw [pk_un (by omega), pk_un (by omega), pk_un (by omega), pk_un (by omega), pk_un (by omega), pk_un (by omega), x2 i hi]
      · rw [pk_us, pk_un (by omega), pk_un (by omega), pk_un (by omega), pk_un (by omega), pk_un (by omega), x1, nI_1]
        congr 1; omega
      · rw [← hg, pk_un (by omega)]
        have hc5 : c = 0 ∨ c = 1 ∨ c = 2 ∨ c = 3 ∨ c = 4 := by omega
        rcases hc5 with e | e | e | e | e
        · subst e; rw [pk_un (by omega), pk_un (by omega), pk_un (by omega), pk_un (by omega), pk_us]; rfl
        · subst e; rw [pk_un (by omega), pk_un (by omega), pk_un (by omega), pk_us]; rfl
        · subst e; rw [pk_un (by omega), pk_un (by omega), pk_us]; rfl
        · subst e; rw [pk_un (by omega), pk_us]; rfl
        · subst e; rw [pk_us]; exact hl
      · rw [← hg] at hr9 ⊢
        rw [pk_un (by omega), pk_un (by omega), pk_un (by omega), pk_un (by omega), pk_un (by omega), pk_un (by omega)]
        exact x3 r hr9 c hc
    unfold B_X6_logs_56
    rw [z55, x1, e1, e2, e3, e4, e0, cc 0 (by omega), cc 1 (by omega), cc 2 (by omega), cc 3 (by omega)]
    exact ⟨i55, ii 0 (by omega), ii 1 (by omega), ii 2 (by omega), ii 3 (by omega), fun q => h127 0 (by rw [if_pos q]), fun q => h127 1 (by rw [if_neg q])⟩
  unfold F_X6_logs B_X6_logs_0
  rw [z55, hK]
  refine ⟨i55, fun q => ?_, fun q => ?_⟩
  · have e : K = 10 := (nI_eq (b := 10) (by omega) (by omega)).mp q
    subst e
    have key : ∀ m i (m1 : Nat → Int32), i + m = 45 → (∀ k, k < 56 → m1 k = ms k) → (∀ k, k < i → m1 (56 + k) = ms (56 + k + 5)) → (∀ k, 56 + i ≤ k → m1 k = ms k) → L_X6_logs_16 Q (m + 1) v1 v2 v3 v4 v5 (nI (56 + i)) m1 := by
      intro m
      induction m with
      | zero =>
        intro i m1 hi x1 x2 x3
        have hi : i = 45 := by omega
        subst hi
        refine ⟨fun _ => ⟨i55, i55, ?_⟩, fun q => absurd (nI_le (a := 101) (by omega) (by omega)) q⟩
        rw [z55]
        refine h56 9 _ (by omega) ?_ (fun i hi => ?_) (fun r hr9 c hc => ?_)
        · rw [pk_us, x1 55 (by omega), hK, nI_m1 (by omega)]
        · rw [pk_un (by omega)]; exact x1 i (by omega)
        · rw [pk_un (by omega)]
          have := x2 (5 * r + c) (by omega)
          rw [show 56 + 5 * r + c = 56 + (5 * r + c) by omega, this]
          congr 1; omega
      | succ m ih =>
        intro i m1 hi x1 x2 x3
        have e5 : nI (56 + i) + 5 = nI (56 + i + 5) := nI_add _ 5
        refine ⟨fun q => absurd q (nI_ge (b := 101) (by omega) (by omega)), fun _ => ?_⟩
        rw [e5, nI_clamp (show 56 + i + 5 < 2147483648 by omega), nI_clamp (show 56 + i < 2147483648 by omega), nI_1]
        refine ⟨vp_in_nI (by omega) (by decide), vp_in_nI (by omega) (by decide), ?_⟩
        refine ih (i + 1) _ (by omega) (fun k hk => ?_) (fun k hk => ?_) (fun k hk => ?_)
        · rw [pk_un (by omega)]; exact x1 k hk
        · by_cases e : k = i
          · subst e; rw [pk_us]; exact x3 _ (by omega)
          · rw [pk_un (by omega)]; exact x2 k (by omega)
        · rw [pk_un (by omega)]; exact x3 k (by omega)
    exact ⟨45 + 1, key 45 0 ms rfl (fun k _ => rfl) (fun k hk => absurd hk (Nat.not_lt_zero k)) (fun k _ => rfl)⟩
  · have e : K ≠ 10 := fun e => q (by rw [e]; rfl)
    refine h56 K ms (by omega) hK (fun i _ => rfl) (fun r hr9 c hc => ?_)
    rw [Nat.sub_self, Nat.add_zero]
theorem learn_flag {a b c : Int32} (ha : isBo a) (hb : isBo b) (hc : isBo c) : (if (0 : Int32) + a + b + c ≤ 0 then (0 : Int32) else 1) = orI (orI (orI 0 a) b) c := by
  rcases ha with rfl | rfl <;> rcases hb with rfl | rfl <;> rcases hc with rfl | rfl <;> decide
theorem sp_tells {H h K a : Nat} {num : Int32} {w : List Nat} {my ms mb : Nat → Int32} {gs ga gg gb gu gh gk gl : Int32} {Q : Int32 → (Nat → Int32) → (Nat → Int32) → Int32 → Int32 → Int32 → Int32 → Int32 → Int32 → Int32 → Int32 → Int32 → Prop}
    (hw : wok w) (hs : SAY my w) (hH : H ≤ 4) (hh : h < 6) (hK : ms 55 = nI K) (k1 : K ≤ 10) (ha : ms (9 * h + 6) = nI a) (ha2 : a ≤ 12) (hb : ∀ c, c < 3 → isBo (ms (9 * h + c)))
    (hQ : ∀ (gs ga gg gb gu gh gk gl : Int32) (mb' ms1 ms' : Nat → Int32), (∀ i, i < 106 → mb' (106 * (min (H + 1) 4 - 1) + i) = ms i) → (∀ j, 1 ≤ j → j < min (H + 1) 4 → ∀ i, i < 106 → mb' (106 * (min (H + 1) 4 - 1 - j) + i) = mb (106 * (H - j) + i)) →
      (∀ c, c < 9 → ms1 (9 * h + c) = rowT (ms 54) num w (fun c => ms (9 * h + c)) c) → (∀ i, (i < 9 * h ∨ 9 * h + 9 ≤ i) → ms1 i = ms i) →
      (∀ i, i < 55 → ms' i = ms1 i) → ms' 55 = nI (min (K + 1) 10) → (∀ c, c < 5 → ms' (56 + 5 * (min (K + 1) 10 - 1) + c) = line h num w.length (hrd (fun c => ms (9 * h + c)) w) (lrn (ms 54) num w (fun c => ms (9 * h + c))) c) → (∀ r, r < min (K + 1) 10 - 1 → ∀ c, c < 5 → ms' (56 + 5 * r + c) = ms1 (56 + 5 * (r + (K - (min (K + 1) 10 - 1))) + c)) →
      Q (if hrd (fun c => ms (9 * h + c)) w = num then 1 else 0) ms' mb' gs ga gg gb gu gh gk gl (nI (min (H + 1) 4))) :
    F_X6_tells (nI h) num (nI w.length) my ms mb gs ga gg gb gu gh gk gl (nI H) Q := by
  have hw9 := hw.2
  have hlim : lim w := fun d hd => (hw.1 d hd).2
  have e9 : ∀ c : Nat, c < 9 → (9 : Int32) * nI h + nI c = nI (9 * h + c) := fun c _ => by rw [show (9 : Int32) = nI 9 from rfl, pk_mul, nI_add]
  have e7 : (9 : Int32) * nI h + 7 = nI (9 * h + 7) := e9 7 (by omega)
  have e8 : (9 : Int32) * nI h + 8 = nI (9 * h + 8) := e9 8 (by omega)
  have i7 : vp_in (nI (9 * h + 7)) 106 := vp_in_nI (by omega) (by decide)
  have i8 : vp_in (nI (9 * h + 8)) 106 := vp_in_nI (by omega) (by decide)
  unfold F_X6_tells B_X6_tells_0
  refine sp_recordM hH (fun mb' r1 r2 => ?_)
  refine sp_understands (by omega) rfl (SAY_seg hs) hh ha (by omega) (fun gs ga gg gb gu gh gk gl => ?_)
  rw [e7, e8, nI_clamp (show 9 * h + 7 < 2147483648 by omega), nI_clamp (show 9 * h + 8 < 2147483648 by omega)]
  refine ⟨i7, i7, ?_⟩
  have hend : ∀ (ms1 : Nat → Int32) (l : Int32), (∀ c, c < 9 → ms1 (9 * h + c) = rowT (ms 54) num w (fun c => ms (9 * h + c)) c) → (∀ i, (i < 9 * h ∨ 9 * h + 9 ≤ i) → ms1 i = ms i) → (if l ≤ 0 then (0 : Int32) else 1) = lrn (ms 54) num w (fun c => ms (9 * h + c)) →
      B_X6_tells_128 Q my (nI h) num (nI w.length) (hrd (fun c => ms (9 * h + c)) w) l ms1 mb' gs ga gg gb gu gh gk gl (nI (min (H + 1) 4)) := fun ms1 l x1 x2 x3 => by
    unfold B_X6_tells_128 B_X6_tells_150
    refine sp_logs (K := K) ((x2 55 (by omega)).trans hK) k1 (fun ms' y1 y2 y3 y4 => ?_)
    have hfin := hQ gs ga gg gb gu gh gk gl mb' ms1 ms' r1 r2 x1 x2 y1 y2 (fun c hc => by
      rw [y3 c hc]
      unfold line
      rw [← x3]) y4
    refine ⟨fun q => ?_, fun q => ?_⟩
    · rw [if_pos q] at hfin; exact hfin
    · rw [if_neg q] at hfin; exact hfin
  refine ⟨fun q => ?_, fun q => ⟨i8, i8, ?_⟩⟩
  · refine hend _ 0 (fun c hc => ?_) (fun i hi => pk_un (by omega)) ?_
    · unfold rowT
      rw [if_pos q]
      unfold row7
      by_cases e : c = 7
      · subst e; rw [pk_us, pk_us]
      · rw [pk_un (by omega), pk_un e]
    · unfold lrn
      rw [if_pos q, if_pos (by decide)]
  · -- an error: the three words
    have hrow8 : ∀ c, c < 9 → (upd (upd ms (9 * h + 7) (ms (9 * h + 7) + 1)) (9 * h + 8) ((upd ms (9 * h + 7) (ms (9 * h + 7) + 1)) (9 * h + 8) + 1)) (9 * h + c) = row8 (fun c => ms (9 * h + c)) c := fun c hc => by
      unfold row8 row7
      by_cases e : c = 8
      · subst e; rw [pk_us, pk_us, pk_un (by omega), pk_un (by omega)]
      · rw [pk_un (by omega), pk_un e]
        by_cases e2 : c = 7
        · subst e2; rw [pk_us, pk_us]
        · rw [pk_un (by omega), pk_un e2]
    have hout8 : ∀ i, (i < 9 * h ∨ 9 * h + 9 ≤ i) → (upd (upd ms (9 * h + 7) (ms (9 * h + 7) + 1)) (9 * h + 8) ((upd ms (9 * h + 7) (ms (9 * h + 7) + 1)) (9 * h + 8) + 1)) i = ms i := fun i hi => by rw [pk_un (by omega), pk_un (by omega)]
    generalize (upd (upd ms (9 * h + 7) (ms (9 * h + 7) + 1)) (9 * h + 8) ((upd ms (9 * h + 7) (ms (9 * h + 7) + 1)) (9 * h + 8) + 1)) = m2 at hrow8 hout8 ⊢
    have hb8 : ∀ c, c < 3 → isBo (row8 (fun c => ms (9 * h + c)) c) := fun c hc => by
      unfold row8 row7
      rw [pk_un (by omega), pk_un (by omega)]; exact hb c hc
    have step : ∀ (j : Nat) (r : Nat → Int32) (m : Nat → Int32) (G : Int32 → (Nat → Int32) → Prop), j < 3 → (∀ c, c < 9 → m (9 * h + c) = r c) → (∀ i, (i < 9 * h ∨ 9 * h + 9 ≤ i) → m i = ms i) → isBo (r j) →
        (∀ m', (∀ c, c < 9 → m' (9 * h + c) = (dst (ms 54) (hasC w (chW j)) j r).2 c) → (∀ i, (i < 9 * h ∨ 9 * h + 9 ≤ i) → m' i = ms i) → G (dst (ms 54) (hasC w (chW j)) j r).1 m') →
        F_X6_saysWord (nI (chW j)) (nI w.length) my (fun r_7 => (r_7 = 0 → G 0 m) ∧ (¬ r_7 = 0 → F_X6_doubts (nI h) (nI j) m G)) := fun j r m G hj x1 x2 x3 hG => by
      refine sp_saysWord hs (by omega) hlim ?_ ⟨fun q0 => ?_, fun q0 => ?_⟩
      · unfold chW
        by_cases e0 : j = 0
        · rw [if_pos e0]; omega
        · rw [if_neg e0]
          by_cases e1 : j = 1
          · rw [if_pos e1]; omega
          · rw [if_neg e1]; omega
      · rw [q0, dst_zero] at hG
        exact hG m x1 x2
      · rw [dst_one q0] at hG
        have p54 : m 54 = ms 54 := x2 54 (by omega)
        obtain ⟨g1, g2⟩ := dst_congr (p := ms 54) (b := 1) hj x1
        refine sp_doubtsM hh hj (by rw [x1 j (by omega)]; exact x3) (fun m' y1 y2 => ?_)
        rw [p54] at y1 ⊢
        rw [g1]
        exact hG m' (fun c hc => by rw [y1 c hc]; exact g2 c hc) (fun i hi => by rw [y2 i hi]; exact x2 i hi)
    have b0 := hb8
    have b1 : ∀ c, c < 3 → isBo ((dr0 (ms 54) w (row8 (fun c => ms (9 * h + c)))).2 c) := fun c hc => dst_bo3 (by omega) hc (b0 c hc)
    have b2 : ∀ c, c < 3 → isBo ((dr1 (ms 54) w (row8 (fun c => ms (9 * h + c)))).2 c) := fun c hc => dst_bo3 (by omega) hc (b1 c hc)
    have hrT : rowT (ms 54) num w (fun c => ms (9 * h + c)) = (dr2 (ms 54) w (row8 (fun c => ms (9 * h + c)))).2 := by unfold rowT; rw [if_neg q]
    have hlT : lrn (ms 54) num w (fun c => ms (9 * h + c)) = drL (ms 54) w (row8 (fun c => ms (9 * h + c))) := by unfold lrn; rw [if_neg q]
    refine step 0 _ m2 (fun d m => B_X6_tells_75 Q my (nI h) num (nI w.length) (hrd (fun c => ms (9 * h + c)) w) 0 d m mb' gs ga gg gb gu gh gk gl (nI (min (H + 1) 4))) (by omega) hrow8 hout8 (b0 0 (by omega)) (fun m3 x1 x2 => ?_)
    show B_X6_tells_75 Q my (nI h) num (nI w.length) (hrd (fun c => ms (9 * h + c)) w) 0 (dr0 (ms 54) w (row8 (fun c => ms (9 * h + c)))).1 m3 mb' gs ga gg gb gu gh gk gl (nI (min (H + 1) 4))
    unfold B_X6_tells_75
    refine step 1 _ m3 (fun d m => B_X6_tells_100 Q my (nI h) num (nI w.length) (hrd (fun c => ms (9 * h + c)) w) (0 + (dr0 (ms 54) w (row8 (fun c => ms (9 * h + c)))).1) d m mb' gs ga gg gb gu gh gk gl (nI (min (H + 1) 4))) (by omega) x1 x2 (b1 1 (by omega)) (fun m4 x3 x4 => ?_)
    show B_X6_tells_100 Q my (nI h) num (nI w.length) (hrd (fun c => ms (9 * h + c)) w) (0 + (dr0 (ms 54) w (row8 (fun c => ms (9 * h + c)))).1) (dr1 (ms 54) w (row8 (fun c => ms (9 * h + c)))).1 m4 mb' gs ga gg gb gu gh gk gl (nI (min (H + 1) 4))
    unfold B_X6_tells_100
    refine step 2 _ m4 (fun d m => B_X6_tells_125 Q my (nI h) num (nI w.length) (hrd (fun c => ms (9 * h + c)) w) (0 + (dr0 (ms 54) w (row8 (fun c => ms (9 * h + c)))).1 + (dr1 (ms 54) w (row8 (fun c => ms (9 * h + c)))).1) d m mb' gs ga gg gb gu gh gk gl (nI (min (H + 1) 4))) (by omega) x3 x4 (b2 2 (by omega)) (fun m5 x5 x6 => ?_)
    unfold B_X6_tells_125
    refine hend m5 _ (fun c hc => ?_) x6 ?_
    · rw [hrT]; exact x5 c hc
    · rw [hlT]
      unfold drL
      exact learn_flag (dst_bo _ _ _ _) (dst_bo _ _ _ _) (dst_bo _ _ _ _)
