/-! PURE 13: one hearer's row, the log, on both sides -/
section SRX
variable {T T' : Nat} {nw kp pt nw' kp' : Nat → Int32} {hr lr hr' lr' : Nat → Nat → Int32} {ms ms' mb : Nat → Int32}
/-- a hearer's row is written, alike on both sides -/
theorem SR_row {h : Nat} (hs : SR T nw kp pt hr lr 0 ms 0) (hh : h < 6) (hT : T ≤ T') (h1 : ∀ c, c < 9 → hr' h c = ms' (9 * h + c)) (h2 : ∀ k, k ≠ h → hr' k = hr k) (h3 : ∀ i, i < 106 → (i < 9 * h ∨ 9 * h + 9 ≤ i) → ms' i = ms i)
    (i1 : ∀ c, c < 3 → isBo (ms' (9 * h + c))) (i2 : ∃ a, 1 ≤ a ∧ a ≤ 12 ∧ ms' (9 * h + 6) = nI a) (i3 : ∃ e t : Nat, e ≤ t ∧ t ≤ T' ∧ ms' (9 * h + 7) = nI t ∧ ms' (9 * h + 8) = nI e) : SR T' nw kp pt hr' lr 0 ms' 0 := by
  obtain ⟨a1, a2, ⟨K, N, b1, b2, b3, b4, b5, b6⟩, a4, a5, a6⟩ := hs
  refine ⟨?_, fun g hg c hc => ?_, ⟨K, N, b1, b2, b3, b4, ?_, fun a ha c hc => ?_⟩, fun g hg c hc => ?_, fun g hg => ?_, fun g hg => ?_⟩
  · rw [a1, Nat.zero_add, h3 54 (by omega) (by omega)]
  · rw [Nat.mul_zero, Nat.zero_add, Nat.zero_add]
    by_cases e : g = h
    · subst e; exact h1 c hc
    · rw [h2 g e]
      have := a2 g hg c hc
      rw [Nat.mul_zero, Nat.zero_add, Nat.zero_add] at this
      rw [this, h3 _ (by omega) (by omega)]
  · rw [Nat.zero_add, h3 55 (by omega) (by omega)]
    rw [Nat.zero_add] at b5; exact b5
  · rw [b6 a ha c hc, Nat.zero_add, h3 _ (by omega) (by omega)]
  · rw [Nat.zero_add]
    by_cases e : g = h
    · subst e; exact i1 c hc
    · have := a4 g hg c hc
      rw [Nat.zero_add] at this
      rw [h3 _ (by omega) (by omega)]; exact this
  · rw [Nat.zero_add]
    by_cases e : g = h
    · subst e; exact i2
    · obtain ⟨a, x1, x2, x3⟩ := a5 g hg
      rw [Nat.zero_add] at x3
      exact ⟨a, x1, x2, by rw [h3 _ (by omega) (by omega)]; exact x3⟩
  · rw [Nat.zero_add, Nat.zero_add]
    by_cases e : g = h
    · subst e; exact i3
    · obtain ⟨e1, t1, x1, x2, x3, x4⟩ := a6 g hg
      rw [Nat.zero_add] at x3 x4
      exact ⟨e1, t1, x1, by omega, by rw [h3 _ (by omega) (by omega)]; exact x3, by rw [h3 _ (by omega) (by omega)]; exact x4⟩
/-- what SR says of the state at hand -/
theorem SR_at {h c : Nat} (hs : SR T nw kp pt hr lr 0 ms 0) (hh : h < 6) (hc : c < 9) : hr h c = ms (9 * h + c) := by
  have := hs.2.1 h hh c hc
  rw [Nat.mul_zero, Nat.zero_add, Nat.zero_add] at this
  exact this
theorem SR_bo {h c : Nat} (hs : SR T nw kp pt hr lr 0 ms 0) (hh : h < 6) (hc : c < 3) : isBo (ms (9 * h + c)) := by
  have := hs.2.2.2.1 h hh c hc
  rw [Nat.zero_add] at this
  exact this
theorem SR_att {h : Nat} (hs : SR T nw kp pt hr lr 0 ms 0) (hh : h < 6) : ∃ a, 1 ≤ a ∧ a ≤ 12 ∧ ms (9 * h + 6) = nI a := by
  obtain ⟨a, x1, x2, x3⟩ := hs.2.2.2.2.1 h hh
  rw [Nat.zero_add] at x3
  exact ⟨a, x1, x2, x3⟩
theorem SR_te {h : Nat} (hs : SR T nw kp pt hr lr 0 ms 0) (hh : h < 6) : ∃ e t : Nat, e ≤ t ∧ t ≤ T ∧ ms (9 * h + 7) = nI t ∧ ms (9 * h + 8) = nI e := by
  obtain ⟨e1, t1, x1, x2, x3, x4⟩ := hs.2.2.2.2.2 h hh
  rw [Nat.zero_add] at x3 x4
  exact ⟨e1, t1, x1, x2, x3, x4⟩
theorem SR_pt (hs : SR T nw kp pt hr lr 0 ms 0) : pt 0 = ms 54 := by
  have := hs.1
  rw [Nat.zero_add] at this
  exact this
/-- the other states don't see what is written in the state at hand -/
theorem HR_other {F H : Nat} (hh : HR T F H nw kp pt hr lr mb) (h1 : ∀ k, k ≠ 0 → nw' k = nw k) (h2 : ∀ k, k ≠ 0 → kp' k = kp k) {pt' : Nat → Int32} (h3 : ∀ k, k ≠ 0 → pt' k = pt k) (h4 : ∀ k, 6 ≤ k → hr' k = hr k) (h5 : ∀ k, 10 ≤ k → lr' k = lr k) : HR T F H nw' kp' pt' hr' lr' mb := by
  obtain ⟨hF, hH, hj⟩ := hh
  refine ⟨hF, hH, fun j hj2 => SR_eq (hj j hj2) ⟨h1 _ (by omega), h2 _ (by omega), h3 _ (by omega), fun h hh c hc => by rw [h4 _ (by omega)], fun r hr9 c hc => by rw [h5 _ (by omega)]⟩ (fun i _ => rfl)⟩
/-- a line is put into the log -/
theorem SR_log {K N : Nat} {v : Nat → Int32} (hs : SR T nw kp pt hr lr 0 ms 0) (hK : kp 0 = nI K) (hN : nw 0 = nI N) (k1 : K ≤ 10) (n1 : N < 10)
    (x1 : kp' 0 = nI (min (K + 1) 10)) (x2 : nw' 0 = nI ((N + 1) % 10)) (x3 : ∀ c, c < 5 → lr' ((N + 1) % 10) c = v c) (x4 : ∀ r, r < 10 → r ≠ (N + 1) % 10 → ∀ c, c < 5 → lr' r c = lr r c)
    (y1 : ∀ i, i < 55 → ms' i = ms i) (y2 : ms' 55 = nI (min (K + 1) 10)) (y3 : ∀ c, c < 5 → ms' (56 + 5 * (min (K + 1) 10 - 1) + c) = v c) (y4 : ∀ r, r < min (K + 1) 10 - 1 → ∀ c, c < 5 → ms' (56 + 5 * r + c) = ms (56 + 5 * (r + (K - (min (K + 1) 10 - 1))) + c)) : SR T nw' kp' pt hr lr' 0 ms' 0 := by
  obtain ⟨a1, a2, ⟨K0, N0, b1, b2, b3, b4, b5, b6⟩, a4, a5, a6⟩ := hs
  have eK : K0 = K := (nI_eq (by omega) (by omega)).mp (b3.symm.trans hK)
  have eN : N0 = N := (nI_eq (by omega) (by omega)).mp (b4.symm.trans hN)
  subst eK
  subst eN
  refine ⟨?_, fun g hg c hc => ?_, ⟨min (K0 + 1) 10, (N0 + 1) % 10, by omega, by omega, x1, x2, ?_, fun a ha c hc => ?_⟩, fun g hg c hc => ?_, fun g hg => ?_, fun g hg => ?_⟩
  · rw [Nat.zero_add, y1 54 (by omega)]
    rw [Nat.zero_add] at a1; exact a1
  · have := a2 g hg c hc
    rw [this, Nat.zero_add, y1 _ (by omega)]
  · rw [Nat.zero_add]; exact y2
  · rw [Nat.mul_zero, Nat.zero_add, Nat.zero_add]
    rcases Nat.eq_zero_or_pos a with e | e
    · subst e
      rw [show ((N0 + 1) % 10 + 10 - 0) % 10 = (N0 + 1) % 10 by omega, Nat.sub_zero, x3 c hc, y3 c hc]
    · rw [x4 _ (by omega) (by omega) c hc]
      have h9 := b6 (a - 1) (by omega) c hc
      rw [Nat.mul_zero, Nat.zero_add, Nat.zero_add] at h9
      rw [y4 (min (K0 + 1) 10 - 1 - a) (by omega) c hc]
      rw [show (N0 + 10 - (a - 1)) % 10 = ((N0 + 1) % 10 + 10 - a) % 10 by omega, show K0 - 1 - (a - 1) = min (K0 + 1) 10 - 1 - a + (K0 - (min (K0 + 1) 10 - 1)) by omega] at h9
      exact h9
  · have := a4 g hg c hc
    rw [Nat.zero_add] at this ⊢
    rw [y1 _ (by omega)]; exact this
  · obtain ⟨a, z1, z2, z3⟩ := a5 g hg
    rw [Nat.zero_add] at z3 ⊢
    exact ⟨a, z1, z2, by rw [y1 _ (by omega)]; exact z3⟩
  · obtain ⟨e1, t1, z1, z2, z3, z4⟩ := a6 g hg
    rw [Nat.zero_add] at z3 z4
    rw [Nat.zero_add, Nat.zero_add]
    exact ⟨e1, t1, z1, z2, by rw [y1 _ (by omega)]; exact z3, by rw [y1 _ (by omega)]; exact z4⟩
theorem SR_pat {v : Int32} {pt' : Nat → Int32} (hs : SR T nw kp pt hr lr 0 ms 0) (h1 : pt' 0 = v) (h2 : ms' 54 = v) (h3 : ∀ i, i < 106 → i ≠ 54 → ms' i = ms i) : SR T nw kp pt' hr lr 0 ms' 0 := by
  obtain ⟨a1, a2, ⟨K, N, b1, b2, b3, b4, b5, b6⟩, a4, a5, a6⟩ := hs
  refine ⟨?_, fun g hg c hc => ?_, ⟨K, N, b1, b2, b3, b4, ?_, fun a ha c hc => ?_⟩, fun g hg c hc => ?_, fun g hg => ?_, fun g hg => ?_⟩
  · rw [Nat.zero_add, h1, h2]
  · rw [a2 g hg c hc, Nat.zero_add, h3 _ (by omega) (by omega)]
  · rw [Nat.zero_add, h3 _ (by omega) (by omega)]
    rw [Nat.zero_add] at b5; exact b5
  · rw [b6 a ha c hc, Nat.zero_add, h3 _ (by omega) (by omega)]
  · have := a4 g hg c hc
    rw [Nat.zero_add] at this ⊢
    rw [h3 _ (by omega) (by omega)]; exact this
  · obtain ⟨a, z1, z2, z3⟩ := a5 g hg
    rw [Nat.zero_add] at z3 ⊢
    exact ⟨a, z1, z2, by rw [h3 _ (by omega) (by omega)]; exact z3⟩
  · obtain ⟨e1, t1, z1, z2, z3, z4⟩ := a6 g hg
    rw [Nat.zero_add] at z3 z4
    rw [Nat.zero_add, Nat.zero_add]
    exact ⟨e1, t1, z1, z2, by rw [h3 _ (by omega) (by omega)]; exact z3, by rw [h3 _ (by omega) (by omega)]; exact z4⟩
end SRX
/-- a word is doubted: the row behind it, and whether it becomes known -/
def dst (p b : Int32) (j : Nat) (row : Nat → Int32) : Int32 × (Nat → Int32) :=
  if row j = 0 ∧ b ≠ 0 then
    (if row (3 + j) + 1 < p then (0, upd row (3 + j) (row (3 + j) + 1)) else (1, upd (upd (upd row (3 + j) (row (3 + j) + 1)) j 1) (3 + j) 0))
  else (0, row)
def chW (j : Nat) : Nat := if j = 0 then 72 else if j = 1 then 45 else 71
theorem sp_wordCharacter {j : Nat} {Q : Int32 → Prop} (hj : j < 3) (h : Q (nI (chW j))) : F_X5_wordCharacter (nI j) Q := by
  unfold chW at h
  refine ⟨fun q => ?_, fun q => ⟨fun q2 => ?_, fun q2 => ?_⟩⟩
  · have e : j = 0 := (nI_eq (b := 0) (by omega) (by omega)).mp q
    rw [if_pos e] at h; exact h
  · have e : j = 1 := (nI_eq (b := 1) (by omega) (by omega)).mp q2
    rw [if_neg (by omega), if_pos e] at h; exact h
  · have e0 : j ≠ 0 := fun e => q (by rw [e]; rfl)
    have e1 : j ≠ 1 := fun e => q2 (by rw [e]; rfl)
    rw [if_neg e0, if_neg e1] at h; exact h
theorem dst_bo (p b : Int32) (j : Nat) (row : Nat → Int32) : isBo (dst p b j row).1 := by
  unfold dst
  by_cases q : row j = 0 ∧ b ≠ 0
  · rw [if_pos q]
    by_cases q2 : row (3 + j) + 1 < p
    · rw [if_pos q2]; exact isBo0
    · rw [if_neg q2]; exact isBo1
  · rw [if_neg q]; exact isBo0
def orI (a b : Int32) : Int32 := if b = 0 then a else 1
theorem orI_bo {a b : Int32} (h : isBo a) : isBo (orI a b) := by
  unfold orI
  by_cases q : b = 0
  · rw [if_pos q]; exact h
  · rw [if_neg q]; exact isBo1
theorem sp_dwstep {n j h : Nat} {w : List Nat} {l : Int32} {pt : Nat → Int32} {hr : Nat → Nat → Int32} {Q : Int32 → (Nat → Nat → Int32) → Prop} (hw : wok w) (hj : j < 3)
    (hQ : ∀ hr', hr' h = (dst (pt 0) (hasC w (chW j)) j (hr h)).2 → (∀ k, k ≠ h → hr' k = hr k) → L_X5_doubtWords_6 Q pt n h (pkL w) (orI l (dst (pt 0) (hasC w (chW j)) j (hr h)).1) (nI (j + 1)) hr') :
    L_X5_doubtWords_6 Q pt (n + 1) h (pkL w) l (nI j) hr := by
  have ej : ((0 : Int32) + nI j).toNatClampNeg = j := by rw [Int32.zero_add, nI_clamp (by omega)]
  have ej3 : ((3 : Int32) + nI j).toNatClampNeg = 3 + j := by rw [show (3 : Int32) = nI 3 from rfl, nI_add, nI_clamp (by omega)]
  have ij : vp_in ((0 : Int32) + nI j) 9 := by rw [Int32.zero_add]; exact vp_in_nI (by omega) (by decide)
  have ij3 : vp_in ((3 : Int32) + nI j) 9 := by rw [show (3 : Int32) = nI 3 from rfl, nI_add]; exact vp_in_nI (by omega) (by decide)
  have hch : 0 < chW j ∧ chW j < 128 := by
    unfold chW
    by_cases q : j = 0
    · rw [if_pos q]; omega
    · rw [if_neg q]
      by_cases q1 : j = 1
      · rw [if_pos q1]; omega
      · rw [if_neg q1]; omega
  refine ⟨fun q => absurd q (nI_ge (b := 3) hj (by omega)), fun _ => ⟨ij, ?_⟩⟩
  rw [ej, ej3]
  unfold dst at hQ
  refine ⟨fun q => sp_wordCharacter hj (sp_hasX hw.1 hw.2 hch.1 hch.2 ⟨fun q2 => ?_, fun q2 => ⟨ij3, ij3, ij3, fun q3 => ?_, fun q3 => ⟨ij, ij3, ?_⟩⟩⟩), fun q => ?_⟩
  · rw [if_neg (fun n => n.2 q2)] at hQ
    unfold B_X5_doubtWords_76
    rw [nI_1]
    have h9 := hQ hr rfl (fun k _ => rfl)
    unfold orI at h9
    rw [if_pos rfl] at h9
    exact h9
  · rw [up_s, pk_us] at q3
    rw [if_pos ⟨q, q2⟩, if_pos q3] at hQ
    unfold B_X5_doubtWords_76
    rw [nI_1]
    have h9 := hQ _ (up_s (v := upd (hr h) (3 + j) (hr h (3 + j) + 1))) (fun k hk => up_n hk)
    unfold orI at h9
    rw [if_pos rfl] at h9
    exact h9
  · rw [up_s, pk_us] at q3
    rw [if_pos ⟨q, q2⟩, if_neg q3] at hQ
    unfold B_X5_doubtWords_76
    rw [nI_1]
    have h9 := hQ (va_up (va_up (va_up hr h (upd (hr h) (3 + j) ((hr h) (3 + j) + 1))) h (upd ((va_up hr h (upd (hr h) (3 + j) ((hr h) (3 + j) + 1))) h) j 1)) h (upd ((va_up (va_up hr h (upd (hr h) (3 + j) ((hr h) (3 + j) + 1))) h (upd ((va_up hr h (upd (hr h) (3 + j) ((hr h) (3 + j) + 1))) h) j 1)) h) (3 + j) 0)) (by rw [up_s, up_s, up_s]) (fun k hk => by rw [up_n hk, up_n hk, up_n hk])
    unfold orI at h9
    rw [if_neg (show ¬ (1 : Int32) = 0 by decide)] at h9
    exact h9
  · rw [if_neg (fun n => q n.1)] at hQ
    unfold B_X5_doubtWords_76
    rw [nI_1]
    have h9 := hQ hr rfl (fun k _ => rfl)
    unfold orI at h9
    rw [if_pos rfl] at h9
    exact h9
/-- the three words, one behind the other -/
def dr0 (p : Int32) (w : List Nat) (row : Nat → Int32) := dst p (hasC w 72) 0 row
def dr1 (p : Int32) (w : List Nat) (row : Nat → Int32) := dst p (hasC w 45) 1 (dr0 p w row).2
def dr2 (p : Int32) (w : List Nat) (row : Nat → Int32) := dst p (hasC w 71) 2 (dr1 p w row).2
def drL (p : Int32) (w : List Nat) (row : Nat → Int32) : Int32 := orI (orI (orI 0 (dr0 p w row).1) (dr1 p w row).1) (dr2 p w row).1
theorem drL_bo (p : Int32) (w : List Nat) (row : Nat → Int32) : isBo (drL p w row) := orI_bo (orI_bo (orI_bo isBo0))
theorem sp_doubtWords {h : Nat} {w : List Nat} {pt : Nat → Int32} {hr : Nat → Nat → Int32} {Q : Int32 → (Nat → Nat → Int32) → Prop} (hw : wok w)
    (hQ : ∀ hr', hr' h = (dr2 (pt 0) w (hr h)).2 → (∀ k, k ≠ h → hr' k = hr k) → Q (drL (pt 0) w (hr h)) hr') : F_X5_doubtWords h (pkL w) pt hr Q := by
  refine ⟨3 + 1, sp_dwstep (n := 3) (j := 0) hw (by omega) (fun hr1 a1 b1 => sp_dwstep (n := 2) (j := 1) hw (by omega) (fun hr2 a2 b2 => sp_dwstep (n := 1) (j := 2) hw (by omega) (fun hr3 a3 b3 => ?_)))⟩
  rw [a2, a1] at a3
  rw [a2, a1]
  refine ⟨fun _ => ⟨drL_bo (pt 0) w (hr h), hQ hr3 a3 (fun k hk => by rw [b3 k hk, b2 k hk, b1 k hk])⟩, fun q => absurd (by decide) q⟩
/-- the reference doubts a word -/
theorem sp_doubtsM {h j : Nat} {ms : Nat → Int32} {Q : Int32 → (Nat → Int32) → Prop} (hh : h < 6) (hj : j < 3) (hb : isBo (ms (9 * h + j)))
    (hQ : ∀ ms', (∀ c, c < 9 → ms' (9 * h + c) = (dst (ms 54) 1 j (fun c => ms (9 * h + c))).2 c) → (∀ i, (i < 9 * h ∨ 9 * h + 9 ≤ i) → ms' i = ms i) → Q (dst (ms 54) 1 j (fun c => ms (9 * h + c))).1 ms') : F_X6_doubts (nI h) (nI j) ms Q := by
  have e1 : (9 : Int32) * nI h + nI j = nI (9 * h + j) := by rw [show (9 : Int32) = nI 9 from rfl, pk_mul, nI_add]
  have e2 : (9 : Int32) * nI h + 3 + nI j = nI (9 * h + (3 + j)) := by
    rw [show (9 : Int32) = nI 9 from rfl, pk_mul, show (3 : Int32) = nI 3 from rfl, nI_add, nI_add]
    congr 1; omega
  have e54 : (54 : Int32).toNatClampNeg = 54 := rfl
  have i54 : vp_in (54 : Int32) 106 := vp_in_nI (n := 54) (by omega) (by decide)
  unfold F_X6_doubts B_X6_doubts_0
  rw [e1, e2, nI_clamp (show 9 * h + j < 2147483648 by omega), nI_clamp (show 9 * h + (3 + j) < 2147483648 by omega), e54]
  have i1 : vp_in (nI (9 * h + j)) 106 := vp_in_nI (by omega) (by decide)
  have i2 : vp_in (nI (9 * h + (3 + j))) 106 := vp_in_nI (by omega) (by decide)
  unfold dst at hQ
  refine ⟨i1, fun q => ?_, fun q => ⟨i2, i2, i2, i54, fun q2 => ⟨i1, i2, ?_⟩, fun q2 => ?_⟩⟩
  · rw [if_neg (fun n => by
      have n1 : ms (9 * h + j) = 0 := n.1
      rw [q] at n1
      exact absurd n1 (by decide))] at hQ
    exact hQ ms (fun c _ => rfl) (fun i _ => rfl)
  · have q0 : ms (9 * h + j) = 0 := hb.resolve_right q
    rw [pk_us, pk_un (by omega)] at q2
    rw [if_pos ⟨q0, by decide⟩, if_neg (fun n => (Int32.not_le.mpr n) q2)] at hQ
    refine hQ _ (fun c hc => ?_) (fun i hi => ?_)
    · show upd (upd (upd ms (9 * h + (3 + j)) (ms (9 * h + (3 + j)) + 1)) (9 * h + j) 1) (9 * h + (3 + j)) 0 (9 * h + c) = upd (upd (upd (fun c => ms (9 * h + c)) (3 + j) (ms (9 * h + (3 + j)) + 1)) j 1) (3 + j) 0 c
      by_cases x1 : c = 3 + j
      · subst x1; rw [pk_us, pk_us]
      · rw [pk_un (by omega), pk_un x1]
        by_cases x2 : c = j
        · subst x2; rw [pk_us, pk_us]
        · rw [pk_un (by omega), pk_un x2, pk_un (by omega), pk_un x1]
    · rw [pk_un (by omega), pk_un (by omega), pk_un (by omega)]
  · have q0 : ms (9 * h + j) = 0 := hb.resolve_right q
    rw [pk_us, pk_un (by omega)] at q2
    rw [if_pos ⟨q0, by decide⟩, if_pos (Int32.not_le.mp q2)] at hQ
    refine hQ _ (fun c hc => ?_) (fun i hi => ?_)
    · show upd ms (9 * h + (3 + j)) (ms (9 * h + (3 + j)) + 1) (9 * h + c) = upd (fun c => ms (9 * h + c)) (3 + j) (ms (9 * h + (3 + j)) + 1) c
      by_cases x1 : c = 3 + j
      · subst x1; rw [pk_us, pk_us]
      · rw [pk_un (by omega), pk_un x1]
    · rw [pk_un (by omega)]
