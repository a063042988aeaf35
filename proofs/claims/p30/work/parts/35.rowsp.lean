section SRX
variable {T T' : Nat} {nw kp pt nw' kp' : Nat → Int32} {hr lr hr' lr' : Nat → Nat → Int32} {ms ms' mb : Nat → Int32}
end SRX
/-- a word is doubted: the row behind it, and whether it becomes known -/
def dst (p b : Int32) (j : Nat) (row : Nat → Int32) : Int32 × (Nat → Int32) :=
  if row j = 0 ∧ b ≠ 0 then
    (if row (3 + j) + 1 < p then (0, upd row (3 + j) (row (3 + j) + 1)) else (1, upd (upd (upd row (3 + j) (row (3 + j) + 1)) j 1) (3 + j) 0))
  else (0, row)
def chW (j : Nat) : Nat := if j = 0 then 72 else if j = 1 then 45 else 71
theorem sp_wordCharacter {j : Nat} {Q : Int32 → Prop} (hj : j < 3) (h : Q (nI (chW j))) : F_X5_wordCharacter (nI j) Q := by
  unfold chW at h
  refine ⟨fun q => ?_, fun q => ⟨fun q2 => ?_, fun q2 => ?_⟩⟩
  · have e : j = 0 := (nI_eq (b := 0) (by omega) (by omega)).mp q
    rw [if_pos e] at h; exact h
  · have e : j = 1 := (nI_eq (b := 1) (by omega) (by omega)).mp q2
    rw [if_neg (by omega), if_pos e] at h; exact h
  · have e0 : j ≠ 0 := fun e => q (by rw [e]; rfl)
    have e1 : j ≠ 1 := fun e => q2 (by rw [e]; rfl)
    rw [if_neg e0, if_neg e1] at h; exact h
theorem dst_bo (p b : Int32) (j : Nat) (row : Nat → Int32) : isBo (dst p b j row).1 := by
  unfold dst
  by_cases q : row j = 0 ∧ b ≠ 0
  · rw [if_pos q]
    by_cases q2 : row (3 + j) + 1 < p
    · rw [if_pos q2]; exact isBo0
    · rw [if_neg q2]; exact isBo1
  · rw [if_neg q]; exact isBo0
def orI (a b : Int32) : Int32 := if b = 0 then a else 1
theorem orI_bo {a b : Int32} (h : isBo a) : isBo (orI a b) := by
  unfold orI
  by_cases q : b = 0
  · rw [if_pos q]; exact h
  · rw [if_neg q]; exact isBo1
theorem sp_dwstep {n j h : Nat} {w : List Nat} {l : Int32} {pt : Nat → Int32} {hr : Nat → Nat → Int32} {Q : Int32 → (Nat → Nat → Int32) → Prop} (hw : wok w) (hj : j < 3)
    (hQ : ∀ hr', hr' h = (dst (pt 0) (hasC w (chW j)) j (hr h)).2 → (∀ k, k ≠ h → hr' k = hr k) → L_X5_doubtWords_6 Q pt n h (pkL w) (orI l (dst (pt 0) (hasC w (chW j)) j (hr h)).1) (nI (j + 1)) hr') :
    L_X5_doubtWords_6 Q pt (n + 1) h (pkL w) l (nI j) hr := by
  have ej : ((0 : Int32) + nI j).toNatClampNeg = j := by rw [Int32.zero_add, nI_clamp (by omega)]
  have ej3 : ((3 : Int32) + nI j).toNatClampNeg = 3 + j := by rw [show (3 : Int32) = nI 3 from rfl, nI_add, nI_clamp (by omega)]
  have ij : vp_in ((0 : Int32) + nI j) 9 := by rw [Int32.zero_add]; exact vp_in_nI (by omega) (by decide)
  have ij3 : vp_in ((3 : Int32) + nI j) 9 := by rw [show (3 : Int32) = nI 3 from rfl, nI_add]; exact vp_in_nI (by omega) (by decide)
  have hch : 0 < chW j ∧ chW j < 128 := by
    unfold chW
    by_cases q : j = 0
    · rw [if_pos q]; omega
    · rw [if_neg q]
      by_cases q1 : j = 1
      · rw [if_pos q1]; omega
      · rw [if_neg q1]; omega
  refine ⟨fun q => absurd q (nI_ge (b := 3) hj (by omega)), fun _ => ⟨ij, ?_⟩⟩
  rw [ej, ej3]
  unfold dst at hQ
  refine ⟨fun q => sp_wordCharacter hj (sp_hasX hw.1 hw.2 hch.1 hch.2 ⟨fun q2 => ?_, fun q2 => ⟨ij3, ij3, ij3, fun q3 => ?_, fun q3 => ⟨ij, ij3, ?_⟩⟩⟩), fun q => ?_⟩
  · rw [if_neg (fun n => n.2 q2)] at hQ
    unfold B_X5_doubtWords_76
    rw [nI_1]
    have h9 := hQ hr rfl (fun k _ => rfl)
    unfold orI at h9
    rw [if_pos rfl] at h9
    exact h9
  · rw [up_s, pk_us] at q3
    rw [if_pos ⟨q, q2⟩, if_pos q3] at hQ
    unfold B_X5_doubtWords_76
    rw [nI_1]
    have h9 := hQ _ (up_s (v := upd (hr h) (3 + j) (hr h (3 + j) + 1))) (fun k hk => up_n hk)
    unfold orI at h9
    rw [if_pos rfl] at h9
    exact h9
  · rw [up_s, pk_us] at q3
    rw [if_pos ⟨q, q2⟩, if_neg q3] at hQ
    unfold B_X5_doubtWords_76
    rw [nI_1]
    have h9 := hQ (va_up (va_up (va_up hr h (upd (hr h) (3 + j) ((hr h) (3 + j) + 1))) h (upd ((va_up hr h (upd (hr h) (3 + j) ((hr h) (3 + j) + 1))) h) j 1)) h (upd ((va_up (va_up hr h (upd (hr h) (3 + j) ((hr h) (3 + j) + 1))) h (upd ((va_up hr h (upd (hr h) (3 + j) ((hr h) (3 + j) + 1))) h) j 1)) h) (3 + j) 0)) (by rw [up_s, up_s, up_s]) (fun k hk => by rw [up_n hk, up_n hk, up_n hk])
    unfold orI at h9
    rw [if_neg (show ¬ (1 : Int32) = 0 by decide)] at h9
    exact h9
  · rw [if_neg (fun n => q n.1)] at hQ
    unfold B_X5_doubtWords_76
    rw [nI_1]
    have h9 := hQ hr rfl (fun k _ => rfl)
    unfold orI at h9
    rw [if_pos rfl] at h9
    exact h9
/-- the three words, one behind the other -/
def dr0 (p : Int32) (w : List Nat) (row : Nat → Int32) := dst p (hasC w 72) 0 row
def dr1 (p : Int32) (w : List Nat) (row : Nat → Int32) := dst p (hasC w 45) 1 (dr0 p w row).2
def dr2 (p : Int32) (w : List Nat) (row : Nat → Int32) := dst p (hasC w 71) 2 (dr1 p w row).2
def drL (p : Int32) (w : List Nat) (row : Nat → Int32) : Int32 := orI (orI (orI 0 (dr0 p w row).1) (dr1 p w row).1) (dr2 p w row).1
theorem drL_bo (p : Int32) (w : List Nat) (row : Nat → Int32) : isBo (drL p w row) := orI_bo (orI_bo (orI_bo isBo0))
theorem sp_doubtWords {h : Nat} {w : List Nat} {pt : Nat → Int32} {hr : Nat → Nat → Int32} {Q : Int32 → (Nat → Nat → Int32) → Prop} (hw : wok w)
    (hQ : ∀ hr', hr' h = (dr2 (pt 0) w (hr h)).2 → (∀ k, k ≠ h → hr' k = hr k) → Q (drL (pt 0) w (hr h)) hr') : F_X5_doubtWords h (pkL w) pt hr Q := by
  refine ⟨3 + 1, sp_dwstep (n := 3) (j := 0) hw (by omega) (fun hr1 a1 b1 => sp_dwstep (n := 2) (j := 1) hw (by omega) (fun hr2 a2 b2 => sp_dwstep (n := 1) (j := 2) hw (by omega) (fun hr3 a3 b3 => ?_)))⟩
  rw [a2, a1] at a3
  rw [a2, a1]
  refine ⟨fun _ => ⟨drL_bo (pt 0) w (hr h), hQ hr3 a3 (fun k hk => by rw [b3 k hk, b2 k hk, b1 k hk])⟩, fun q => absurd (by decide) q⟩
