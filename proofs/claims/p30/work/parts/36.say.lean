/-! PURE 14: telling, on both sides -/
theorem hrd_congr {r r' : Nat → Int32} {w : List Nat} (h : ∀ c, c < 9 → r c = r' c) : hrd r w = hrd r' w := by
  unfold hrd kn
  rw [h 0 (by omega), h 1 (by omega), h 2 (by omega), h 6 (by omega)]
/-- what a doubted word leaves as it was -/
theorem dst_keep {p b : Int32} {j c : Nat} {r : Nat → Int32} (h1 : c ≠ j) (h2 : c ≠ 3 + j) : (dst p b j r).2 c = r c := by
  unfold dst
  by_cases q : r j = 0 ∧ b ≠ 0
  · rw [if_pos q]
    by_cases q2 : r (3 + j) + 1 < p
    · rw [if_pos q2]; exact pk_un h2
    · rw [if_neg q2]
      show upd (upd (upd r (3 + j) (r (3 + j) + 1)) j 1) (3 + j) 0 c = _
      rw [pk_un h2, pk_un h1, pk_un h2]
  · rw [if_neg q]
theorem dst_row {p b : Int32} {j : Nat} {r : Nat → Int32} (hj : j < 3) (hb : isBo (r j)) : isBo ((dst p b j r).2 j) := by
  unfold dst
  by_cases q : r j = 0 ∧ b ≠ 0
  · rw [if_pos q]
    by_cases q2 : r (3 + j) + 1 < p
    · rw [if_pos q2]
      show isBo (upd r (3 + j) (r (3 + j) + 1) j)
      rw [pk_un (by omega)]; exact hb
    · rw [if_neg q2]
      show isBo (upd (upd (upd r (3 + j) (r (3 + j) + 1)) j 1) (3 + j) 0 j)
      rw [pk_un (by omega), pk_us]; exact isBo1
  · rw [if_neg q]; exact hb
theorem dst_bo3 {p b : Int32} {j c : Nat} {r : Nat → Int32} (hj : j < 3) (hc : c < 3) (hb : isBo (r c)) : isBo ((dst p b j r).2 c) := by
  by_cases e : c = j
  · subst e; exact dst_row hj hb
  · rw [dst_keep e (by omega)]; exact hb
/-- the row of one who is told: told, errors, doubts -/
def row7 (r : Nat → Int32) : Nat → Int32 := upd r 7 (r 7 + 1)
def row8 (r : Nat → Int32) : Nat → Int32 := upd (row7 r) 8 (row7 r 8 + 1)
def rowT (p num : Int32) (w : List Nat) (r : Nat → Int32) : Nat → Int32 := if hrd r w = num then row7 r else (dr2 p w (row8 r)).2
def lrn (p num : Int32) (w : List Nat) (r : Nat → Int32) : Int32 := if hrd r w = num then 0 else drL p w (row8 r)
theorem lrn_bo (p num : Int32) (w : List Nat) (r : Nat → Int32) : isBo (lrn p num w r) := by
  unfold lrn
  by_cases q : hrd r w = num
  · rw [if_pos q]; exact isBo0
  · rw [if_neg q]; exact drL_bo _ _ _
def line (h : Nat) (num : Int32) (len : Nat) (u l : Int32) : Nat → Int32 := fun c => if c = 0 then nI h else if c = 1 then num else if c = 2 then nI len else if c = 3 then u else l
section SAYX
variable {nw kp pt : Nat → Int32} {hr lr : Nat → Nat → Int32}
theorem sp_nextLine {N K : Nat} {Q : Nat → (Nat → Int32) → (Nat → Int32) → Prop} (hN : nw 0 = nI N) (hK : kp 0 = nI K) (n1 : N < 10) (k1 : K ≤ 10)
    (hQ : Q ((N + 1) % 10) (va_up nw 0 (nI ((N + 1) % 10))) (va_up kp 0 (nI (min (K + 1) 10)))) : F_X3_nextLine 0 nw kp Q := by
  have h27 : ∀ m : Nat, m = (N + 1) % 10 → B_X3_nextLine_27 Q 0 0 (nI m) nw kp := fun m hm => by
    unfold B_X3_nextLine_27
    rw [up_s, hK, nI_1]
    have ec : (nI m).toNatClampNeg = m := nI_clamp (by omega)
    rw [ec]
    have em : (if (10 : Int32) < nI (K + 1) then 10 else nI (K + 1)) = nI (min (K + 1) 10) := by
      show (if nI 10 < nI (K + 1) then nI 10 else nI (K + 1)) = _
      rw [min_if (by omega) (by omega)]
      congr 1; omega
    rw [em, Nat.mul_zero, Nat.zero_add, hm]
    rw [hm] at ec
    exact ⟨vp_in_nI (by omega) (by decide), by omega, hQ⟩
  unfold F_X3_nextLine B_X3_nextLine_0 B_X3_nextLine_26
  rw [hN]
  refine ⟨fun q => absurd q (nI_pos (by omega)), fun _ => ⟨fun q => ?_, fun q => ?_⟩⟩
  · have e : N = 9 := by
      have := (nI_leI (a := 9) (by omega) (by omega)).mp q
      omega
    exact h27 0 (by omega)
  · have e : ¬ 9 ≤ N := fun e => q (nI_le (a := 9) e (by omega))
    rw [nI_1]
    exact h27 (N + 1) (by omega)
theorem sp_say {F H N K h a : Nat} {num : Int32} {w : List Nat} {e0 e1 e2 e3 e4 e5 e6 e7 e8 e9 e10 : Int32} {Q : Int32 → Int32 → Int32 → Int32 → Int32 → Int32 → Int32 → Int32 → Int32 → Int32 → Int32 → Int32 → Int32 → Int32 → (Nat → Int32) → (Nat → Int32) → (Nat → Int32) → (Nat → Nat → Int32) → (Nat → Nat → Int32) → Prop}
    (hw : wok w) (hF : F < 4) (hH : H ≤ 4) (hh : h < 6) (hN : nw 0 = nI N) (hK : kp 0 = nI K) (n1 : N < 10) (k1 : K ≤ 10) (ha : hr h 6 = nI a) (ha2 : a ≤ 12)
    (hQ : ∀ a0 a1 a2 a3 a4 a5 a6 a7 a8 a9 a10 nw1 kp1 pt1 hr1 lr1 hr2 lr2, SnEq nw1 kp1 pt1 hr1 lr1 (1 + F) nw kp pt hr lr 0 → (∀ k, k ≠ 1 + F → SnEq nw1 kp1 pt1 hr1 lr1 k nw kp pt hr lr k) →
      hr2 h = rowT (pt1 0) num w (hr1 h) → (∀ k, k ≠ h → hr2 k = hr1 k) → (∀ c, c < 5 → lr2 ((N + 1) % 10) c = line h num w.length (hrd (hr1 h) w) (lrn (pt1 0) num w (hr1 h)) c) → (∀ r, r ≠ (N + 1) % 10 → lr2 r = lr1 r) →
      Q (if hrd (hr1 h) w = num then 1 else 0) a0 a1 a2 a3 a4 a5 a6 a7 a8 a9 a10 (nI ((F + 1) % 4)) (nI (min (H + 1) 4)) (va_up nw1 0 (nI ((N + 1) % 10))) (va_up kp1 0 (nI (min (K + 1) 10))) pt1 hr2 lr2) :
    F_X5_say (nI h) num (pkL w) e0 e1 e2 e3 e4 e5 e6 e7 e8 e9 e10 (nI F) (nI H) nw kp pt hr lr Q := by
  have z0 : (0 : Int32).toNatClampNeg = 0 := rfl
  have z1 : (1 : Int32).toNatClampNeg = 1 := rfl
  have z2 : (2 : Int32).toNatClampNeg = 2 := rfl
  have z3 : (3 : Int32).toNatClampNeg = 3 := rfl
  have z4 : (4 : Int32).toNatClampNeg = 4 := rfl
  have z7 : (7 : Int32).toNatClampNeg = 7 := rfl
  have z8 : (8 : Int32).toNatClampNeg = 8 := rfl
  have i5 : ∀ c : Nat, c < 5 → vp_in (nI c) 5 := fun c hc => vp_in_nI hc (by decide)
  have i9 : ∀ c : Nat, c < 9 → vp_in (nI c) 9 := fun c hc => vp_in_nI hc (by decide)
  unfold F_X5_say B_X5_say_0
  refine sp_recordX hF hH (fun nw1 kp1 pt1 hr1 lr1 s1 s2 => ?_)
  have s0 := s2 0 (by omega)
  have ha1 : hr1 h 6 = nI a := by
    have := s0.2.2.2.1 h hh 6 (by omega)
    rw [Nat.mul_zero, Nat.zero_add] at this
    rw [this]; exact ha
  have hc : 6 * 0 + (nI h).toNatClampNeg = h := by rw [nI_clamp (by omega)]; omega
  refine sp_heard hw.1 hw.2 hh ha1 (by omega) (fun a0 a1 a2 a3 a4 a5 a6 a7 a8 a9 a10 => ?_)
  have h78 : ∀ (v6 v8 : Int32) (hr2 : Nat → Nat → Int32), hr2 h = rowT (pt1 0) num w (hr1 h) → (∀ k, k ≠ h → hr2 k = hr1 k) → isBo v8 → v8 = lrn (pt1 0) num w (hr1 h) → ((hrd (hr1 h) w = num ∧ v6 = 0) ∨ (hrd (hr1 h) w ≠ num ∧ v6 = 1)) →
      B_X5_say_78 Q (nI h) num (pkL w) (hrd (hr1 h) w) v6 v8 a0 a1 a2 a3 a4 a5 a6 a7 a8 a9 a10 (nI ((F + 1) % 4)) (nI (min (H + 1) 4)) nw1 kp1 pt1 hr2 lr1 := fun v6 v8 hr2 b1 b2 bb b3 b4 => by
    have h124 : ∀ lr2 : Nat → Nat → Int32, (∀ c, c < 4 → lr2 ((N + 1) % 10) c = line h num w.length (hrd (hr1 h) w) v8 c) → (∀ r, r ≠ (N + 1) % 10 → lr2 r = lr1 r) →
        B_X5_say_124 Q v6 ((N + 1) % 10) 4 v8 a0 a1 a2 a3 a4 a5 a6 a7 a8 a9 a10 (nI ((F + 1) % 4)) (nI (min (H + 1) 4)) (va_up nw1 0 (nI ((N + 1) % 10))) (va_up kp1 0 (nI (min (K + 1) 10))) pt1 hr2 lr2 := fun lr2 c1 c2 => by
      have hfin := hQ a0 a1 a2 a3 a4 a5 a6 a7 a8 a9 a10 nw1 kp1 pt1 hr1 lr1 hr2 (va_up lr2 ((N + 1) % 10) (upd (lr2 ((N + 1) % 10)) 4 v8)) s1 s2 b1 b2 (fun c hc => by
        rw [up_s, ← b3]
        by_cases e : c = 4
        · subst e; rw [pk_us]; rfl
        · rw [pk_un e]; exact c1 c (by omega)) (fun r hr9 => by rw [up_n hr9]; exact c2 r hr9)
      unfold B_X5_say_124 B_X5_say_135
      rw [z4]
      refine ⟨i5 4 (by omega), fun q => ?_, fun q => ?_⟩
      · rcases b4 with ⟨x, y⟩ | ⟨x, y⟩
        · rw [if_pos x] at hfin; exact hfin
        · rw [y] at q; exact absurd q (by decide)
      · rcases b4 with ⟨x, y⟩ | ⟨x, y⟩
        · exact absurd y q
        · rw [if_neg x] at hfin; exact hfin
    unfold B_X5_say_78
    refine sp_nextLine (s0.1.trans hN) (s0.2.1.trans hK) n1 k1 ⟨i5 0 (by omega), i5 1 (by omega), ?_⟩
    refine sp_length hw.1 hw.2 ⟨i5 2 (by omega), i5 3 (by omega), ?_⟩
    rw [z0, z1, z2, z3]
    have hl : ∀ (lr2 : Nat → Nat → Int32), lr2 = (va_up (va_up (va_up (va_up lr1 ((N + 1) % 10) (upd (lr1 ((N + 1) % 10)) 0 (nI h))) ((N + 1) % 10) (upd ((va_up lr1 ((N + 1) % 10) (upd (lr1 ((N + 1) % 10)) 0 (nI h))) ((N + 1) % 10)) 1 num)) ((N + 1) % 10) (upd ((va_up (va_up lr1 ((N + 1) % 10) (upd (lr1 ((N + 1) % 10)) 0 (nI h))) ((N + 1) % 10) (upd ((va_up lr1 ((N + 1) % 10) (upd (lr1 ((N + 1) % 10)) 0 (nI h))) ((N + 1) % 10)) 1 num)) ((N + 1) % 10)) 2 (nI w.length))) ((N + 1) % 10) (upd ((va_up (va_up (va_up lr1 ((N + 1) % 10) (upd (lr1 ((N + 1) % 10)) 0 (nI h))) ((N + 1) % 10) (upd ((va_up lr1 ((N + 1) % 10) (upd (lr1 ((N + 1) % 10)) 0 (nI h))) ((N + 1) % 10)) 1 num)) ((N + 1) % 10) (upd ((va_up (va_up lr1 ((N + 1) % 10) (upd (lr1 ((N + 1) % 10)) 0 (nI h))) ((N + 1) % 10) (upd ((va_up lr1 ((N + 1) % 10) (upd (lr1 ((N + 1) % 10)) 0 (nI h))) ((N + 1) % 10)) 1 num)) ((N + 1) % 10)) 2 (nI w.length))) ((N + 1) % 10)) 3 (hrd (hr1 h) w))) →
        (∀ c, c < 4 → lr2 ((N + 1) % 10) c = line h num w.length (hrd (hr1 h) w) v8 c) ∧ (∀ r, r ≠ (N + 1) % 10 → lr2 r = lr1 r) := fun lr2 e => by
      subst e
      refine ⟨fun c hc => ?_, fun r hr9 => by rw [up_n hr9, up_n hr9, up_n hr9, up_n hr9]⟩
      rw [up_s, up_s, up_s, up_s]
      have hc4 : c = 0 ∨ c = 1 ∨ c = 2 ∨ c = 3 := by omega
      rcases hc4 with e | e | e | e
      · subst e; rw [pk_un (by decide), pk_un (by decide), pk_un (by decide), pk_us]; rfl
      · subst e; rw [pk_un (by decide), pk_un (by decide), pk_us]; rfl
      · subst e; rw [pk_un (by decide), pk_us]; rfl
      · subst e; rw [pk_us]; rfl
    obtain ⟨l1, l2⟩ := hl _ rfl
    refine ⟨fun q => ?_, fun q => ?_⟩
    · subst q; exact h124 _ l1 l2
    · have e : v8 = 1 := bb.resolve_left q
      subst e; exact h124 _ l1 l2
  refine ⟨fun q => ?_, fun q => ?_⟩
  · unfold B_X5_say_30
    rw [hc, z7]
    refine ⟨vp_in_nI hh (by decide), i9 7 (by omega), i9 7 (by omega), fun _ => ?_, fun n => absurd rfl n⟩
    refine h78 0 0 _ ?_ (fun k hk => up_n hk) isBo0 ?_ (Or.inl ⟨q, rfl⟩)
    · rw [up_s]
      unfold rowT
      rw [if_pos q]; rfl
    · unfold lrn
      rw [if_pos q]
  · unfold B_X5_say_30
    rw [hc, z7, z8]
    refine ⟨vp_in_nI hh (by decide), i9 7 (by omega), i9 7 (by omega), fun n => absurd n (by decide), fun _ => ⟨i9 8 (by omega), i9 8 (by omega), ?_⟩⟩
    refine sp_doubtWords hw (fun hr3 c1 c2 => ?_)
    rw [up_s, up_s] at c1
    rw [up_s, up_s]
    refine h78 1 _ hr3 ?_ (fun k hk => by rw [c2 k hk, up_n hk, up_n hk]) (drL_bo _ _ _) ?_ (Or.inr ⟨q, rfl⟩)
    · rw [c1]
      unfold rowT
      rw [if_neg q]; rfl
    · unfold lrn
      rw [if_neg q]; rfl
end SAYX
