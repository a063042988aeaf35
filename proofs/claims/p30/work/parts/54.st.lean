/-! PURE C: what holds of the class's state after M tellings -/
def RW3 (M : Nat) (r : Nat → Int32) : Prop := (∀ j, j < 3 → ∃ x d : Nat, x ≤ 1 ∧ d ≤ 9 ∧ r j = nI x ∧ r (3 + j) = nI d ∧ (x = 1 → d = 0)) ∧ (∃ a : Nat, 1 ≤ a ∧ a ≤ 12 ∧ r 6 = nI a) ∧ ∃ e t : Nat, e ≤ t ∧ t ≤ M ∧ r 7 = nI t ∧ r 8 = nI e
def SC (M N P : Nat) (nw kp pt : Nat → Int32) (hr lr : Nat → Nat → Int32) : Prop :=
  N < 10 ∧ nw 0 = nI N ∧ kp 0 = nI (min M 10) ∧ 1 ≤ P ∧ P ≤ 9 ∧ pt 0 = nI P ∧ (∀ h, h < 6 → RW3 M (hr h)) ∧ sumH (fun h => hr h 7) 6 = nI M ∧ (0 < M → ∃ x : Nat, x < 6 ∧ lr N 0 = nI x)
def ST3 (M : Nat) (fr hd : Int32) (nw kp pt : Nat → Int32) (hr lr : Nat → Nat → Int32) : Prop := ∃ F H N P : Nat, F < 4 ∧ H ≤ 4 ∧ fr = nI F ∧ hd = nI H ∧ SC M N P nw kp pt hr lr
def TT (tl : Int32) : Prop := ∃ n : Nat, n ≤ 20 ∧ tl = nI n
theorem RW_congr {M : Nat} {r r' : Nat → Int32} (h : RW3 M r) (e : ∀ c, c < 9 → r' c = r c) : RW3 M r' := by
  obtain ⟨h1, ⟨a, a1, a2, a3⟩, ee, t, t1, t2, t3, t4⟩ := h
  refine ⟨fun j hj => ?_, ⟨a, a1, a2, (e 6 (by omega)).trans a3⟩, ee, t, t1, t2, (e 7 (by omega)).trans t3, (e 8 (by omega)).trans t4⟩
  obtain ⟨x, d, x1, d1, x2, d2, hx⟩ := h1 j hj
  exact ⟨x, d, x1, d1, (e j (by omega)).trans x2, (e (3 + j) (by omega)).trans d2, hx⟩
theorem RW_mono {M M' : Nat} {r : Nat → Int32} (h : RW3 M r) (hM : M ≤ M') : RW3 M' r := by
  obtain ⟨h1, h2, ee, t, t1, t2, t3, t4⟩ := h
  exact ⟨h1, h2, ee, t, t1, by omega, t3, t4⟩
theorem RW_bit {M j : Nat} {r : Nat → Int32} (h : RW3 M r) (hj : j < 3) : ∃ x : Nat, x ≤ 1 ∧ r j = nI x := by
  obtain ⟨x, d, x1, d1, x2, d2, hx⟩ := h.1 j hj
  exact ⟨x, x1, x2⟩
theorem RW_known {M : Nat} {r : Nat → Int32} (h : RW3 M r) : ∃ x : Nat, x ≤ 3 ∧ r 0 + r 1 + r 2 = nI x := by
  obtain ⟨x, x1, x2⟩ := RW_bit h (j := 0) (by omega)
  obtain ⟨y, y1, y2⟩ := RW_bit h (j := 1) (by omega)
  obtain ⟨z, z1, z2⟩ := RW_bit h (j := 2) (by omega)
  exact ⟨x + y + z, by omega, by rw [x2, y2, z2, nI_add, nI_add]⟩
section SCS
variable {M N P F H : Nat} {nw kp pt nw1 kp1 pt1 : Nat → Int32} {hr lr hr1 lr1 : Nat → Nat → Int32}
theorem Sn_row (h : SnEq nw1 kp1 pt1 hr1 lr1 0 nw kp pt hr lr 0) {i c : Nat} (hi : i < 6) (hc : c < 9) : hr1 i c = hr i c := by
  have := h.2.2.2.1 i hi c hc
  rw [Nat.mul_zero, Nat.zero_add] at this
  exact this
theorem Sn_line (h : SnEq nw1 kp1 pt1 hr1 lr1 0 nw kp pt hr lr 0) {i c : Nat} (hi : i < 10) (hc : c < 5) : lr1 i c = lr i c := by
  have := h.2.2.2.2 i hi c hc
  rw [Nat.mul_zero, Nat.zero_add] at this
  exact this
theorem SC_eq (h : SC M N P nw kp pt hr lr) (e : SnEq nw1 kp1 pt1 hr1 lr1 0 nw kp pt hr lr 0) : SC M N P nw1 kp1 pt1 hr1 lr1 := by
  obtain ⟨h1, h2, h3, h4, h5, h6, h7, h8, h9⟩ := h
  refine ⟨h1, e.1.trans h2, e.2.1.trans h3, h4, h5, e.2.2.1.trans h6, fun i hi => RW_congr (h7 i hi) (fun c hc => Sn_row e hi hc), ?_, fun q => ?_⟩
  · rw [← h8]
    exact sumH_congr 6 (fun i hi => Sn_row e hi (by omega))
  · obtain ⟨x, x1, x2⟩ := h9 q
    exact ⟨x, x1, (Sn_line e h1 (by omega)).trans x2⟩
theorem SC_row {h : Nat} {hr2 : Nat → Nat → Int32} (hs : SC M N P nw kp pt hr lr) (hh : h < 6) (h1 : RW3 M (hr2 h)) (h2 : hr2 h 7 = hr h 7) (h3 : ∀ i, i ≠ h → hr2 i = hr i) : SC M N P nw kp pt hr2 lr := by
  obtain ⟨a1, a2, a3, a4, a5, a6, a7, a8, a9⟩ := hs
  refine ⟨a1, a2, a3, a4, a5, a6, fun i hi => ?_, ?_, a9⟩
  · by_cases e : i = h
    · rw [e]; exact h1
    · rw [h3 i e]; exact a7 i hi
  · rw [← a8]
    refine sumH_congr 6 (fun i hi => ?_)
    by_cases e : i = h
    · rw [e]; exact h2
    · rw [h3 i e]
theorem SC_att (hs : SC M N P nw kp pt hr lr) {h : Nat} (hh : h < 6) : ∃ a : Nat, 1 ≤ a ∧ a ≤ 12 ∧ hr h 6 = nI a := (hs.2.2.2.2.2.2.1 h hh).2.1
theorem SC_atts (hs : SC M N P nw kp pt hr lr) : ∀ h, h < 6 → ∃ a, a ≤ 12 ∧ hr h 6 = nI a := fun h hh => by
  obtain ⟨a, a1, a2, a3⟩ := SC_att hs hh
  exact ⟨a, a2, a3⟩
end SCS
/-! words learnt and unlearnt, attention -/
theorem RW_put {M j x : Nat} {r : Nat → Int32} (h : RW3 M r) (hj : j < 3) (hx : x ≤ 1) : RW3 M (upd (upd r j (nI x)) (3 + j) 0) := by
  obtain ⟨h1, ⟨a, a1, a2, a3⟩, ee, t, t1, t2, t3, t4⟩ := h
  refine ⟨fun i hi => ?_, ⟨a, a1, a2, ?_⟩, ee, t, t1, t2, ?_, ?_⟩
  · by_cases e : i = j
    · subst e
      refine ⟨x, 0, hx, by omega, ?_, pk_us, fun _ => rfl⟩
      rw [pk_un (by omega), pk_us]
    · obtain ⟨y, d, y1, d1, y2, d2, hy⟩ := h1 i hi
      refine ⟨y, d, y1, d1, ?_, ?_, hy⟩
      · rw [pk_un (by omega), pk_un e]; exact y2
      · rw [pk_un (by omega), pk_un (by omega)]; exact d2
  · rw [pk_un (by omega), pk_un (by omega)]; exact a3
  · rw [pk_un (by omega), pk_un (by omega)]; exact t3
  · rw [pk_un (by omega), pk_un (by omega)]; exact t4
theorem RW_att {M a : Nat} {r : Nat → Int32} (h : RW3 M r) (a1 : 1 ≤ a) (a2 : a ≤ 12) : RW3 M (upd r 6 (nI a)) := by
  obtain ⟨h1, -, ee, t, t1, t2, t3, t4⟩ := h
  refine ⟨fun i hi => ?_, ⟨a, a1, a2, pk_us⟩, ee, t, t1, t2, ?_, ?_⟩
  · obtain ⟨y, d, y1, d1, y2, d2, hy⟩ := h1 i hi
    exact ⟨y, d, y1, d1, by rw [pk_un (by omega)]; exact y2, by rw [pk_un (by omega)]; exact d2, hy⟩
  · rw [pk_un (by omega)]; exact t3
  · rw [pk_un (by omega)]; exact t4
/-! a telling -/
theorem RW_7 {M : Nat} {r : Nat → Int32} (h : RW3 M r) : RW3 (M + 1) (row7 r) := by
  obtain ⟨h1, ⟨a, a1, a2, a3⟩, ee, t, t1, t2, t3, t4⟩ := h
  unfold row7
  refine ⟨fun i hi => ?_, ⟨a, a1, a2, ?_⟩, ee, t + 1, by omega, by omega, ?_, ?_⟩
  · obtain ⟨y, d, y1, d1, y2, d2, hy⟩ := h1 i hi
    exact ⟨y, d, y1, d1, by rw [pk_un (by omega)]; exact y2, by rw [pk_un (by omega)]; exact d2, hy⟩
  · rw [pk_un (by omega)]; exact a3
  · rw [pk_us, t3, nI_1]
  · rw [pk_un (by omega)]; exact t4
theorem RW_8 {M : Nat} {r : Nat → Int32} (h : RW3 M r) : RW3 (M + 1) (row8 r) := by
  obtain ⟨h1, ⟨a, a1, a2, a3⟩, ee, t, t1, t2, t3, t4⟩ := h
  unfold row8 row7
  refine ⟨fun i hi => ?_, ⟨a, a1, a2, ?_⟩, ee + 1, t + 1, by omega, by omega, ?_, ?_⟩
  · obtain ⟨y, d, y1, d1, y2, d2, hy⟩ := h1 i hi
    exact ⟨y, d, y1, d1, by rw [pk_un (by omega), pk_un (by omega)]; exact y2, by rw [pk_un (by omega), pk_un (by omega)]; exact d2, hy⟩
  · rw [pk_un (by omega), pk_un (by omega)]; exact a3
  · rw [pk_un (by omega), pk_us, t3, nI_1]
  · rw [pk_us, pk_un (by omega), t4, nI_1]
/-- a doubt: the row stays right; the word's bit grows by the flag -/
theorem RW_dst {M j P : Nat} {b : Int32} {r : Nat → Int32} (h : RW3 M r) (hj : j < 3) (p1 : 1 ≤ P) (p9 : P ≤ 9) : RW3 M (dst (nI P) b j r).2 ∧ ∃ x f : Nat, x + f ≤ 1 ∧ r j = nI x ∧ (dst (nI P) b j r).1 = nI f ∧ (dst (nI P) b j r).2 j = nI (x + f) ∧ ∀ c, c ≠ j → c ≠ 3 + j → (dst (nI P) b j r).2 c = r c := by
  have hk : ∀ c, c ≠ j → c ≠ 3 + j → (dst (nI P) b j r).2 c = r c := fun c q1 q2 => dst_keep q1 q2
  obtain ⟨h1, ⟨a, a1, a2, a3⟩, ee, t, t1, t2, t3, t4⟩ := h
  obtain ⟨x, d, x1, d1, x2, d2, hx⟩ := h1 j hj
  have key : ∃ f d' : Nat, x + f ≤ 1 ∧ d' ≤ 9 ∧ (dst (nI P) b j r).1 = nI f ∧ (dst (nI P) b j r).2 j = nI (x + f) ∧ (dst (nI P) b j r).2 (3 + j) = nI d' ∧ (x + f = 1 → d' = 0) := by
    unfold dst
    by_cases q : r j = 0 ∧ b ≠ 0
    · rw [if_pos q]
      have hx0 : x = 0 := (nI_eq (b := 0) (by omega) (by omega)).mp (x2.symm.trans q.1)
      by_cases q2 : r (3 + j) + 1 < nI P
      · rw [if_pos q2]
        have hd : d + 1 < P := by
          rw [d2, nI_1] at q2
          exact (nI_ltI (by omega) (by omega)).mp q2
        refine ⟨0, d + 1, by omega, by omega, rfl, ?_, ?_, fun n => by omega⟩
        · show upd r (3 + j) (r (3 + j) + 1) j = _
          rw [pk_un (by omega)]; exact x2
        · show upd r (3 + j) (r (3 + j) + 1) (3 + j) = _
          rw [pk_us, d2, nI_1]
      · rw [if_neg q2]
        refine ⟨1, 0, by omega, by omega, rfl, ?_, ?_, fun _ => rfl⟩
        · show upd (upd (upd r (3 + j) (r (3 + j) + 1)) j 1) (3 + j) 0 j = _
          rw [pk_un (by omega), pk_us, hx0]; rfl
        · show upd (upd (upd r (3 + j) (r (3 + j) + 1)) j 1) (3 + j) 0 (3 + j) = _
          rw [pk_us]; rfl
    · rw [if_neg q]
      exact ⟨0, d, x1, d1, rfl, x2, d2, hx⟩
  obtain ⟨f, d', f1, d1', f2, f3, f4, f5⟩ := key
  refine ⟨⟨fun i hi => ?_, ⟨a, a1, a2, ?_⟩, ee, t, t1, t2, ?_, ?_⟩, x, f, f1, x2, f2, f3, hk⟩
  · by_cases e : i = j
    · subst e
      exact ⟨x + f, d', f1, d1', f3, f4, f5⟩
    · obtain ⟨y, z, y1, z1, y2, z2, hy⟩ := h1 i hi
      exact ⟨y, z, y1, z1, (hk i e (by omega)).trans y2, (hk (3 + i) (by omega) (by omega)).trans z2, hy⟩
  · rw [hk 6 (by omega) (by omega)]; exact a3
  · rw [hk 7 (by omega) (by omega)]; exact t3
  · rw [hk 8 (by omega) (by omega)]; exact t4
theorem orI_nat {a f : Nat} (hf : f ≤ 1) : orI (nI a) (nI f) = if f = 0 then nI a else 1 := by
  unfold orI
  rcases (show f = 0 ∨ f = 1 by omega) with e | e <;> subst e
  · rw [if_pos rfl]; exact if_pos (show nI 0 = (0 : Int32) from rfl)
  · rw [if_neg (by decide), if_neg (by decide)]
/-- the row behind a telling -/
theorem RW_tell {M P : Nat} {num : Int32} {w : List Nat} {r : Nat → Int32} (h : RW3 M r) (p1 : 1 ≤ P) (p9 : P ≤ 9) :
    RW3 (M + 1) (rowT (nI P) num w r) ∧ rowT (nI P) num w r 7 = r 7 + 1 ∧ rowT (nI P) num w r 8 = r 8 + (if hrd r w = num then 0 else 1) ∧
    ∃ x y : Nat, x ≤ y ∧ y ≤ 3 ∧ r 0 + r 1 + r 2 = nI x ∧ rowT (nI P) num w r 0 + rowT (nI P) num w r 1 + rowT (nI P) num w r 2 = nI y ∧ (hrd r w = num → x = y) ∧ lrn (nI P) num w r = (if x < y then 1 else 0) := by
  by_cases q : hrd r w = num
  · have e : rowT (nI P) num w r = row7 r := by unfold rowT; rw [if_pos q]
    have el : lrn (nI P) num w r = 0 := by unfold lrn; rw [if_pos q]
    rw [e, el]
    obtain ⟨x, x1, x2⟩ := RW_known h
    refine ⟨RW_7 h, by unfold row7; exact pk_us, ?_, x, x, Nat.le_refl _, x1, x2, ?_, fun _ => rfl, by rw [if_neg (Nat.lt_irrefl _)]⟩
    · unfold row7
      rw [pk_un (by omega), if_pos q, Int32.add_zero]
    · unfold row7
      rw [pk_un (by omega), pk_un (by omega), pk_un (by omega)]; exact x2
  · have e : rowT (nI P) num w r = (dr2 (nI P) w (row8 r)).2 := by unfold rowT; rw [if_neg q]
    have el : lrn (nI P) num w r = drL (nI P) w (row8 r) := by unfold lrn; rw [if_neg q]
    rw [e, el]
    obtain ⟨r0, x0, f0, b0, c0, d0, g0, k0⟩ := RW_dst (b := hasC w 72) (RW_8 h) (j := 0) (by omega) p1 p9
    obtain ⟨r1, x1, f1, b1, c1, d1, g1, k1⟩ := RW_dst (b := hasC w 45) r0 (j := 1) (by omega) p1 p9
    obtain ⟨r2, x2, f2, b2, c2, d2, g2, k2⟩ := RW_dst (b := hasC w 71) r1 (j := 2) (by omega) p1 p9
    have r8 : ∀ c, c < 7 → row8 r c = r c := fun c hc => by unfold row8 row7; rw [pk_un (by omega), pk_un (by omega)]
    have v0 : (dr2 (nI P) w (row8 r)).2 0 = nI (x0 + f0) := by
      show (dst _ _ 2 (dst _ _ 1 (dst _ _ 0 _).2).2).2 0 = _
      rw [k2 0 (by omega) (by omega), k1 0 (by omega) (by omega)]; exact g0
    have v1 : (dr2 (nI P) w (row8 r)).2 1 = nI (x1 + f1) := by
      show (dst _ _ 2 (dst _ _ 1 (dst _ _ 0 _).2).2).2 1 = _
      rw [k2 1 (by omega) (by omega)]; exact g1
    have v2 : (dr2 (nI P) w (row8 r)).2 2 = nI (x2 + f2) := g2
    have w0 : r 0 = nI x0 := by rw [← r8 0 (by omega)]; exact c0
    have w1 : r 1 = nI x1 := by
      rw [← r8 1 (by omega), ← c1]
      exact (k0 1 (by omega) (by omega)).symm
    have w2 : r 2 = nI x2 := by
      rw [← r8 2 (by omega), ← c2]
      rw [k1 2 (by omega) (by omega)]
      exact (k0 2 (by omega) (by omega)).symm
    refine ⟨r2, ?_, ?_, x0 + x1 + x2, (x0 + f0) + (x1 + f1) + (x2 + f2), by omega, by omega, ?_, ?_, fun n => absurd n q, ?_⟩
    · show (dst _ _ 2 (dst _ _ 1 (dst _ _ 0 _).2).2).2 7 = _
      rw [k2 7 (by omega) (by omega), k1 7 (by omega) (by omega), k0 7 (by omega) (by omega)]
      unfold row8 row7
      rw [pk_un (by omega), pk_us]
    · show (dst _ _ 2 (dst _ _ 1 (dst _ _ 0 _).2).2).2 8 = _
      rw [k2 8 (by omega) (by omega), k1 8 (by omega) (by omega), k0 8 (by omega) (by omega), if_neg q]
      unfold row8 row7
      rw [pk_us, pk_un (by omega)]
    · rw [w0, w1, w2, nI_add, nI_add]
    · rw [v0, v1, v2, nI_add, nI_add]
    · show orI (orI (orI 0 (dst _ _ 0 _).1) (dst _ _ 1 (dst _ _ 0 _).2).1) (dst _ _ 2 (dst _ _ 1 (dst _ _ 0 _).2).2).1 = _
      rw [d0, d1, d2]
      rcases (show f0 = 0 ∨ f0 = 1 by omega) with z | z <;> subst z <;> rcases (show f1 = 0 ∨ f1 = 1 by omega) with z | z <;> subst z <;> rcases (show f2 = 0 ∨ f2 = 1 by omega) with z | z <;> subst z
      · rw [if_neg (by omega)]; rfl
      all_goals (rw [if_pos (by omega)]; rfl)
/-- told: what the state behind it holds -/
def TOLD (h : Nat) (num : Int32) (w : List Nat) (N2 F : Nat) (nw kp pt : Nat → Int32) (hr lr : Nat → Nat → Int32) (nw2 kp2 pt2 : Nat → Int32) (hr2 lr2 : Nat → Nat → Int32) : Prop :=
  hr2 h 7 = hr h 7 + 1 ∧ hr2 h 8 = hr h 8 + (if hrd (hr h) w = num then 0 else 1) ∧
  (∃ x y : Nat, x ≤ y ∧ y ≤ 3 ∧ hr h 0 + hr h 1 + hr h 2 = nI x ∧ hr2 h 0 + hr2 h 1 + hr2 h 2 = nI y ∧ (hrd (hr h) w = num → x = y) ∧ lr2 N2 4 = (if x < y then 1 else 0)) ∧
  lr2 N2 0 = nI h ∧ lr2 N2 1 = num ∧ lr2 N2 2 = nI w.length ∧ lr2 N2 3 = hrd (hr h) w ∧ SnEq nw2 kp2 pt2 hr2 lr2 (1 + F) nw kp pt hr lr 0
theorem sumH_up {g g' : Nat → Int32} {h : Nat} (h1 : g' h = g h + 1) (h2 : ∀ i, i ≠ h → g' i = g i) : ∀ n, (h < n → sumH g' n = sumH g n + 1) ∧ (n ≤ h → sumH g' n = sumH g n)
  | 0 => ⟨fun q => absurd q (Nat.not_lt_zero _), fun _ => rfl⟩
  | n + 1 => by
    obtain ⟨a, b⟩ := sumH_up h1 h2 n
    refine ⟨fun q => ?_, fun q => ?_⟩
    · show sumH g' n + g' n = sumH g n + g n + 1
      by_cases e : h = n
      · subst e
        rw [b (Nat.le_refl _), h1, Int32.add_assoc]
      · rw [a (by omega), h2 n (fun e2 => e e2.symm), Int32.add_assoc, Int32.add_assoc, Int32.add_comm 1]
    · show sumH g' n + g' n = sumH g n + g n
      rw [b (by omega), h2 n (by omega)]
theorem dx_say {h F H M N P : Nat} {num : Int32} {w : List Nat} {nw kp pt : Nat → Int32} {hr lr : Nat → Nat → Int32} {e0 e1 e2 e3 e4 e5 e6 e7 e8 e9 e10 : Int32} {Q : Int32 → Int32 → Int32 → Int32 → Int32 → Int32 → Int32 → Int32 → Int32 → Int32 → Int32 → Int32 → Int32 → Int32 → (Nat → Int32) → (Nat → Int32) → (Nat → Int32) → (Nat → Nat → Int32) → (Nat → Nat → Int32) → Prop}
    (hw : wok w) (hF : F < 4) (hH : H ≤ 4) (hh : h < 6) (hs : SC M N P nw kp pt hr lr)
    (hQ : ∀ a0 a1 a2 a3 a4 a5 a6 a7 a8 a9 a10 nw2 kp2 pt2 hr2 lr2, SC (M + 1) ((N + 1) % 10) P nw2 kp2 pt2 hr2 lr2 → TOLD h num w ((N + 1) % 10) F nw kp pt hr lr nw2 kp2 pt2 hr2 lr2 → Q (if hrd (hr h) w = num then 1 else 0) a0 a1 a2 a3 a4 a5 a6 a7 a8 a9 a10 (nI ((F + 1) % 4)) (nI (min (H + 1) 4)) nw2 kp2 pt2 hr2 lr2) :
    F_X5_say (nI h) num (pkL w) e0 e1 e2 e3 e4 e5 e6 e7 e8 e9 e10 (nI F) (nI H) nw kp pt hr lr Q := by
  obtain ⟨b1, b2, b3, b4, b5, b6, b7, b8, b9⟩ := id hs
  obtain ⟨a, a1, a2, a3⟩ := SC_att hs hh
  refine sp_say (K := min M 10) hw hF hH hh b2 b3 b1 (by omega) a3 a2 (fun c0 c1 c2 c3 c4 c5 c6 c7 c8 c9 c10 nw1 kp1 pt1 hr1 lr1 hr2 lr2 s1 s2 d1 d2 d3 d4 => ?_)
  have s0 := s2 0 (by omega)
  have hrow : ∀ c, c < 9 → hr1 h c = hr h c := fun c hc => Sn_row s0 hh hc
  have eh : hrd (hr1 h) w = hrd (hr h) w := hrd_congr hrow
  have ep : pt1 0 = nI P := s0.2.2.1.trans b6
  rw [ep] at d1 d3
  have hs1 := SC_eq hs s0
  obtain ⟨t1, t2, t3, x, y, y1, y2, y3, y4, y5, y6⟩ := RW_tell (num := num) (w := w) (hs1.2.2.2.2.2.2.1 h hh) b4 b5
  rw [← d1] at t1 t2 t3 y4
  rw [eh] at t3 y5
  rw [hrow 0 (by omega), hrow 1 (by omega), hrow 2 (by omega)] at y3
  have l0 := d3 0 (by omega)
  have l1 := d3 1 (by omega)
  have l2 := d3 2 (by omega)
  have l3 := d3 3 (by omega)
  have l4 := d3 4 (by omega)
  have hfin := hQ c0 c1 c2 c3 c4 c5 c6 c7 c8 c9 c10 (va_up nw1 0 (nI ((N + 1) % 10))) (va_up kp1 0 (nI (min (min M 10 + 1) 10))) pt1 hr2 lr2 ?_ ?_
  · rw [eh]; exact hfin
  · refine ⟨by omega, up_s, ?_, b4, b5, ep, fun i hi => ?_, ?_, fun _ => ⟨h, hh, l0⟩⟩
    · rw [up_s]; congr 1; omega
    · by_cases e : i = h
      · rw [e]; exact t1
      · rw [d2 i e]; exact RW_mono (hs1.2.2.2.2.2.2.1 i hi) (Nat.le_succ M)
    · have := (sumH_up (g := fun i => hr1 i 7) (g' := fun i => hr2 i 7) (h := h) t2 (fun i hi => by show hr2 i 7 = hr1 i 7; rw [d2 i hi]) 6).1 hh
      rw [this, hs1.2.2.2.2.2.2.2.1, nI_1]
  · refine ⟨t2.trans (by rw [hrow 7 (by omega)]), t3.trans (by rw [hrow 8 (by omega)]), ⟨x, y, y1, y2, y3, y4, y5, l4.trans y6⟩, l0, l1, l2, l3.trans eh, ?_⟩
    obtain ⟨z1, z2, z3, z4, z5⟩ := s1
    refine ⟨(up_n (by omega)).trans z1, (up_n (by omega)).trans z2, z3, fun i hi c hc => ?_, fun i hi c hc => ?_⟩
    · rw [d2 (6 * (1 + F) + i) (by omega)]; exact z4 i hi c hc
    · rw [d4 (10 * (1 + F) + i) (by omega)]; exact z5 i hi c hc
section TELLS
variable {fr hd mn e0 e1 e2 e3 e4 e5 e6 e7 e8 e9 e10 : Int32} {tx nw kp pt : Nat → Int32} {hr lr : Nat → Nat → Int32} {sd : Nat → Int64}
theorem dx_tell {h n st F H M N P : Nat} {Q : Int32 → Int32 → (Nat → Int64) → Int32 → Int32 → Int32 → Int32 → Int32 → Int32 → Int32 → Int32 → Int32 → Int32 → Int32 → Int32 → Int32 → (Nat → Int32) → (Nat → Int32) → (Nat → Int32) → (Nat → Nat → Int32) → (Nat → Nat → Int32) → Prop}
    (hF : F < 4) (hH : H ≤ 4) (hh : h < 6) (h1 : 1 ≤ n) (hn : n < 8000) (hst : st ≤ 3) (hs : SC M N P nw kp pt hr lr)
    (hQ : ∀ mn sd a0 a1 a2 a3 a4 a5 a6 a7 a8 a9 a10 nw2 kp2 pt2 hr2 lr2, SC (M + 1) ((N + 1) % 10) P nw2 kp2 pt2 hr2 lr2 → TOLD h (nI n) ((Ws n).getD (stP (Ws n) st) []) ((N + 1) % 10) F nw kp pt hr lr nw2 kp2 pt2 hr2 lr2 → Q (if hrd (hr h) ((Ws n).getD (stP (Ws n) st) []) = nI n then 1 else 0) mn sd a0 a1 a2 a3 a4 a5 a6 a7 a8 a9 a10 (nI ((F + 1) % 4)) (nI (min (H + 1) 4)) nw2 kp2 pt2 hr2 lr2) :
    F_X5_tell (nI h) (nI n) (nI st) mn sd e0 e1 e2 e3 e4 e5 e6 e7 e8 e9 e10 (nI F) (nI H) nw kp pt hr lr Q := by
  obtain ⟨f1, f2, f3⟩ := Ws_facts h1 hn
  have hp := stP_lt (st := st) f2
  exact hX_yes (by omega) (br1 (sX_yes hst (br1 (nX_yes h1 hn (br1 (sp_find h1 hn (fun sd' hS4 => sp_placeOfStyle hS4 (by omega) f1 hst (sp_at hS4 (by omega) hp (dx_say (f1 _ (getD_mem hp)) hF hH hh hs (fun _ _ _ _ _ _ _ _ _ _ _ nw2 kp2 pt2 hr2 lr2 k1 k2 => hQ _ _ _ _ _ _ _ _ _ _ _ _ _ nw2 kp2 pt2 hr2 lr2 k1 k2))))))))))
theorem dx_tellText {h n F H M N P : Nat} {w : List Nat} {Q : Int32 → Int32 → Int32 → Int32 → Int32 → Int32 → Int32 → Int32 → Int32 → Int32 → Int32 → Int32 → Int32 → Int32 → (Nat → Int32) → (Nat → Int32) → (Nat → Int32) → (Nat → Nat → Int32) → (Nat → Nat → Int32) → Prop}
    (hF : F < 4) (hH : H ≤ 4) (hh : h < 6) (hs : SC M N P nw kp pt hr lr) (hl : w.length ≤ 20) (hsay : SAY tx w) (hw : wok w) (ok : okr w S0) (hval : val (fin w S0) = nI n)
    (hQ : ∀ a0 a1 a2 a3 a4 a5 a6 a7 a8 a9 a10 nw2 kp2 pt2 hr2 lr2, SC (M + 1) ((N + 1) % 10) P nw2 kp2 pt2 hr2 lr2 → TOLD h (nI n) w ((N + 1) % 10) F nw kp pt hr lr nw2 kp2 pt2 hr2 lr2 → Q (if hrd (hr h) w = nI n then 1 else 0) a0 a1 a2 a3 a4 a5 a6 a7 a8 a9 a10 (nI ((F + 1) % 4)) (nI (min (H + 1) 4)) nw2 kp2 pt2 hr2 lr2) :
    F_X5_tellText (nI h) (nI w.length) tx e0 e1 e2 e3 e4 e5 e6 e7 e8 e9 e10 (nI F) (nI H) nw kp pt hr lr Q := by
  have hlim : lim w := fun d hd => (hw.1 d hd).2
  have hv1 : hv 1 1 1 (w.map nI) S0 = nI n := (okr_hv ok).trans hval
  refine hX_yes (by omega) (br1 (sp_faultX hl hsay (fun _ _ _ _ _ _ _ _ _ _ _ _ => ⟨fun _ => ?_, fun q => absurd rfl q⟩) (fun n => absurd ok n)))
  refine sp_packed hl hsay hlim (sp_meant hw.1 hw.2 (fun _ _ _ _ _ _ _ _ _ _ _ => ?_))
  rw [hv1]
  exact dx_say hw hF hH hh hs (fun _ _ _ _ _ _ _ _ _ _ _ nw2 kp2 pt2 hr2 lr2 k1 k2 => hQ _ _ _ _ _ _ _ _ _ _ _ nw2 kp2 pt2 hr2 lr2 k1 k2)
theorem dx_tellText0 {h : Nat} {Q : Int32 → Int32 → Int32 → Int32 → Int32 → Int32 → Int32 → Int32 → Int32 → Int32 → Int32 → Int32 → Int32 → Int32 → (Nat → Int32) → (Nat → Int32) → (Nat → Int32) → (Nat → Nat → Int32) → (Nat → Nat → Int32) → Prop} (hh : h < 6)
    (hQ : ∀ a0 a1 a2 a3 a4 a5 a6 a7 a8 a9 a10, Q (-3) a0 a1 a2 a3 a4 a5 a6 a7 a8 a9 a10 fr hd nw kp pt hr lr) :
    F_X5_tellText (nI h) 0 tx e0 e1 e2 e3 e4 e5 e6 e7 e8 e9 e10 fr hd nw kp pt hr lr Q :=
  hX_yes (by omega) (br1 (dx_fault0 (fun _ _ _ _ _ _ _ _ _ _ _ => ⟨fun q => absurd q zero_ne5, fun _ => hQ _ _ _ _ _ _ _ _ _ _ _⟩)))
/-- nothing to take back -/
theorem dx_undo0 {F : Nat} {Q : Int32 → Int32 → Int32 → (Nat → Int32) → (Nat → Int32) → (Nat → Int32) → (Nat → Nat → Int32) → (Nat → Nat → Int32) → Prop} (hF : F < 4) (hQ : Q (-5) (nI F) (nI 0) nw kp pt hr lr) : F_X5_undo (nI F) (nI 0) nw kp pt hr lr Q :=
  sp_restore hF (by omega) (fun _ => hQ) (fun n => absurd n (Nat.lt_irrefl _))
theorem dx_undo {F H : Nat} {Q : Int32 → Int32 → Int32 → (Nat → Int32) → (Nat → Int32) → (Nat → Int32) → (Nat → Nat → Int32) → (Nat → Nat → Int32) → Prop} {nw0 kp0 pt0 : Nat → Int32} {hr0 lr0 : Nat → Nat → Int32} (hF : F < 4) (hH : H ≤ 4) (hU : SnEq nw kp pt hr lr (1 + F) nw0 kp0 pt0 hr0 lr0 0)
    (hQ : ∀ nw2 kp2 pt2 hr2 lr2, SnEq nw2 kp2 pt2 hr2 lr2 0 nw0 kp0 pt0 hr0 lr0 0 → Q (nI (min (H + 1) 4 - 1)) (nI (((F + 1) % 4 + 3) % 4)) (nI (min (H + 1) 4 - 1)) nw2 kp2 pt2 hr2 lr2) : F_X5_undo (nI ((F + 1) % 4)) (nI (min (H + 1) 4)) nw kp pt hr lr Q := by
  refine sp_restore (by omega) (by omega) (fun n => by omega) (fun _ nw2 kp2 pt2 hr2 lr2 s1 s2 => hQ nw2 kp2 pt2 hr2 lr2 ?_)
  rw [show 1 + ((F + 1) % 4 + 3) % 4 = 1 + F by omega] at s1
  obtain ⟨a1, a2, a3, a4, a5⟩ := s1
  obtain ⟨b1, b2, b3, b4, b5⟩ := hU
  exact ⟨a1.trans b1, a2.trans b2, a3.trans b3, fun i hi c hc => (a4 i hi c hc).trans (b4 i hi c hc), fun i hi c hc => (a5 i hi c hc).trans (b5 i hi c hc)⟩
end TELLS
