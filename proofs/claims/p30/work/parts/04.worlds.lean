/-! WORLDS: the class's 102 cells (ad i: the address of the i-th), the reference's 8 -/
def poolX (n : Nat) (a : Nat → Nat) (f : Nat → va_E) : va_W := (List.range n).map (fun i => (a i, f i))
theorem poolX_len {n : Nat} {a : Nat → Nat} {f : Nat → va_E} : (poolX n a f).length = n := by simp [poolX]
theorem poolX_get {n i : Nat} {a : Nat → Nat} {f : Nat → va_E} (h : i < n) : (poolX n a f)[i]? = some (a i, f i) := by simp [poolX, List.getElem?_range h]
theorem poolX_set {n i : Nat} {a : Nat → Nat} {f g : Nat → va_E} {e : va_E} (h : i < n) (hg : ∀ j, j < n → g j = va_up f i e j) : (poolX n a f).set i (a i, e) = poolX n a g := by
  apply List.ext_getElem?
  intro j
  by_cases hj : j < n
  · by_cases e9 : i = j
    · subst e9
      rw [List.getElem?_set_self (by rw [poolX_len]; exact h), poolX_get h, hg i h]
      simp [va_up]
    · rw [List.getElem?_set_ne e9, poolX_get hj, poolX_get hj, hg j hj]
      simp [va_up, Ne.symm e9]
  · rw [List.getElem?_eq_none (by rw [List.length_set, poolX_len]; omega), List.getElem?_eq_none (by rw [poolX_len]; omega)]
theorem appL_get {α : Type} {a b : List α} {n i : Nat} {x : α} (hn : a.length = n) (h : b[i]? = some x) : (a ++ b)[n + i]? = some x := by
  rw [List.getElem?_append_right (by omega), hn, Nat.add_sub_cancel_left, h]
theorem appL_get0 {α : Type} {a b : List α} {i : Nat} {x : α} (h : a[i]? = some x) : (a ++ b)[i]? = some x := by
  rw [List.getElem?_append_left (List.getElem?_eq_some_iff.mp h).1, h]
theorem appL_set {α : Type} {a b b2 : List α} {n i : Nat} {x : α} (hn : a.length = n) (h : b.set i x = b2) : (a ++ b).set (n + i) x = a ++ b2 := by
  subst hn
  rw [List.set_append_right _ _ (by omega), Nat.add_sub_cancel_left, h]
theorem appL_set0 {α : Type} {a a2 b : List α} {i : Nat} {x : α} (hi : i < a.length) (h : a.set i x = a2) : (a ++ b).set i x = a2 ++ b := by
  rw [List.set_append_left _ _ hi, h]
def isBo (v : Int32) : Prop := v = 0 ∨ v = 1
theorem isBo.n {v : Int32} (h : isBo v) : narrow .boolean (.int v) = .int v := by rcases h with rfl | rfl <;> rfl
theorem isBo.f {v : Int32} (h : isBo v) : fits .boolean (.int v) = true := by rcases h with rfl | rfl <;> rfl
abbrev tysX (cA : Nat → ClassId) : List (ClassId × FieldType) := [(cA 0, .char), (cA 1, .int), (cA 2, .long), (cA 3, .object "ScoreNumbers$State"), (cA 4, .array .int)]
def pS (ad : Nat → Nat) (nw kp pt : Nat → Int32) : va_W := poolX 5 (fun k => ad (7 + k)) (fun k => .inr (2, [.ref (ad (12 + k)), .ref (ad (17 + k)), .int (nw k), .int (kp k), .int (pt k)]))
def pHO (ad : Nat → Nat) (cA : Nat → ClassId) : va_W := poolX 5 (fun k => ad (12 + k)) (fun k => .inl (cA 4, 6, .inr (.inr (.inr (.inr (fun j => some (ad (22 + (6 * k + j)))))))))
def pLO (ad : Nat → Nat) (cA : Nat → ClassId) : va_W := poolX 5 (fun k => ad (17 + k)) (fun k => .inl (cA 4, 10, .inr (.inr (.inr (.inr (fun j => some (ad (52 + (10 * k + j)))))))))
def pHR (ad : Nat → Nat) (cA : Nat → ClassId) (hr : Nat → Nat → Int32) : va_W := poolX 30 (fun n => ad (22 + n)) (fun n => .inl (cA 1, 9, .inl (hr n)))
def pLR (ad : Nat → Nat) (cA : Nat → ClassId) (lr : Nat → Nat → Int32) : va_W := poolX 50 (fun n => ad (52 + n)) (fun n => .inl (cA 1, 5, .inl (lr n)))
def fX (ad : Nat → Nat) (cA : Nat → ClassId) (tl : Int32) (tx : (Nat → Int32)) (mn : Int32) (sd : (Nat → Int64)) (e0 : Int32) (e1 : Int32) (e2 : Int32) (e3 : Int32) (e4 : Int32) (e5 : Int32) (e6 : Int32) (e7 : Int32) (e8 : Int32) (e9 : Int32) (e10 : Int32) (fr : Int32) (hd : Int32) : va_W := [(ad 0, .inr (4, [.ref (ad 7), .ref (ad 5), .ref (ad 1), .int tl, .ref (ad 2), .ref (ad 4)])), (ad 1, .inl (cA 0, 20, .inl tx)), (ad 2, .inr (3, [.ref (ad 3), .int mn])), (ad 3, .inl (cA 2, 16, .inr (.inl sd))), (ad 4, .inr (0, [.int e0, .int e1, .int e2, .int e3, .int e4, .int e5, .int e6, .int e7, .int e8, .int e9, .int e10])), (ad 5, .inr (1, [.ref (ad 6), .int fr, .int hd])), (ad 6, .inl (cA 3, 4, .inr (.inr (.inr (.inr (fun j => some (ad (7 + (1 + j)))))))))]
def WX (ad : Nat → Nat) (cA : Nat → ClassId) (tl : Int32) (tx : (Nat → Int32)) (mn : Int32) (sd : (Nat → Int64)) (e0 : Int32) (e1 : Int32) (e2 : Int32) (e3 : Int32) (e4 : Int32) (e5 : Int32) (e6 : Int32) (e7 : Int32) (e8 : Int32) (e9 : Int32) (e10 : Int32) (fr : Int32) (hd : Int32) (nw : (Nat → Int32)) (kp : (Nat → Int32)) (pt : (Nat → Int32)) (hr : (Nat → Nat → Int32)) (lr : (Nat → Nat → Int32)) : va_W := fX ad cA tl tx mn sd e0 e1 e2 e3 e4 e5 e6 e7 e8 e9 e10 fr hd ++ (pS ad nw kp pt ++ (pHO ad cA ++ (pLO ad cA ++ (pHR ad cA hr ++ pLR ad cA lr))))
variable {ad : Nat → Nat} {cA : Nat → ClassId} {tl : Int32} {tx : (Nat → Int32)} {mn : Int32} {sd : (Nat → Int64)} {e0 : Int32} {e1 : Int32} {e2 : Int32} {e3 : Int32} {e4 : Int32} {e5 : Int32} {e6 : Int32} {e7 : Int32} {e8 : Int32} {e9 : Int32} {e10 : Int32} {fr : Int32} {hd : Int32} {nw : (Nat → Int32)} {kp : (Nat → Int32)} {pt : (Nat → Int32)} {hr : (Nat → Nat → Int32)} {lr : (Nat → Nat → Int32)}
theorem WXg0 : (WX ad cA tl tx mn sd e0 e1 e2 e3 e4 e5 e6 e7 e8 e9 e10 fr hd nw kp pt hr lr)[0]? = some (ad 0, .inr (4, [.ref (ad 7), .ref (ad 5), .ref (ad 1), .int tl, .ref (ad 2), .ref (ad 4)])) := rfl
theorem WXg1 : (WX ad cA tl tx mn sd e0 e1 e2 e3 e4 e5 e6 e7 e8 e9 e10 fr hd nw kp pt hr lr)[1]? = some (ad 1, .inl (cA 0, 20, .inl tx)) := rfl
theorem WXg2 : (WX ad cA tl tx mn sd e0 e1 e2 e3 e4 e5 e6 e7 e8 e9 e10 fr hd nw kp pt hr lr)[2]? = some (ad 2, .inr (3, [.ref (ad 3), .int mn])) := rfl
theorem WXg3 : (WX ad cA tl tx mn sd e0 e1 e2 e3 e4 e5 e6 e7 e8 e9 e10 fr hd nw kp pt hr lr)[3]? = some (ad 3, .inl (cA 2, 16, .inr (.inl sd))) := rfl
theorem WXg4 : (WX ad cA tl tx mn sd e0 e1 e2 e3 e4 e5 e6 e7 e8 e9 e10 fr hd nw kp pt hr lr)[4]? = some (ad 4, .inr (0, [.int e0, .int e1, .int e2, .int e3, .int e4, .int e5, .int e6, .int e7, .int e8, .int e9, .int e10])) := rfl
theorem WXg5 : (WX ad cA tl tx mn sd e0 e1 e2 e3 e4 e5 e6 e7 e8 e9 e10 fr hd nw kp pt hr lr)[5]? = some (ad 5, .inr (1, [.ref (ad 6), .int fr, .int hd])) := rfl
theorem WXg6 : (WX ad cA tl tx mn sd e0 e1 e2 e3 e4 e5 e6 e7 e8 e9 e10 fr hd nw kp pt hr lr)[6]? = some (ad 6, .inl (cA 3, 4, .inr (.inr (.inr (.inr (fun j => some (ad (7 + (1 + j))))))))) := rfl
theorem WXg_ST {k : Nat} (h : k < 5) : (WX ad cA tl tx mn sd e0 e1 e2 e3 e4 e5 e6 e7 e8 e9 e10 fr hd nw kp pt hr lr)[7 + k]? = some (ad (7 + k), .inr (2, [.ref (ad (12 + k)), .ref (ad (17 + k)), .int (nw k), .int (kp k), .int (pt k)])) := appL_get rfl (appL_get0 (poolX_get h))
theorem WXg_HO {k : Nat} (h : k < 5) : (WX ad cA tl tx mn sd e0 e1 e2 e3 e4 e5 e6 e7 e8 e9 e10 fr hd nw kp pt hr lr)[12 + k]? = some (ad (12 + k), .inl (cA 4, 6, .inr (.inr (.inr (.inr (fun j => some (ad (22 + (6 * k + j))))))))) := by
  rw [show 12 + k = 7 + (5 + k) by omega]
  exact appL_get rfl (appL_get poolX_len (appL_get0 (by rw [show 7 + (5 + k) = 12 + k by omega]; exact poolX_get h)))
theorem WXg_LO {k : Nat} (h : k < 5) : (WX ad cA tl tx mn sd e0 e1 e2 e3 e4 e5 e6 e7 e8 e9 e10 fr hd nw kp pt hr lr)[17 + k]? = some (ad (17 + k), .inl (cA 4, 10, .inr (.inr (.inr (.inr (fun j => some (ad (52 + (10 * k + j))))))))) := by
  rw [show 17 + k = 7 + (5 + (5 + k)) by omega]
  exact appL_get rfl (appL_get poolX_len (appL_get poolX_len (appL_get0 (by rw [show 7 + (5 + (5 + k)) = 17 + k by omega]; exact poolX_get h))))
theorem WXg_HR {k : Nat} (h : k < 30) : (WX ad cA tl tx mn sd e0 e1 e2 e3 e4 e5 e6 e7 e8 e9 e10 fr hd nw kp pt hr lr)[22 + k]? = some (ad (22 + k), .inl (cA 1, 9, .inl (hr k))) := by
  rw [show 22 + k = 7 + (5 + (5 + (5 + k))) by omega]
  exact appL_get rfl (appL_get poolX_len (appL_get poolX_len (appL_get poolX_len (appL_get0 (by rw [show 7 + (5 + (5 + (5 + k))) = 22 + k by omega]; exact poolX_get h)))))
theorem WXg_LR {k : Nat} (h : k < 50) : (WX ad cA tl tx mn sd e0 e1 e2 e3 e4 e5 e6 e7 e8 e9 e10 fr hd nw kp pt hr lr)[52 + k]? = some (ad (52 + k), .inl (cA 1, 5, .inl (lr k))) := by
  rw [show 52 + k = 7 + (5 + (5 + (5 + (30 + k)))) by omega]
  exact appL_get rfl (appL_get poolX_len (appL_get poolX_len (appL_get poolX_len (appL_get poolX_len (by rw [show 7 + (5 + (5 + (5 + (30 + k)))) = 52 + k by omega]; exact poolX_get h)))))
theorem WXs_tl {v9 : Int32} : (WX ad cA tl tx mn sd e0 e1 e2 e3 e4 e5 e6 e7 e8 e9 e10 fr hd nw kp pt hr lr).set 0 (ad 0, .inr (4, List.set [.ref (ad 7), .ref (ad 5), .ref (ad 1), .int tl, .ref (ad 2), .ref (ad 4)] 3 (.int v9))) = WX ad cA v9 tx mn sd e0 e1 e2 e3 e4 e5 e6 e7 e8 e9 e10 fr hd nw kp pt hr lr := rfl
theorem WXs_tx {v9 : (Nat → Int32)} : (WX ad cA tl tx mn sd e0 e1 e2 e3 e4 e5 e6 e7 e8 e9 e10 fr hd nw kp pt hr lr).set 1 (ad 1, .inl (cA 0, 20, .inl v9)) = WX ad cA tl v9 mn sd e0 e1 e2 e3 e4 e5 e6 e7 e8 e9 e10 fr hd nw kp pt hr lr := rfl
theorem WXs_mn {v9 : Int32} : (WX ad cA tl tx mn sd e0 e1 e2 e3 e4 e5 e6 e7 e8 e9 e10 fr hd nw kp pt hr lr).set 2 (ad 2, .inr (3, List.set [.ref (ad 3), .int mn] 1 (.int v9))) = WX ad cA tl tx v9 sd e0 e1 e2 e3 e4 e5 e6 e7 e8 e9 e10 fr hd nw kp pt hr lr := rfl
theorem WXs_sd {v9 : (Nat → Int64)} : (WX ad cA tl tx mn sd e0 e1 e2 e3 e4 e5 e6 e7 e8 e9 e10 fr hd nw kp pt hr lr).set 3 (ad 3, .inl (cA 2, 16, .inr (.inl v9))) = WX ad cA tl tx mn v9 e0 e1 e2 e3 e4 e5 e6 e7 e8 e9 e10 fr hd nw kp pt hr lr := rfl
theorem WXs_e0 {v9 : Int32} : (WX ad cA tl tx mn sd e0 e1 e2 e3 e4 e5 e6 e7 e8 e9 e10 fr hd nw kp pt hr lr).set 4 (ad 4, .inr (0, List.set [.int e0, .int e1, .int e2, .int e3, .int e4, .int e5, .int e6, .int e7, .int e8, .int e9, .int e10] 0 (.int v9))) = WX ad cA tl tx mn sd v9 e1 e2 e3 e4 e5 e6 e7 e8 e9 e10 fr hd nw kp pt hr lr := rfl
theorem WXs_e1 {v9 : Int32} : (WX ad cA tl tx mn sd e0 e1 e2 e3 e4 e5 e6 e7 e8 e9 e10 fr hd nw kp pt hr lr).set 4 (ad 4, .inr (0, List.set [.int e0, .int e1, .int e2, .int e3, .int e4, .int e5, .int e6, .int e7, .int e8, .int e9, .int e10] 1 (.int v9))) = WX ad cA tl tx mn sd e0 v9 e2 e3 e4 e5 e6 e7 e8 e9 e10 fr hd nw kp pt hr lr := rfl
theorem WXs_e2 {v9 : Int32} : (WX ad cA tl tx mn sd e0 e1 e2 e3 e4 e5 e6 e7 e8 e9 e10 fr hd nw kp pt hr lr).set 4 (ad 4, .inr (0, List.set [.int e0, .int e1, .int e2, .int e3, .int e4, .int e5, .int e6, .int e7, .int e8, .int e9, .int e10] 2 (.int v9))) = WX ad cA tl tx mn sd e0 e1 v9 e3 e4 e5 e6 e7 e8 e9 e10 fr hd nw kp pt hr lr := rfl
theorem WXs_e3 {v9 : Int32} : (WX ad cA tl tx mn sd e0 e1 e2 e3 e4 e5 e6 e7 e8 e9 e10 fr hd nw kp pt hr lr).set 4 (ad 4, .inr (0, List.set [.int e0, .int e1, .int e2, .int e3, .int e4, .int e5, .int e6, .int e7, .int e8, .int e9, .int e10] 3 (.int v9))) = WX ad cA tl tx mn sd e0 e1 e2 v9 e4 e5 e6 e7 e8 e9 e10 fr hd nw kp pt hr lr := rfl
theorem WXs_e4 {v9 : Int32} : (WX ad cA tl tx mn sd e0 e1 e2 e3 e4 e5 e6 e7 e8 e9 e10 fr hd nw kp pt hr lr).set 4 (ad 4, .inr (0, List.set [.int e0, .int e1, .int e2, .int e3, .int e4, .int e5, .int e6, .int e7, .int e8, .int e9, .int e10] 4 (.int v9))) = WX ad cA tl tx mn sd e0 e1 e2 e3 v9 e5 e6 e7 e8 e9 e10 fr hd nw kp pt hr lr := rfl
theorem WXs_e5 {v9 : Int32} : (WX ad cA tl tx mn sd e0 e1 e2 e3 e4 e5 e6 e7 e8 e9 e10 fr hd nw kp pt hr lr).set 4 (ad 4, .inr (0, List.set [.int e0, .int e1, .int e2, .int e3, .int e4, .int e5, .int e6, .int e7, .int e8, .int e9, .int e10] 5 (.int v9))) = WX ad cA tl tx mn sd e0 e1 e2 e3 e4 v9 e6 e7 e8 e9 e10 fr hd nw kp pt hr lr := rfl
theorem WXs_e6 {v9 : Int32} : (WX ad cA tl tx mn sd e0 e1 e2 e3 e4 e5 e6 e7 e8 e9 e10 fr hd nw kp pt hr lr).set 4 (ad 4, .inr (0, List.set [.int e0, .int e1, .int e2, .int e3, .int e4, .int e5, .int e6, .int e7, .int e8, .int e9, .int e10] 6 (.int v9))) = WX ad cA tl tx mn sd e0 e1 e2 e3 e4 e5 v9 e7 e8 e9 e10 fr hd nw kp pt hr lr := rfl
theorem WXs_e7 {v9 : Int32} : (WX ad cA tl tx mn sd e0 e1 e2 e3 e4 e5 e6 e7 e8 e9 e10 fr hd nw kp pt hr lr).set 4 (ad 4, .inr (0, List.set [.int e0, .int e1, .int e2, .int e3, .int e4, .int e5, .int e6, .int e7, .int e8, .int e9, .int e10] 7 (.int v9))) = WX ad cA tl tx mn sd e0 e1 e2 e3 e4 e5 e6 v9 e8 e9 e10 fr hd nw kp pt hr lr := rfl
theorem WXs_e8 {v9 : Int32} : (WX ad cA tl tx mn sd e0 e1 e2 e3 e4 e5 e6 e7 e8 e9 e10 fr hd nw kp pt hr lr).set 4 (ad 4, .inr (0, List.set [.int e0, .int e1, .int e2, .int e3, .int e4, .int e5, .int e6, .int e7, .int e8, .int e9, .int e10] 8 (.int v9))) = WX ad cA tl tx mn sd e0 e1 e2 e3 e4 e5 e6 e7 v9 e9 e10 fr hd nw kp pt hr lr := rfl
theorem WXs_e9 {v9 : Int32} : (WX ad cA tl tx mn sd e0 e1 e2 e3 e4 e5 e6 e7 e8 e9 e10 fr hd nw kp pt hr lr).set 4 (ad 4, .inr (0, List.set [.int e0, .int e1, .int e2, .int e3, .int e4, .int e5, .int e6, .int e7, .int e8, .int e9, .int e10] 9 (.int v9))) = WX ad cA tl tx mn sd e0 e1 e2 e3 e4 e5 e6 e7 e8 v9 e10 fr hd nw kp pt hr lr := rfl
theorem WXs_e10 {v9 : Int32} : (WX ad cA tl tx mn sd e0 e1 e2 e3 e4 e5 e6 e7 e8 e9 e10 fr hd nw kp pt hr lr).set 4 (ad 4, .inr (0, List.set [.int e0, .int e1, .int e2, .int e3, .int e4, .int e5, .int e6, .int e7, .int e8, .int e9, .int e10] 10 (.int v9))) = WX ad cA tl tx mn sd e0 e1 e2 e3 e4 e5 e6 e7 e8 e9 v9 fr hd nw kp pt hr lr := rfl
theorem WXs_fr {v9 : Int32} : (WX ad cA tl tx mn sd e0 e1 e2 e3 e4 e5 e6 e7 e8 e9 e10 fr hd nw kp pt hr lr).set 5 (ad 5, .inr (1, List.set [.ref (ad 6), .int fr, .int hd] 1 (.int v9))) = WX ad cA tl tx mn sd e0 e1 e2 e3 e4 e5 e6 e7 e8 e9 e10 v9 hd nw kp pt hr lr := rfl
theorem WXs_hd {v9 : Int32} : (WX ad cA tl tx mn sd e0 e1 e2 e3 e4 e5 e6 e7 e8 e9 e10 fr hd nw kp pt hr lr).set 5 (ad 5, .inr (1, List.set [.ref (ad 6), .int fr, .int hd] 2 (.int v9))) = WX ad cA tl tx mn sd e0 e1 e2 e3 e4 e5 e6 e7 e8 e9 e10 fr v9 nw kp pt hr lr := rfl
theorem WXs_nw {k : Nat} {v9 : Int32} (h : k < 5) : (WX ad cA tl tx mn sd e0 e1 e2 e3 e4 e5 e6 e7 e8 e9 e10 fr hd nw kp pt hr lr).set (7 + k) (ad (7 + k), .inr (2, List.set [.ref (ad (12 + k)), .ref (ad (17 + k)), .int (nw k), .int (kp k), .int (pt k)] 2 (.int v9))) = WX ad cA tl tx mn sd e0 e1 e2 e3 e4 e5 e6 e7 e8 e9 e10 fr hd (va_up nw k v9) kp pt hr lr := by
  refine appL_set rfl (appL_set0 (by unfold pS; rw [poolX_len]; exact h) (poolX_set h (fun i hi => ?_)))
  by_cases e9 : i = k
  · subst e9; simp [va_up]
  · simp [va_up, e9]
theorem WXs_kp {k : Nat} {v9 : Int32} (h : k < 5) : (WX ad cA tl tx mn sd e0 e1 e2 e3 e4 e5 e6 e7 e8 e9 e10 fr hd nw kp pt hr lr).set (7 + k) (ad (7 + k), .inr (2, List.set [.ref (ad (12 + k)), .ref (ad (17 + k)), .int (nw k), .int (kp k), .int (pt k)] 3 (.int v9))) = WX ad cA tl tx mn sd e0 e1 e2 e3 e4 e5 e6 e7 e8 e9 e10 fr hd nw (va_up kp k v9) pt hr lr := by
  refine appL_set rfl (appL_set0 (by unfold pS; rw [poolX_len]; exact h) (poolX_set h (fun i hi => ?_)))
  by_cases e9 : i = k
  · subst e9; simp [va_up]
  · simp [va_up, e9]
theorem WXs_pt {k : Nat} {v9 : Int32} (h : k < 5) : (WX ad cA tl tx mn sd e0 e1 e2 e3 e4 e5 e6 e7 e8 e9 e10 fr hd nw kp pt hr lr).set (7 + k) (ad (7 + k), .inr (2, List.set [.ref (ad (12 + k)), .ref (ad (17 + k)), .int (nw k), .int (kp k), .int (pt k)] 4 (.int v9))) = WX ad cA tl tx mn sd e0 e1 e2 e3 e4 e5 e6 e7 e8 e9 e10 fr hd nw kp (va_up pt k v9) hr lr := by
  refine appL_set rfl (appL_set0 (by unfold pS; rw [poolX_len]; exact h) (poolX_set h (fun i hi => ?_)))
  by_cases e9 : i = k
  · subst e9; simp [va_up]
  · simp [va_up, e9]
theorem WXs_hr {k : Nat} {v9 : Nat → Int32} (h : k < 30) : (WX ad cA tl tx mn sd e0 e1 e2 e3 e4 e5 e6 e7 e8 e9 e10 fr hd nw kp pt hr lr).set (22 + k) (ad (22 + k), .inl (cA 1, 9, .inl v9)) = WX ad cA tl tx mn sd e0 e1 e2 e3 e4 e5 e6 e7 e8 e9 e10 fr hd nw kp pt (va_up hr k v9) lr := by
  have h88 : 22 + k = 7 + (5 + (5 + (5 + k))) := by omega
  rw [show (WX ad cA tl tx mn sd e0 e1 e2 e3 e4 e5 e6 e7 e8 e9 e10 fr hd nw kp pt hr lr).set (22 + k) = (WX ad cA tl tx mn sd e0 e1 e2 e3 e4 e5 e6 e7 e8 e9 e10 fr hd nw kp pt hr lr).set (7 + (5 + (5 + (5 + k)))) by rw [h88]]
  refine appL_set rfl (appL_set poolX_len (appL_set poolX_len (appL_set poolX_len (appL_set0 (by unfold pHR; rw [poolX_len]; exact h) (poolX_set (a := fun n => ad (22 + n)) h (fun i hi => ?_))))))
  by_cases e9 : i = k
  · subst e9; simp [va_up]
  · simp [va_up, e9]
theorem WXs_lr {k : Nat} {v9 : Nat → Int32} (h : k < 50) : (WX ad cA tl tx mn sd e0 e1 e2 e3 e4 e5 e6 e7 e8 e9 e10 fr hd nw kp pt hr lr).set (52 + k) (ad (52 + k), .inl (cA 1, 5, .inl v9)) = WX ad cA tl tx mn sd e0 e1 e2 e3 e4 e5 e6 e7 e8 e9 e10 fr hd nw kp pt hr (va_up lr k v9) := by
  have h88 : 52 + k = 7 + (5 + (5 + (5 + (30 + k)))) := by omega
  rw [show (WX ad cA tl tx mn sd e0 e1 e2 e3 e4 e5 e6 e7 e8 e9 e10 fr hd nw kp pt hr lr).set (52 + k) = (WX ad cA tl tx mn sd e0 e1 e2 e3 e4 e5 e6 e7 e8 e9 e10 fr hd nw kp pt hr lr).set (7 + (5 + (5 + (5 + (30 + k))))) by rw [h88]]
  refine appL_set rfl (appL_set poolX_len (appL_set poolX_len (appL_set poolX_len (appL_set poolX_len (poolX_set (a := fun n => ad (52 + n)) h (fun i hi => ?_))))))
  by_cases e9 : i = k
  · subst e9; simp [va_up]
  · simp [va_up, e9]
