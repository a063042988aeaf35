variable {p : Program} {l : Launch} {e : Env} {s : State} {m : MethodId} {args : Array Value} {below : List Frame} {meth : Method} {c : Code} {D : va_G} {A : Nat → Prop} {ad : Nat → Nat} {cA : Nat → ClassId}
variable {tl : Int32} {tx : (Nat → Int32)} {mn : Int32} {sd : (Nat → Int64)} {e0 : Int32} {e1 : Int32} {e2 : Int32} {e3 : Int32} {e4 : Int32} {e5 : Int32} {e6 : Int32} {e7 : Int32} {e8 : Int32} {e9 : Int32} {e10 : Int32} {fr : Int32} {hd : Int32} {nw : (Nat → Int32)} {kp : (Nat → Int32)} {pt : (Nat → Int32)} {hr : (Nat → Nat → Int32)} {lr : (Nat → Nat → Int32)}
/-! X0_listen -/
abbrev rmX0_listen : Room := { frames := 0, cells := 0, slots := 0, locals := 0 }
abbrev QC_X0_listen (D : va_G) (A : Nat → Prop) (ad : Nat → Nat) (cA : Nat → ClassId) (tl : Int32) (tx : (Nat → Int32)) (mn : Int32) (sd : (Nat → Int64)) (fr : Int32) (hd : Int32) (nw : (Nat → Int32)) (kp : (Nat → Int32)) (pt : (Nat → Int32)) (hr : (Nat → Nat → Int32)) (lr : (Nat → Nat → Int32)) (Q : Int32 → Int32 → Int32 → Int32 → Int32 → Int32 → Int32 → Int32 → Int32 → Int32 → Int32 → Prop) : Array Value → State → Outcome → State → Prop := va_Qv (fun u : Int32 × Int32 × Int32 × Int32 × Int32 × Int32 × Int32 × Int32 × Int32 × Int32 × Int32 => Q u.1 u.2.1 u.2.2.1 u.2.2.2.1 u.2.2.2.2.1 u.2.2.2.2.2.1 u.2.2.2.2.2.2.1 u.2.2.2.2.2.2.2.1 u.2.2.2.2.2.2.2.2.1 u.2.2.2.2.2.2.2.2.2.1 u.2.2.2.2.2.2.2.2.2.2) (fun u t => OKX D (tysX cA) ((fun u : Int32 × Int32 × Int32 × Int32 × Int32 × Int32 × Int32 × Int32 × Int32 × Int32 × Int32 => WX ad cA tl tx mn sd u.1 u.2.1 u.2.2.1 u.2.2.2.1 u.2.2.2.2.1 u.2.2.2.2.2.1 u.2.2.2.2.2.2.1 u.2.2.2.2.2.2.2.1 u.2.2.2.2.2.2.2.2.1 u.2.2.2.2.2.2.2.2.2.1 u.2.2.2.2.2.2.2.2.2.2 fr hd nw kp pt hr lr) u) A t) A
abbrev QP_X0_listen (D : va_G) (A : Nat → Prop) (ad : Nat → Nat) (cA : Nat → ClassId) (tl : Int32) (tx : (Nat → Int32)) (mn : Int32) (sd : (Nat → Int64)) (fr : Int32) (hd : Int32) (nw : (Nat → Int32)) (kp : (Nat → Int32)) (pt : (Nat → Int32)) (hr : (Nat → Nat → Int32)) (lr : (Nat → Nat → Int32)) (Q : Int32 → Int32 → Int32 → Int32 → Int32 → Int32 → Int32 → Int32 → Int32 → Int32 → Int32 → Prop) (below : List Frame) (args : Array Value) (s : State) : State → Prop := MQ below (QC_X0_listen D A ad cA tl tx mn sd fr hd nw kp pt hr lr Q) args s 0 0 A
def B_X0_listen_0  (Q : Int32 → Int32 → Int32 → Int32 → Int32 → Int32 → Int32 → Int32 → Int32 → Int32 → Int32 → Prop)  (v1 : Int32) (v2 : Int32) (v3 : Int32) (e0 : Int32) (e1 : Int32) (e2 : Int32) (e3 : Int32) (e4 : Int32) (e5 : Int32) (e6 : Int32) (e7 : Int32) (e8 : Int32) (e9 : Int32) (e10 : Int32) : Prop := (isBo v1 ∧ (isBo v2 ∧ (isBo v3 ∧ (Q v1 v2 v3 (0 : Int32) (0 : Int32) (0 : Int32) (0 : Int32) (1 : Int32) (0 : Int32) (0 : Int32) (0 : Int32)))))
def F_X0_listen (v1 : Int32) (v2 : Int32) (v3 : Int32)  (e0 : Int32) (e1 : Int32) (e2 : Int32) (e3 : Int32) (e4 : Int32) (e5 : Int32) (e6 : Int32) (e7 : Int32) (e8 : Int32) (e9 : Int32) (e10 : Int32) (Q : Int32 → Int32 → Int32 → Int32 → Int32 → Int32 → Int32 → Int32 → Int32 → Int32 → Int32 → Prop) : Prop := B_X0_listen_0 Q  v1 v2 v3 e0 e1 e2 e3 e4 e5 e6 e7 e8 e9 e10
theorem lkX0_listen_41 : Cond.fieldLink RX0 41 (TX0 10).1 (TX0 10).2.1 (TX0 10).2.2.1 ∈ wsX0_listen := by decide +kernel
theorem lkX0_listen_38 : Cond.fieldLink RX0 38 (TX0 9).1 (TX0 9).2.1 (TX0 9).2.2.1 ∈ wsX0_listen := by decide +kernel
theorem lkX0_listen_35 : Cond.fieldLink RX0 35 (TX0 8).1 (TX0 8).2.1 (TX0 8).2.2.1 ∈ wsX0_listen := by decide +kernel
theorem lkX0_listen_32 : Cond.fieldLink RX0 32 (TX0 7).1 (TX0 7).2.1 (TX0 7).2.2.1 ∈ wsX0_listen := by decide +kernel
theorem lkX0_listen_29 : Cond.fieldLink RX0 29 (TX0 6).1 (TX0 6).2.1 (TX0 6).2.2.1 ∈ wsX0_listen := by decide +kernel
theorem lkX0_listen_26 : Cond.fieldLink RX0 26 (TX0 5).1 (TX0 5).2.1 (TX0 5).2.2.1 ∈ wsX0_listen := by decide +kernel
theorem lkX0_listen_23 : Cond.fieldLink RX0 23 (TX0 4).1 (TX0 4).2.1 (TX0 4).2.2.1 ∈ wsX0_listen := by decide +kernel
theorem lkX0_listen_19 : Cond.fieldLink RX0 19 (TX0 3).1 (TX0 3).2.1 (TX0 3).2.2.1 ∈ wsX0_listen := by decide +kernel
theorem lkX0_listen_16 : Cond.fieldLink RX0 16 (TX0 2).1 (TX0 2).2.1 (TX0 2).2.2.1 ∈ wsX0_listen := by decide +kernel
theorem lkX0_listen_13 : Cond.fieldLink RX0 13 (TX0 1).1 (TX0 1).2.1 (TX0 1).2.2.1 ∈ wsX0_listen := by decide +kernel
theorem lkX0_listen_7 : Cond.fieldLink RX0 7 (TX0 0).1 (TX0 0).2.1 (TX0 0).2.2.1 ∈ wsX0_listen := by decide +kernel
theorem inX0_listen_0 : ∀ q ∈ u_ws RX0 TX0 11, q ∈ wsX0_listen := by decide +kernel
set_option maxHeartbeats 4000000 in
set_option maxRecDepth 100000 in
theorem t_B_X0_listen_0  {Q : Int32 → Int32 → Int32 → Int32 → Int32 → Int32 → Int32 → Int32 → Int32 → Int32 → Int32 → Prop} (C : CxX p s m args c D (tysX cA) RX0 cX0_listen 4 wsX0_listen) (hrt9 : meth.sig.returnType = none) (hlk : meth.locks = false) (v1 : Int32) (v2 : Int32) (v3 : Int32) (e0 : Int32) (e1 : Int32) (e2 : Int32) (e3 : Int32) (e4 : Int32) (e5 : Int32) (e6 : Int32) (e7 : Int32) (e8 : Int32) (e9 : Int32) (e10 : Int32)  (h : B_X0_listen_0  Q  v1 v2 v3 e0 e1 e2 e3 e4 e5 e6 e7 e8 e9 e10) : GoX p l e rmX0_listen s m args below meth c D A 4 0 0 (QP_X0_listen D A ad cA tl tx mn sd fr hd nw kp pt hr lr Q below args s) 0 [(0, .ref (ad 4)), (1, .int v1), (2, .int v2), (3, .int v3)] [] (WX ad cA tl tx mn sd e0 e1 e2 e3 e4 e5 e6 e7 e8 e9 e10 fr hd nw kp pt hr lr) := by
  replace h : (isBo v1 ∧ (isBo v2 ∧ (isBo v3 ∧ (Q v1 v2 v3 (0 : Int32) (0 : Int32) (0 : Int32) (0 : Int32) (1 : Int32) (0 : Int32) (0 : Int32) (0 : Int32))))) := h
  refine g_aload_n C 0 dX0_listen_0 rfl rfl ?_
  refine g_iload_n C 1 dX0_listen_1 rfl rfl ?_
  refine g_put C inX0_listen_0 tyX0 tyX0_ok nmX0 4 WXg4 rfl 0 (by decide) lkX0_listen_7 rfl h.1.n h.1.f (Nat.le_of_ble_eq_true rfl) (WXs_e0) dX0_listen_2 ?_
  replace h := h.2
  refine g_aload_n C 0 dX0_listen_5 rfl rfl ?_
  refine g_iload_n C 2 dX0_listen_6 rfl rfl ?_
  refine g_put C inX0_listen_0 tyX0 tyX0_ok nmX0 4 WXg4 rfl 1 (by decide) lkX0_listen_13 rfl h.1.n h.1.f (Nat.le_of_ble_eq_true rfl) (WXs_e1) dX0_listen_7 ?_
  replace h := h.2
  refine g_aload_n C 0 dX0_listen_10 rfl rfl ?_
  refine g_iload_n C 3 dX0_listen_11 rfl rfl ?_
  refine g_put C inX0_listen_0 tyX0 tyX0_ok nmX0 4 WXg4 rfl 2 (by decide) lkX0_listen_16 rfl h.1.n h.1.f (Nat.le_of_ble_eq_true rfl) (WXs_e2) dX0_listen_12 ?_
  replace h := h.2
  refine g_aload_n C 0 dX0_listen_15 rfl rfl ?_
  refine g_iconst C (0 : Int32) dX0_listen_16 (by decide) ?_
  refine g_put C inX0_listen_0 tyX0 tyX0_ok nmX0 4 WXg4 rfl 3 (by decide) lkX0_listen_19 rfl rfl rfl (Nat.le_of_ble_eq_true rfl) (WXs_e3) dX0_listen_17 ?_
  refine g_aload_n C 0 dX0_listen_20 rfl rfl ?_
  refine g_iconst C (0 : Int32) dX0_listen_21 (by decide) ?_
  refine g_put C inX0_listen_0 tyX0 tyX0_ok nmX0 4 WXg4 rfl 4 (by decide) lkX0_listen_23 rfl rfl rfl (Nat.le_of_ble_eq_true rfl) (WXs_e4) dX0_listen_22 ?_
  refine g_aload_n C 0 dX0_listen_25 rfl rfl ?_
  refine g_iconst C (0 : Int32) dX0_listen_26 (by decide) ?_
  refine g_put C inX0_listen_0 tyX0 tyX0_ok nmX0 4 WXg4 rfl 5 (by decide) lkX0_listen_26 rfl rfl rfl (Nat.le_of_ble_eq_true rfl) (WXs_e5) dX0_listen_27 ?_
  refine g_aload_n C 0 dX0_listen_30 rfl rfl ?_
  refine g_iconst C (0 : Int32) dX0_listen_31 (by decide) ?_
  refine g_put C inX0_listen_0 tyX0 tyX0_ok nmX0 4 WXg4 rfl 6 (by decide) lkX0_listen_29 rfl rfl rfl (Nat.le_of_ble_eq_true rfl) (WXs_e6) dX0_listen_32 ?_
  refine g_aload_n C 0 dX0_listen_35 rfl rfl ?_
  refine g_iconst C (1 : Int32) dX0_listen_36 (by decide) ?_
  refine g_put C inX0_listen_0 tyX0 tyX0_ok nmX0 4 WXg4 rfl 7 (by decide) lkX0_listen_32 rfl rfl rfl (Nat.le_of_ble_eq_true rfl) (WXs_e7) dX0_listen_37 ?_
  refine g_aload_n C 0 dX0_listen_40 rfl rfl ?_
  refine g_iconst C (0 : Int32) dX0_listen_41 (by decide) ?_
  refine g_put C inX0_listen_0 tyX0 tyX0_ok nmX0 4 WXg4 rfl 8 (by decide) lkX0_listen_35 rfl rfl rfl (Nat.le_of_ble_eq_true rfl) (WXs_e8) dX0_listen_42 ?_
  refine g_aload_n C 0 dX0_listen_45 rfl rfl ?_
  refine g_iconst C (0 : Int32) dX0_listen_46 (by decide) ?_
  refine g_put C inX0_listen_0 tyX0 tyX0_ok nmX0 4 WXg4 rfl 9 (by decide) lkX0_listen_38 rfl rfl rfl (Nat.le_of_ble_eq_true rfl) (WXs_e9) dX0_listen_47 ?_
  refine g_aload_n C 0 dX0_listen_50 rfl rfl ?_
  refine g_iconst C (0 : Int32) dX0_listen_51 (by decide) ?_
  refine g_put C inX0_listen_0 tyX0 tyX0_ok nmX0 4 WXg4 rfl 10 (by decide) lkX0_listen_41 rfl rfl rfl (Nat.le_of_ble_eq_true rfl) (WXs_e10) dX0_listen_52 ?_
  exact g_vret C hrt9 hlk (u := (v1, v2, v3, (0 : Int32), (0 : Int32), (0 : Int32), (0 : Int32), (1 : Int32), (0 : Int32), (0 : Int32), (0 : Int32))) rfl h dX0_listen_55
theorem c_X0_listen (l : Launch) (D : va_G) (A : Nat → Prop) (ad : Nat → Nat) (cA : Nat → ClassId) (v1 : Int32) (v2 : Int32) (v3 : Int32) {tl : Int32} {tx : (Nat → Int32)} {mn : Int32} {sd : (Nat → Int64)} {e0 : Int32} {e1 : Int32} {e2 : Int32} {e3 : Int32} {e4 : Int32} {e5 : Int32} {e6 : Int32} {e7 : Int32} {e8 : Int32} {e9 : Int32} {e10 : Int32} {fr : Int32} {hd : Int32} {nw : (Nat → Int32)} {kp : (Nat → Int32)} {pt : (Nat → Int32)} {hr : (Nat → Nat → Int32)} {lr : (Nat → Nat → Int32)}  (Q : Int32 → Int32 → Int32 → Int32 → Int32 → Int32 → Int32 → Int32 → Int32 → Int32 → Int32 → Prop) (h : F_X0_listen v1 v2 v3 e0 e1 e2 e3 e4 e5 e6 e7 e8 e9 e10 Q) : Met l yX0_listen wsX0_listen rmX0_listen (va_Pc [.ref (ad 4), .int v1, .int v2, .int v3] (OKX D (tysX cA) (WX ad cA tl tx mn sd e0 e1 e2 e3 e4 e5 e6 e7 e8 e9 e10 fr hd nw kp pt hr lr) A)) (QC_X0_listen D A ad cA tl tx mn sd fr hd nw kp pt hr lr Q) 0 0 A :=
  g_met (own := RX0) (by decide) rfl rfl (Nat.le_of_ble_eq_true rfl) (fun p e s m below meth c C hrt9 hlk _ => g_sub [0, 1, 2, 3] rfl (t_B_X0_listen_0 C hrt9 hlk v1 v2 v3 e0 e1 e2 e3 e4 e5 e6 e7 e8 e9 e10  h))
theorem k_X0_listen {ws : List Cond} {own : String} {cc : ByteArray} {nL pc index kc ks : Nat} {lv : List (Nat × Value)} {st : List Value} {Q : State → Prop} {R : Room} {K : Int32 → Int32 → Int32 → Int32 → Int32 → Int32 → Int32 → Int32 → Int32 → Int32 → Int32 → Prop} {v1 : Int32} {v2 : Int32} {v3 : Int32} (C : CxX p s m args c D (tysX cA) own cc nL ws) (hT : GoodIn ws (wsV own index RX0 yX0_listen wsX0_listen)) (hR : rmX0_listen.frames + 1 ≤ R.frames ∧ 8 + (4 + 11) + rmX0_listen.locals ≤ R.locals) (hk9 : kc ≤ R.cells ∧ ks ≤ R.slots) (hcat : (st.map fun v => v.category).sum ≤ 8) (hdg : decode cc pc = .ok (.invokevirtual index, 3))  (h : F_X0_listen v1 v2 v3 e0 e1 e2 e3 e4 e5 e6 e7 e8 e9 e10 K) (kk : ∀ (e0q : Int32) (e1q : Int32) (e2q : Int32) (e3q : Int32) (e4q : Int32) (e5q : Int32) (e6q : Int32) (e7q : Int32) (e8q : Int32) (e9q : Int32) (e10q : Int32), K e0q e1q e2q e3q e4q e5q e6q e7q e8q e9q e10q → GoX p l e R s m args below meth c D A nL kc ks Q (pc + 3) lv (st) (WX ad cA tl tx mn sd e0q e1q e2q e3q e4q e5q e6q e7q e8q e9q e10q fr hd nw kp pt hr lr)) : GoX p l e R s m args below meth c D A nL kc ks Q pc lv (.int v3 :: .int v2 :: .int v1 :: .ref (ad 4) :: st) (WX ad cA tl tx mn sd e0 e1 e2 e3 e4 e5 e6 e7 e8 e9 e10 fr hd nw kp pt hr lr) :=
  g_callVv C (As := [.int v1, .int v2, .int v3]) 3 (c_X0_listen l D A ad cA v1 v2 v3  K h) hT rfl rfl rfl (by decide +kernel) hR hk9 4 WXg4 rfl rfl rfl hcat hdg (fun u hu => kk u.1 u.2.1 u.2.2.1 u.2.2.2.1 u.2.2.2.2.1 u.2.2.2.2.2.1 u.2.2.2.2.2.2.1 u.2.2.2.2.2.2.2.1 u.2.2.2.2.2.2.2.2.1 u.2.2.2.2.2.2.2.2.2.1 u.2.2.2.2.2.2.2.2.2.2 hu)
/-! X2_then -/
abbrev rmX2_then : Room := { frames := 0, cells := 0, slots := 0, locals := 0 }
abbrev QC_X2_then (D : va_G) (A : Nat → Prop) (ad : Nat → Nat) (cA : Nat → ClassId) (tl : Int32) (tx : (Nat → Int32)) (mn : Int32) (sd : (Nat → Int64)) (e0 : Int32) (e1 : Int32) (e2 : Int32) (e3 : Int32) (e4 : Int32) (e5 : Int32) (e6 : Int32) (e7 : Int32) (e8 : Int32) (e9 : Int32) (e10 : Int32) (fr : Int32) (hd : Int32) (nw : (Nat → Int32)) (kp : (Nat → Int32)) (pt : (Nat → Int32)) (hr : (Nat → Nat → Int32)) (lr : (Nat → Nat → Int32)) (Q : Int64 → Prop) : Array Value → State → Outcome → State → Prop := va_Ql (fun (r : Int64) (u : Unit) => Q r ) (fun u t => OKX D (tysX cA) ((fun u : Unit => WX ad cA tl tx mn sd e0 e1 e2 e3 e4 e5 e6 e7 e8 e9 e10 fr hd nw kp pt hr lr) u) A t) A
abbrev QP_X2_then (D : va_G) (A : Nat → Prop) (ad : Nat → Nat) (cA : Nat → ClassId) (tl : Int32) (tx : (Nat → Int32)) (mn : Int32) (sd : (Nat → Int64)) (e0 : Int32) (e1 : Int32) (e2 : Int32) (e3 : Int32) (e4 : Int32) (e5 : Int32) (e6 : Int32) (e7 : Int32) (e8 : Int32) (e9 : Int32) (e10 : Int32) (fr : Int32) (hd : Int32) (nw : (Nat → Int32)) (kp : (Nat → Int32)) (pt : (Nat → Int32)) (hr : (Nat → Nat → Int32)) (lr : (Nat → Nat → Int32)) (Q : Int64 → Prop) (below : List Frame) (args : Array Value) (s : State) : State → Prop := MQ below (QC_X2_then D A ad cA tl tx mn sd e0 e1 e2 e3 e4 e5 e6 e7 e8 e9 e10 fr hd nw kp pt hr lr Q) args s 0 0 A
def B_X2_then_0  (Q : Int64 → Prop)  (v0 : Int64) (v2 : Int32)  : Prop := (Q ((v0 <<< ((7 : Int32).toInt64 &&& 63)) ||| (v2.toInt64)))
def F_X2_then (v0 : Int64) (v2 : Int32)   (Q : Int64 → Prop) : Prop := B_X2_then_0 Q  v0 v2 
set_option maxHeartbeats 4000000 in
set_option maxRecDepth 100000 in
theorem t_B_X2_then_0  {Q : Int64 → Prop} (C : CxX p s m args c D (tysX cA) RX2 cX2_then 3 wsX2_then) (hrt9 : meth.sig.returnType = (some .long)) (hlk : meth.locks = false) (v0 : Int64) (v2 : Int32)   (h : B_X2_then_0  Q  v0 v2) : GoX p l e rmX2_then s m args below meth c D A 3 0 0 (QP_X2_then D A ad cA tl tx mn sd e0 e1 e2 e3 e4 e5 e6 e7 e8 e9 e10 fr hd nw kp pt hr lr Q below args s) 0 [(0, .long v0), (2, .int v2)] [] (WX ad cA tl tx mn sd e0 e1 e2 e3 e4 e5 e6 e7 e8 e9 e10 fr hd nw kp pt hr lr) := by
  replace h : (Q ((v0 <<< ((7 : Int32).toInt64 &&& 63)) ||| (v2.toInt64))) := h
  refine g_lload_n C 0 dX2_then_0 rfl rfl ?_
  refine g_bipush C (7 : Int32) dX2_then_1 (by decide) ?_
  refine g_lshl C dX2_then_3 ?_
  refine g_iload_n C 1 dX2_then_4 rfl rfl ?_
  refine g_i2l C dX2_then_5 ?_
  refine g_lor C dX2_then_6 ?_
  exact g_lret C hrt9 hlk (u := ()) rfl h dX2_then_7
theorem c_X2_then (l : Launch) (D : va_G) (A : Nat → Prop) (ad : Nat → Nat) (cA : Nat → ClassId) (v0 : Int64) (v2 : Int32) {tl : Int32} {tx : (Nat → Int32)} {mn : Int32} {sd : (Nat → Int64)} {e0 : Int32} {e1 : Int32} {e2 : Int32} {e3 : Int32} {e4 : Int32} {e5 : Int32} {e6 : Int32} {e7 : Int32} {e8 : Int32} {e9 : Int32} {e10 : Int32} {fr : Int32} {hd : Int32} {nw : (Nat → Int32)} {kp : (Nat → Int32)} {pt : (Nat → Int32)} {hr : (Nat → Nat → Int32)} {lr : (Nat → Nat → Int32)}  (Q : Int64 → Prop) (h : F_X2_then v0 v2 Q) : Met l yX2_then wsX2_then rmX2_then (va_Pc [.long v0, .int v2] (OKX D (tysX cA) (WX ad cA tl tx mn sd e0 e1 e2 e3 e4 e5 e6 e7 e8 e9 e10 fr hd nw kp pt hr lr) A)) (QC_X2_then D A ad cA tl tx mn sd e0 e1 e2 e3 e4 e5 e6 e7 e8 e9 e10 fr hd nw kp pt hr lr Q) 0 0 A :=
  g_met (own := RX2) (by decide) rfl rfl (Nat.le_of_ble_eq_true rfl) (fun p e s m below meth c C hrt9 hlk _ => g_sub [0, 1] rfl (t_B_X2_then_0 C hrt9 hlk v0 v2   h))
theorem k_X2_then {ws : List Cond} {own : String} {cc : ByteArray} {nL pc index kc ks : Nat} {lv : List (Nat × Value)} {st : List Value} {Q : State → Prop} {R : Room} {K : Int64 → Prop} {v0 : Int64} {v2 : Int32} (C : CxX p s m args c D (tysX cA) own cc nL ws) (hT : GoodIn ws (va_wsS own index yX2_then wsX2_then)) (hR : rmX2_then.frames + 1 ≤ R.frames ∧ 8 + (3 + 11) + rmX2_then.locals ≤ R.locals) (hk9 : kc ≤ R.cells ∧ ks ≤ R.slots) (hcat : (st.map fun v => v.category).sum ≤ 8) (hdg : decode cc pc = .ok (.invokestatic index, 3))  (h : F_X2_then v0 v2 K) (kk : ∀ (r : Int64) , K r → GoX p l e R s m args below meth c D A nL kc ks Q (pc + 3) lv (.long r :: st) (WX ad cA tl tx mn sd e0 e1 e2 e3 e4 e5 e6 e7 e8 e9 e10 fr hd nw kp pt hr lr)) : GoX p l e R s m args below meth c D A nL kc ks Q pc lv (.int v2 :: .long v0 :: st) (WX ad cA tl tx mn sd e0 e1 e2 e3 e4 e5 e6 e7 e8 e9 e10 fr hd nw kp pt hr lr) :=
  g_callSl C (As := [.long v0, .int v2]) 2 (c_X2_then l D A ad cA v0 v2  K h) hT rfl rfl rfl (by decide +kernel) hR hk9 rfl rfl hcat hdg (fun r u hu => kk r  hu)
/-! X2_length -/
abbrev rmX2_length : Room := { frames := 0, cells := 0, slots := 0, locals := 0 }
abbrev QC_X2_length (D : va_G) (A : Nat → Prop) (ad : Nat → Nat) (cA : Nat → ClassId) (tl : Int32) (tx : (Nat → Int32)) (mn : Int32) (sd : (Nat → Int64)) (e0 : Int32) (e1 : Int32) (e2 : Int32) (e3 : Int32) (e4 : Int32) (e5 : Int32) (e6 : Int32) (e7 : Int32) (e8 : Int32) (e9 : Int32) (e10 : Int32) (fr : Int32) (hd : Int32) (nw : (Nat → Int32)) (kp : (Nat → Int32)) (pt : (Nat → Int32)) (hr : (Nat → Nat → Int32)) (lr : (Nat → Nat → Int32)) (Q : Int32 → Prop) : Array Value → State → Outcome → State → Prop := va_Qi (fun (r : Int32) (u : Unit) => Q r ) (fun u t => OKX D (tysX cA) ((fun u : Unit => WX ad cA tl tx mn sd e0 e1 e2 e3 e4 e5 e6 e7 e8 e9 e10 fr hd nw kp pt hr lr) u) A t) A
abbrev QP_X2_length (D : va_G) (A : Nat → Prop) (ad : Nat → Nat) (cA : Nat → ClassId) (tl : Int32) (tx : (Nat → Int32)) (mn : Int32) (sd : (Nat → Int64)) (e0 : Int32) (e1 : Int32) (e2 : Int32) (e3 : Int32) (e4 : Int32) (e5 : Int32) (e6 : Int32) (e7 : Int32) (e8 : Int32) (e9 : Int32) (e10 : Int32) (fr : Int32) (hd : Int32) (nw : (Nat → Int32)) (kp : (Nat → Int32)) (pt : (Nat → Int32)) (hr : (Nat → Nat → Int32)) (lr : (Nat → Nat → Int32)) (Q : Int32 → Prop) (below : List Frame) (args : Array Value) (s : State) : State → Prop := MQ below (QC_X2_length D A ad cA tl tx mn sd e0 e1 e2 e3 e4 e5 e6 e7 e8 e9 e10 fr hd nw kp pt hr lr Q) args s 0 0 A
def B_X2_length_25  (Q : Int32 → Prop)  (v2 : Int32)  : Prop := (Q v2)
noncomputable def L_X2_length_2  (Q : Int32 → Prop)  (n9 : Nat) : Int64 → Int32 → Prop := Nat.rec (motive := fun _ => Int64 → Int32 → Prop) (fun _ _ => False) (fun _ kh2 => fun v0 v2 => (((9 : Int32) ≤ v2 → (B_X2_length_25  Q  v2)) ∧ (¬ (9 : Int32) ≤ v2 → (((lg_cmp ((v0.toUInt64 >>> (((7 : Int32) * v2).toInt64.toUInt64 &&& Int64.toUInt64 63)).toInt64) (0 : Int64)) = 0 → (B_X2_length_25  Q  v2)) ∧ (¬ (lg_cmp ((v0.toUInt64 >>> (((7 : Int32) * v2).toInt64.toUInt64 &&& Int64.toUInt64 63)).toInt64) (0 : Int64)) = 0 → (kh2 v0 (v2 + (1 : Int32)))))))) n9
def B_X2_length_0  (Q : Int32 → Prop)  (v0 : Int64)  : Prop := (∃ n9 : Nat, L_X2_length_2  Q  n9 v0 (0 : Int32))
def F_X2_length (v0 : Int64)   (Q : Int32 → Prop) : Prop := B_X2_length_0 Q  v0 
set_option maxHeartbeats 4000000 in
set_option maxRecDepth 100000 in
theorem t_B_X2_length_25  {Q : Int32 → Prop} (C : CxX p s m args c D (tysX cA) RX2 cX2_length 3 wsX2_length) (hrt9 : meth.sig.returnType = (some .int)) (hlk : meth.locks = false) (v2 : Int32)   (h : B_X2_length_25  Q  v2) : GoX p l e rmX2_length s m args below meth c D A 3 0 0 (QP_X2_length D A ad cA tl tx mn sd e0 e1 e2 e3 e4 e5 e6 e7 e8 e9 e10 fr hd nw kp pt hr lr Q below args s) 25 [(2, .int v2)] [] (WX ad cA tl tx mn sd e0 e1 e2 e3 e4 e5 e6 e7 e8 e9 e10 fr hd nw kp pt hr lr) := by
  replace h : (Q v2) := h
  refine g_iload_n C 0 dX2_length_25 rfl rfl ?_
  exact g_iret C hrt9 hlk (u := ()) rfl h dX2_length_26
set_option maxHeartbeats 4000000 in
set_option maxRecDepth 100000 in
theorem t_L_X2_length_2  {Q : Int32 → Prop} (C : CxX p s m args c D (tysX cA) RX2 cX2_length 3 wsX2_length) (hrt9 : meth.sig.returnType = (some .int)) (hlk : meth.locks = false) (m9 : Nat) : ∀ (v0 : Int64) (v2 : Int32)  , L_X2_length_2  Q  m9 v0 v2 → GoX p l e rmX2_length s m args below meth c D A 3 0 0 (QP_X2_length D A ad cA tl tx mn sd e0 e1 e2 e3 e4 e5 e6 e7 e8 e9 e10 fr hd nw kp pt hr lr Q below args s) 2 [(0, .long v0), (2, .int v2)] [] (WX ad cA tl tx mn sd e0 e1 e2 e3 e4 e5 e6 e7 e8 e9 e10 fr hd nw kp pt hr lr) := by
  induction m9 with
  | zero =>
    intro v0 v2 h
    exact False.elim h
  | succ m9 Hk2 =>
    intro v0 v2 h
    replace h : (((9 : Int32) ≤ v2 → (B_X2_length_25  Q  v2)) ∧ (¬ (9 : Int32) ≤ v2 → (((lg_cmp ((v0.toUInt64 >>> (((7 : Int32) * v2).toInt64.toUInt64 &&& Int64.toUInt64 63)).toInt64) (0 : Int64)) = 0 → (B_X2_length_25  Q  v2)) ∧ (¬ (lg_cmp ((v0.toUInt64 >>> (((7 : Int32) * v2).toInt64.toUInt64 &&& Int64.toUInt64 63)).toInt64) (0 : Int64)) = 0 → ((L_X2_length_2  Q  m9) v0 (v2 + (1 : Int32))))))) := h
    refine g_iload_n C 1 dX2_length_2 rfl rfl ?_
    refine g_bipush C (9 : Int32) dX2_length_3 (by decide) ?_
    refine g_icmp_ge C 25 dX2_length_5 (by decide) (fun c_1 => ?_) (fun c_1 => ?_)
    · replace h := h.1 c_1
      exact g_sub [1] rfl (t_B_X2_length_25 C hrt9 hlk  v2  h)
    · replace h := h.2 c_1
      refine g_lload_n C 0 dX2_length_8 rfl rfl ?_
      refine g_bipush C (7 : Int32) dX2_length_9 (by decide) ?_
      refine g_iload_n C 1 dX2_length_11 rfl rfl ?_
      refine g_imul C dX2_length_12 ?_
      refine g_lushr C dX2_length_13 ?_
      refine g_lconst C (0 : Int64) dX2_length_14 (by decide) ?_
      refine g_lcmp C dX2_length_15 ?_
      refine g_if_eq C 25 dX2_length_16 (by decide) (fun c_2 => ?_) (fun c_2 => ?_)
      · replace h := h.1 c_2
        exact g_sub [1] rfl (t_B_X2_length_25 C hrt9 hlk  v2  h)
      · replace h := h.2 c_2
        refine g_iinc C (v := (v2 + (1 : Int32))) (lv2 := [(2, .int (v2 + (1 : Int32))), (0, .long v0)]) 1 dX2_length_19 rfl rfl (by decide) rfl ?_
        refine g_goto C 2 dX2_length_22 (by decide) ?_
        exact g_sub [1, 0] rfl (Hk2 v0 (v2 + (1 : Int32))  h)
set_option maxHeartbeats 4000000 in
set_option maxRecDepth 100000 in
theorem t_B_X2_length_0  {Q : Int32 → Prop} (C : CxX p s m args c D (tysX cA) RX2 cX2_length 3 wsX2_length) (hrt9 : meth.sig.returnType = (some .int)) (hlk : meth.locks = false) (v0 : Int64)   (h : B_X2_length_0  Q  v0) : GoX p l e rmX2_length s m args below meth c D A 3 0 0 (QP_X2_length D A ad cA tl tx mn sd e0 e1 e2 e3 e4 e5 e6 e7 e8 e9 e10 fr hd nw kp pt hr lr Q below args s) 0 [(0, .long v0)] [] (WX ad cA tl tx mn sd e0 e1 e2 e3 e4 e5 e6 e7 e8 e9 e10 fr hd nw kp pt hr lr) := by
  replace h : (∃ n9 : Nat, L_X2_length_2  Q  n9 v0 (0 : Int32)) := h
  refine g_iconst C (0 : Int32) dX2_length_0 (by decide) ?_
  refine g_istore_n C (lv2 := [(2, .int (0 : Int32)), (0, .long v0)]) dX2_length_1 rfl (by decide) rfl ?_
  obtain ⟨n9, h⟩ := h
  exact g_sub [1, 0] rfl (t_L_X2_length_2 C hrt9 hlk  n9 v0 (0 : Int32)  h)
theorem c_X2_length (l : Launch) (D : va_G) (A : Nat → Prop) (ad : Nat → Nat) (cA : Nat → ClassId) (v0 : Int64) {tl : Int32} {tx : (Nat → Int32)} {mn : Int32} {sd : (Nat → Int64)} {e0 : Int32} {e1 : Int32} {e2 : Int32} {e3 : Int32} {e4 : Int32} {e5 : Int32} {e6 : Int32} {e7 : Int32} {e8 : Int32} {e9 : Int32} {e10 : Int32} {fr : Int32} {hd : Int32} {nw : (Nat → Int32)} {kp : (Nat → Int32)} {pt : (Nat → Int32)} {hr : (Nat → Nat → Int32)} {lr : (Nat → Nat → Int32)}  (Q : Int32 → Prop) (h : F_X2_length v0 Q) : Met l yX2_length wsX2_length rmX2_length (va_Pc [.long v0] (OKX D (tysX cA) (WX ad cA tl tx mn sd e0 e1 e2 e3 e4 e5 e6 e7 e8 e9 e10 fr hd nw kp pt hr lr) A)) (QC_X2_length D A ad cA tl tx mn sd e0 e1 e2 e3 e4 e5 e6 e7 e8 e9 e10 fr hd nw kp pt hr lr Q) 0 0 A :=
  g_met (own := RX2) (by decide) rfl rfl (Nat.le_of_ble_eq_true rfl) (fun p e s m below meth c C hrt9 hlk _ => g_sub [0] rfl (t_B_X2_length_0 C hrt9 hlk v0   h))
theorem k_X2_length {ws : List Cond} {own : String} {cc : ByteArray} {nL pc index kc ks : Nat} {lv : List (Nat × Value)} {st : List Value} {Q : State → Prop} {R : Room} {K : Int32 → Prop} {v0 : Int64} (C : CxX p s m args c D (tysX cA) own cc nL ws) (hT : GoodIn ws (va_wsS own index yX2_length wsX2_length)) (hR : rmX2_length.frames + 1 ≤ R.frames ∧ 8 + (3 + 11) + rmX2_length.locals ≤ R.locals) (hk9 : kc ≤ R.cells ∧ ks ≤ R.slots) (hcat : (st.map fun v => v.category).sum ≤ 8) (hdg : decode cc pc = .ok (.invokestatic index, 3))  (h : F_X2_length v0 K) (kk : ∀ (r : Int32) , K r → GoX p l e R s m args below meth c D A nL kc ks Q (pc + 3) lv (.int r :: st) (WX ad cA tl tx mn sd e0 e1 e2 e3 e4 e5 e6 e7 e8 e9 e10 fr hd nw kp pt hr lr)) : GoX p l e R s m args below meth c D A nL kc ks Q pc lv (.long v0 :: st) (WX ad cA tl tx mn sd e0 e1 e2 e3 e4 e5 e6 e7 e8 e9 e10 fr hd nw kp pt hr lr) :=
  g_callSi C (As := [.long v0]) 1 (c_X2_length l D A ad cA v0  K h) hT rfl rfl rfl (by decide +kernel) hR hk9 rfl rfl hcat hdg (fun r u hu => kk r  hu)
/-! X2_character -/
abbrev rmX2_character : Room := { frames := 0, cells := 0, slots := 0, locals := 0 }
abbrev QC_X2_character (D : va_G) (A : Nat → Prop) (ad : Nat → Nat) (cA : Nat → ClassId) (tl : Int32) (tx : (Nat → Int32)) (mn : Int32) (sd : (Nat → Int64)) (e0 : Int32) (e1 : Int32) (e2 : Int32) (e3 : Int32) (e4 : Int32) (e5 : Int32) (e6 : Int32) (e7 : Int32) (e8 : Int32) (e9 : Int32) (e10 : Int32) (fr : Int32) (hd : Int32) (nw : (Nat → Int32)) (kp : (Nat → Int32)) (pt : (Nat → Int32)) (hr : (Nat → Nat → Int32)) (lr : (Nat → Nat → Int32)) (Q : Int32 → Prop) : Array Value → State → Outcome → State → Prop := va_Qi (fun (r : Int32) (u : Unit) => Q r ) (fun u t => OKX D (tysX cA) ((fun u : Unit => WX ad cA tl tx mn sd e0 e1 e2 e3 e4 e5 e6 e7 e8 e9 e10 fr hd nw kp pt hr lr) u) A t) A
abbrev QP_X2_character (D : va_G) (A : Nat → Prop) (ad : Nat → Nat) (cA : Nat → ClassId) (tl : Int32) (tx : (Nat → Int32)) (mn : Int32) (sd : (Nat → Int64)) (e0 : Int32) (e1 : Int32) (e2 : Int32) (e3 : Int32) (e4 : Int32) (e5 : Int32) (e6 : Int32) (e7 : Int32) (e8 : Int32) (e9 : Int32) (e10 : Int32) (fr : Int32) (hd : Int32) (nw : (Nat → Int32)) (kp : (Nat → Int32)) (pt : (Nat → Int32)) (hr : (Nat → Nat → Int32)) (lr : (Nat → Nat → Int32)) (Q : Int32 → Prop) (below : List Frame) (args : Array Value) (s : State) : State → Prop := MQ below (QC_X2_character D A ad cA tl tx mn sd e0 e1 e2 e3 e4 e5 e6 e7 e8 e9 e10 fr hd nw kp pt hr lr Q) args s 0 0 A
def B_X2_character_24  (Q : Int32 → Prop)  (s0 : Int32)  : Prop := (Q s0)
def B_X2_character_23  (Q : Int32 → Prop)    : Prop := (B_X2_character_24  Q  (0 : Int32))
def B_X2_character_0  (Q : Int32 → Prop)  (v0 : Int64) (v2 : Int32)  : Prop := ((v2 < 0 → (B_X2_character_23  Q  )) ∧ (¬ v2 < 0 → (((9 : Int32) ≤ v2 → (B_X2_character_23  Q  )) ∧ (¬ (9 : Int32) ≤ v2 → (B_X2_character_24  Q  ((((v0.toUInt64 >>> (((7 : Int32) * v2).toInt64.toUInt64 &&& Int64.toUInt64 63)).toInt64).toInt32) &&& (127 : Int32)))))))
def F_X2_character (v0 : Int64) (v2 : Int32)   (Q : Int32 → Prop) : Prop := B_X2_character_0 Q  v0 v2 
set_option maxHeartbeats 4000000 in
set_option maxRecDepth 100000 in
theorem t_B_X2_character_24  {Q : Int32 → Prop} (C : CxX p s m args c D (tysX cA) RX2 cX2_character 3 wsX2_character) (hrt9 : meth.sig.returnType = (some .int)) (hlk : meth.locks = false) (s0 : Int32)   (h : B_X2_character_24  Q  s0) : GoX p l e rmX2_character s m args below meth c D A 3 0 0 (QP_X2_character D A ad cA tl tx mn sd e0 e1 e2 e3 e4 e5 e6 e7 e8 e9 e10 fr hd nw kp pt hr lr Q below args s) 24 [] [.int s0] (WX ad cA tl tx mn sd e0 e1 e2 e3 e4 e5 e6 e7 e8 e9 e10 fr hd nw kp pt hr lr) := by
  replace h : (Q s0) := h
  exact g_iret C hrt9 hlk (u := ()) rfl h dX2_character_24
set_option maxHeartbeats 4000000 in
set_option maxRecDepth 100000 in
theorem t_B_X2_character_23  {Q : Int32 → Prop} (C : CxX p s m args c D (tysX cA) RX2 cX2_character 3 wsX2_character) (hrt9 : meth.sig.returnType = (some .int)) (hlk : meth.locks = false)    (h : B_X2_character_23  Q  ) : GoX p l e rmX2_character s m args below meth c D A 3 0 0 (QP_X2_character D A ad cA tl tx mn sd e0 e1 e2 e3 e4 e5 e6 e7 e8 e9 e10 fr hd nw kp pt hr lr Q below args s) 23 [] [] (WX ad cA tl tx mn sd e0 e1 e2 e3 e4 e5 e6 e7 e8 e9 e10 fr hd nw kp pt hr lr) := by
  replace h : (B_X2_character_24  Q  (0 : Int32)) := h
  refine g_iconst C (0 : Int32) dX2_character_23 (by decide) ?_
  exact g_sub [] rfl (t_B_X2_character_24 C hrt9 hlk  (0 : Int32)  h)
set_option maxHeartbeats 4000000 in
set_option maxRecDepth 100000 in
theorem t_B_X2_character_0  {Q : Int32 → Prop} (C : CxX p s m args c D (tysX cA) RX2 cX2_character 3 wsX2_character) (hrt9 : meth.sig.returnType = (some .int)) (hlk : meth.locks = false) (v0 : Int64) (v2 : Int32)   (h : B_X2_character_0  Q  v0 v2) : GoX p l e rmX2_character s m args below meth c D A 3 0 0 (QP_X2_character D A ad cA tl tx mn sd e0 e1 e2 e3 e4 e5 e6 e7 e8 e9 e10 fr hd nw kp pt hr lr Q below args s) 0 [(0, .long v0), (2, .int v2)] [] (WX ad cA tl tx mn sd e0 e1 e2 e3 e4 e5 e6 e7 e8 e9 e10 fr hd nw kp pt hr lr) := by
  replace h : ((v2 < 0 → (B_X2_character_23  Q  )) ∧ (¬ v2 < 0 → (((9 : Int32) ≤ v2 → (B_X2_character_23  Q  )) ∧ (¬ (9 : Int32) ≤ v2 → (B_X2_character_24  Q  ((((v0.toUInt64 >>> (((7 : Int32) * v2).toInt64.toUInt64 &&& Int64.toUInt64 63)).toInt64).toInt32) &&& (127 : Int32))))))) := h
  refine g_iload_n C 1 dX2_character_0 rfl rfl ?_
  refine g_if_lt C 23 dX2_character_1 (by decide) (fun c_1 => ?_) (fun c_1 => ?_)
  · replace h := h.1 c_1
    exact g_sub [] rfl (t_B_X2_character_23 C hrt9 hlk    h)
  · replace h := h.2 c_1
    refine g_iload_n C 1 dX2_character_4 rfl rfl ?_
    refine g_bipush C (9 : Int32) dX2_character_5 (by decide) ?_
    refine g_icmp_ge C 23 dX2_character_7 (by decide) (fun c_2 => ?_) (fun c_2 => ?_)
    · replace h := h.1 c_2
      exact g_sub [] rfl (t_B_X2_character_23 C hrt9 hlk    h)
    · replace h := h.2 c_2
      refine g_lload_n C 0 dX2_character_10 rfl rfl ?_
      refine g_bipush C (7 : Int32) dX2_character_11 (by decide) ?_
      refine g_iload_n C 1 dX2_character_13 rfl rfl ?_
      refine g_imul C dX2_character_14 ?_
      refine g_lushr C dX2_character_15 ?_
      refine g_l2i C dX2_character_16 ?_
      refine g_bipush C (127 : Int32) dX2_character_17 (by decide) ?_
      refine g_iand C dX2_character_19 ?_
      refine g_goto C 24 dX2_character_20 (by decide) ?_
      exact g_sub [] rfl (t_B_X2_character_24 C hrt9 hlk  ((((v0.toUInt64 >>> (((7 : Int32) * v2).toInt64.toUInt64 &&& Int64.toUInt64 63)).toInt64).toInt32) &&& (127 : Int32))  h)
theorem c_X2_character (l : Launch) (D : va_G) (A : Nat → Prop) (ad : Nat → Nat) (cA : Nat → ClassId) (v0 : Int64) (v2 : Int32) {tl : Int32} {tx : (Nat → Int32)} {mn : Int32} {sd : (Nat → Int64)} {e0 : Int32} {e1 : Int32} {e2 : Int32} {e3 : Int32} {e4 : Int32} {e5 : Int32} {e6 : Int32} {e7 : Int32} {e8 : Int32} {e9 : Int32} {e10 : Int32} {fr : Int32} {hd : Int32} {nw : (Nat → Int32)} {kp : (Nat → Int32)} {pt : (Nat → Int32)} {hr : (Nat → Nat → Int32)} {lr : (Nat → Nat → Int32)}  (Q : Int32 → Prop) (h : F_X2_character v0 v2 Q) : Met l yX2_character wsX2_character rmX2_character (va_Pc [.long v0, .int v2] (OKX D (tysX cA) (WX ad cA tl tx mn sd e0 e1 e2 e3 e4 e5 e6 e7 e8 e9 e10 fr hd nw kp pt hr lr) A)) (QC_X2_character D A ad cA tl tx mn sd e0 e1 e2 e3 e4 e5 e6 e7 e8 e9 e10 fr hd nw kp pt hr lr Q) 0 0 A :=
  g_met (own := RX2) (by decide) rfl rfl (Nat.le_of_ble_eq_true rfl) (fun p e s m below meth c C hrt9 hlk _ => g_sub [0, 1] rfl (t_B_X2_character_0 C hrt9 hlk v0 v2   h))
theorem k_X2_character {ws : List Cond} {own : String} {cc : ByteArray} {nL pc index kc ks : Nat} {lv : List (Nat × Value)} {st : List Value} {Q : State → Prop} {R : Room} {K : Int32 → Prop} {v0 : Int64} {v2 : Int32} (C : CxX p s m args c D (tysX cA) own cc nL ws) (hT : GoodIn ws (va_wsS own index yX2_character wsX2_character)) (hR : rmX2_character.frames + 1 ≤ R.frames ∧ 8 + (3 + 11) + rmX2_character.locals ≤ R.locals) (hk9 : kc ≤ R.cells ∧ ks ≤ R.slots) (hcat : (st.map fun v => v.category).sum ≤ 8) (hdg : decode cc pc = .ok (.invokestatic index, 3))  (h : F_X2_character v0 v2 K) (kk : ∀ (r : Int32) , K r → GoX p l e R s m args below meth c D A nL kc ks Q (pc + 3) lv (.int r :: st) (WX ad cA tl tx mn sd e0 e1 e2 e3 e4 e5 e6 e7 e8 e9 e10 fr hd nw kp pt hr lr)) : GoX p l e R s m args below meth c D A nL kc ks Q pc lv (.int v2 :: .long v0 :: st) (WX ad cA tl tx mn sd e0 e1 e2 e3 e4 e5 e6 e7 e8 e9 e10 fr hd nw kp pt hr lr) :=
  g_callSi C (As := [.long v0, .int v2]) 2 (c_X2_character l D A ad cA v0 v2  K h) hT rfl rfl rfl (by decide +kernel) hR hk9 rfl rfl hcat hdg (fun r u hu => kk r  hu)
/-! X2_has -/
abbrev rmX2_has : Room := { frames := 1, cells := 0, slots := 0, locals := 22 }
abbrev QC_X2_has (D : va_G) (A : Nat → Prop) (ad : Nat → Nat) (cA : Nat → ClassId) (tl : Int32) (tx : (Nat → Int32)) (mn : Int32) (sd : (Nat → Int64)) (e0 : Int32) (e1 : Int32) (e2 : Int32) (e3 : Int32) (e4 : Int32) (e5 : Int32) (e6 : Int32) (e7 : Int32) (e8 : Int32) (e9 : Int32) (e10 : Int32) (fr : Int32) (hd : Int32) (nw : (Nat → Int32)) (kp : (Nat → Int32)) (pt : (Nat → Int32)) (hr : (Nat → Nat → Int32)) (lr : (Nat → Nat → Int32)) (Q : Int32 → Prop) : Array Value → State → Outcome → State → Prop := va_Qi (fun (r : Int32) (u : Unit) => Q r ) (fun u t => OKX D (tysX cA) ((fun u : Unit => WX ad cA tl tx mn sd e0 e1 e2 e3 e4 e5 e6 e7 e8 e9 e10 fr hd nw kp pt hr lr) u) A t) A
abbrev QP_X2_has (D : va_G) (A : Nat → Prop) (ad : Nat → Nat) (cA : Nat → ClassId) (tl : Int32) (tx : (Nat → Int32)) (mn : Int32) (sd : (Nat → Int64)) (e0 : Int32) (e1 : Int32) (e2 : Int32) (e3 : Int32) (e4 : Int32) (e5 : Int32) (e6 : Int32) (e7 : Int32) (e8 : Int32) (e9 : Int32) (e10 : Int32) (fr : Int32) (hd : Int32) (nw : (Nat → Int32)) (kp : (Nat → Int32)) (pt : (Nat → Int32)) (hr : (Nat → Nat → Int32)) (lr : (Nat → Nat → Int32)) (Q : Int32 → Prop) (below : List Frame) (args : Array Value) (s : State) : State → Prop := MQ below (QC_X2_has D A ad cA tl tx mn sd e0 e1 e2 e3 e4 e5 e6 e7 e8 e9 e10 fr hd nw kp pt hr lr Q) args s 0 0 A
noncomputable def L_X2_has_2  (Q : Int32 → Prop)  (n9 : Nat) : Int64 → Int32 → Int32 → Prop := Nat.rec (motive := fun _ => Int64 → Int32 → Int32 → Prop) (fun _ _ _ => False) (fun _ kh2 => fun v0 v2 v3 => (((9 : Int32) ≤ v3 → (Q (0 : Int32))) ∧ (¬ (9 : Int32) ≤ v3 → (F_X2_character v0 v3 (fun r_2 => ((r_2 = v2 → (Q (1 : Int32))) ∧ (¬ r_2 = v2 → (kh2 v0 v2 (v3 + (1 : Int32)))))))))) n9
def B_X2_has_0  (Q : Int32 → Prop)  (v0 : Int64) (v2 : Int32)  : Prop := (∃ n9 : Nat, L_X2_has_2  Q  n9 v0 v2 (0 : Int32))
def F_X2_has (v0 : Int64) (v2 : Int32)   (Q : Int32 → Prop) : Prop := B_X2_has_0 Q  v0 v2 
set_option maxHeartbeats 4000000 in
set_option maxRecDepth 100000 in
theorem t_L_X2_has_2  {Q : Int32 → Prop} (C : CxX p s m args c D (tysX cA) RX2 cX2_has 4 wsX2_has) (hrt9 : meth.sig.returnType = (some .boolean)) (hlk : meth.locks = false) (m9 : Nat) : ∀ (v0 : Int64) (v2 : Int32) (v3 : Int32)  , L_X2_has_2  Q  m9 v0 v2 v3 → GoX p l e rmX2_has s m args below meth c D A 4 0 0 (QP_X2_has D A ad cA tl tx mn sd e0 e1 e2 e3 e4 e5 e6 e7 e8 e9 e10 fr hd nw kp pt hr lr Q below args s) 2 [(0, .long v0), (2, .int v2), (3, .int v3)] [] (WX ad cA tl tx mn sd e0 e1 e2 e3 e4 e5 e6 e7 e8 e9 e10 fr hd nw kp pt hr lr) := by
  induction m9 with
  | zero =>
    intro v0 v2 v3 h
    exact False.elim h
  | succ m9 Hk2 =>
    intro v0 v2 v3 h
    replace h : (((9 : Int32) ≤ v3 → (Q (0 : Int32))) ∧ (¬ (9 : Int32) ≤ v3 → (F_X2_character v0 v3 (fun r_2 => ((r_2 = v2 → (Q (1 : Int32))) ∧ (¬ r_2 = v2 → ((L_X2_has_2  Q  m9) v0 v2 (v3 + (1 : Int32))))))))) := h
    refine g_iload_n C 2 dX2_has_2 rfl rfl ?_
    refine g_bipush C (9 : Int32) dX2_has_3 (by decide) ?_
    refine g_icmp_ge C 25 dX2_has_5 (by decide) (fun c_1 => ?_) (fun c_1 => ?_)
    · replace h := h.1 c_1
      refine g_iconst C (0 : Int32) dX2_has_25 (by decide) ?_
      exact g_zret C hrt9 hlk rfl (u := ()) rfl h dX2_has_26
    · replace h := h.2 c_1
      refine g_lload_n C 0 dX2_has_8 rfl rfl ?_
      refine g_iload_n C 2 dX2_has_9 rfl rfl ?_
      refine k_X2_character C gX2_has_X2_character ⟨Nat.le_of_ble_eq_true rfl, Nat.le_of_ble_eq_true rfl⟩ ⟨Nat.zero_le _, Nat.zero_le _⟩ (Nat.le_of_ble_eq_true rfl) dX2_has_10  h (fun r_2 h => ?_)
      refine g_iload_n C 1 dX2_has_13 rfl rfl ?_
      refine g_icmp_ne C 19 dX2_has_14 (by decide) (fun c_3 => ?_) (fun c_3 => ?_)
      · replace h := h.2 c_3
        refine g_iinc C (v := (v3 + (1 : Int32))) (lv2 := [(3, .int (v3 + (1 : Int32))), (0, .long v0), (2, .int v2)]) 2 dX2_has_19 rfl rfl (by decide) rfl ?_
        refine g_goto C 2 dX2_has_22 (by decide) ?_
        exact g_sub [1, 2, 0] rfl (Hk2 v0 v2 (v3 + (1 : Int32))  h)
      · replace h := h.1 c_3
        refine g_iconst C (1 : Int32) dX2_has_17 (by decide) ?_
        exact g_zret C hrt9 hlk rfl (u := ()) rfl h dX2_has_18
set_option maxHeartbeats 4000000 in
set_option maxRecDepth 100000 in
theorem t_B_X2_has_0  {Q : Int32 → Prop} (C : CxX p s m args c D (tysX cA) RX2 cX2_has 4 wsX2_has) (hrt9 : meth.sig.returnType = (some .boolean)) (hlk : meth.locks = false) (v0 : Int64) (v2 : Int32)   (h : B_X2_has_0  Q  v0 v2) : GoX p l e rmX2_has s m args below meth c D A 4 0 0 (QP_X2_has D A ad cA tl tx mn sd e0 e1 e2 e3 e4 e5 e6 e7 e8 e9 e10 fr hd nw kp pt hr lr Q below args s) 0 [(0, .long v0), (2, .int v2)] [] (WX ad cA tl tx mn sd e0 e1 e2 e3 e4 e5 e6 e7 e8 e9 e10 fr hd nw kp pt hr lr) := by
  replace h : (∃ n9 : Nat, L_X2_has_2  Q  n9 v0 v2 (0 : Int32)) := h
  refine g_iconst C (0 : Int32) dX2_has_0 (by decide) ?_
  refine g_istore_n C (lv2 := [(3, .int (0 : Int32)), (0, .long v0), (2, .int v2)]) dX2_has_1 rfl (by decide) rfl ?_
  obtain ⟨n9, h⟩ := h
  exact g_sub [1, 2, 0] rfl (t_L_X2_has_2 C hrt9 hlk  n9 v0 v2 (0 : Int32)  h)
theorem c_X2_has (l : Launch) (D : va_G) (A : Nat → Prop) (ad : Nat → Nat) (cA : Nat → ClassId) (v0 : Int64) (v2 : Int32) {tl : Int32} {tx : (Nat → Int32)} {mn : Int32} {sd : (Nat → Int64)} {e0 : Int32} {e1 : Int32} {e2 : Int32} {e3 : Int32} {e4 : Int32} {e5 : Int32} {e6 : Int32} {e7 : Int32} {e8 : Int32} {e9 : Int32} {e10 : Int32} {fr : Int32} {hd : Int32} {nw : (Nat → Int32)} {kp : (Nat → Int32)} {pt : (Nat → Int32)} {hr : (Nat → Nat → Int32)} {lr : (Nat → Nat → Int32)}  (Q : Int32 → Prop) (h : F_X2_has v0 v2 Q) : Met l yX2_has wsX2_has rmX2_has (va_Pc [.long v0, .int v2] (OKX D (tysX cA) (WX ad cA tl tx mn sd e0 e1 e2 e3 e4 e5 e6 e7 e8 e9 e10 fr hd nw kp pt hr lr) A)) (QC_X2_has D A ad cA tl tx mn sd e0 e1 e2 e3 e4 e5 e6 e7 e8 e9 e10 fr hd nw kp pt hr lr Q) 0 0 A :=
  g_met (own := RX2) (by decide) rfl rfl (Nat.le_of_ble_eq_true rfl) (fun p e s m below meth c C hrt9 hlk _ => g_sub [0, 1] rfl (t_B_X2_has_0 C hrt9 hlk v0 v2   h))
theorem k_X2_has {ws : List Cond} {own : String} {cc : ByteArray} {nL pc index kc ks : Nat} {lv : List (Nat × Value)} {st : List Value} {Q : State → Prop} {R : Room} {K : Int32 → Prop} {v0 : Int64} {v2 : Int32} (C : CxX p s m args c D (tysX cA) own cc nL ws) (hT : GoodIn ws (va_wsS own index yX2_has wsX2_has)) (hR : rmX2_has.frames + 1 ≤ R.frames ∧ 8 + (4 + 11) + rmX2_has.locals ≤ R.locals) (hk9 : kc ≤ R.cells ∧ ks ≤ R.slots) (hcat : (st.map fun v => v.category).sum ≤ 8) (hdg : decode cc pc = .ok (.invokestatic index, 3))  (h : F_X2_has v0 v2 K) (kk : ∀ (r : Int32) , K r → GoX p l e R s m args below meth c D A nL kc ks Q (pc + 3) lv (.int r :: st) (WX ad cA tl tx mn sd e0 e1 e2 e3 e4 e5 e6 e7 e8 e9 e10 fr hd nw kp pt hr lr)) : GoX p l e R s m args below meth c D A nL kc ks Q pc lv (.int v2 :: .long v0 :: st) (WX ad cA tl tx mn sd e0 e1 e2 e3 e4 e5 e6 e7 e8 e9 e10 fr hd nw kp pt hr lr) :=
  g_callSi C (As := [.long v0, .int v2]) 2 (c_X2_has l D A ad cA v0 v2  K h) hT rfl rfl rfl (by decide +kernel) hR hk9 rfl rfl hcat hdg (fun r u hu => kk r  hu)
/-! X0_isComplete -/
abbrev rmX0_isComplete : Room := { frames := 0, cells := 0, slots := 0, locals := 0 }
abbrev QC_X0_isComplete (D : va_G) (A : Nat → Prop) (ad : Nat → Nat) (cA : Nat → ClassId) (tl : Int32) (tx : (Nat → Int32)) (mn : Int32) (sd : (Nat → Int64)) (e0 : Int32) (e1 : Int32) (e2 : Int32) (e3 : Int32) (e4 : Int32) (e5 : Int32) (e6 : Int32) (e7 : Int32) (e8 : Int32) (e9 : Int32) (e10 : Int32) (fr : Int32) (hd : Int32) (nw : (Nat → Int32)) (kp : (Nat → Int32)) (pt : (Nat → Int32)) (hr : (Nat → Nat → Int32)) (lr : (Nat → Nat → Int32)) (Q : Int32 → Prop) : Array Value → State → Outcome → State → Prop := va_Qi (fun (r : Int32) (u : Unit) => Q r ) (fun u t => OKX D (tysX cA) ((fun u : Unit => WX ad cA tl tx mn sd e0 e1 e2 e3 e4 e5 e6 e7 e8 e9 e10 fr hd nw kp pt hr lr) u) A t) A
abbrev QP_X0_isComplete (D : va_G) (A : Nat → Prop) (ad : Nat → Nat) (cA : Nat → ClassId) (tl : Int32) (tx : (Nat → Int32)) (mn : Int32) (sd : (Nat → Int64)) (e0 : Int32) (e1 : Int32) (e2 : Int32) (e3 : Int32) (e4 : Int32) (e5 : Int32) (e6 : Int32) (e7 : Int32) (e8 : Int32) (e9 : Int32) (e10 : Int32) (fr : Int32) (hd : Int32) (nw : (Nat → Int32)) (kp : (Nat → Int32)) (pt : (Nat → Int32)) (hr : (Nat → Nat → Int32)) (lr : (Nat → Nat → Int32)) (Q : Int32 → Prop) (below : List Frame) (args : Array Value) (s : State) : State → Prop := MQ below (QC_X0_isComplete D A ad cA tl tx mn sd e0 e1 e2 e3 e4 e5 e6 e7 e8 e9 e10 fr hd nw kp pt hr lr Q) args s 0 0 A
def B_X0_isComplete_47  (Q : Int32 → Prop) (e3 : Int32) (s0 : Int32)  : Prop := (isBo s0 ∧ (Q s0))
def B_X0_isComplete_42  (Q : Int32 → Prop) (e3 : Int32)   : Prop := (B_X0_isComplete_47  Q e3 (1 : Int32))
def B_X0_isComplete_0  (Q : Int32 → Prop) (e3 : Int32)   : Prop := ((e3 = (3 : Int32) → (B_X0_isComplete_42  Q e3 )) ∧ (¬ e3 = (3 : Int32) → ((e3 = (4 : Int32) → (B_X0_isComplete_42  Q e3 )) ∧ (¬ e3 = (4 : Int32) → ((e3 = (5 : Int32) → (B_X0_isComplete_42  Q e3 )) ∧ (¬ e3 = (5 : Int32) → ((e3 = (6 : Int32) → (B_X0_isComplete_42  Q e3 )) ∧ (¬ e3 = (6 : Int32) → ((e3 = (11 : Int32) → (B_X0_isComplete_42  Q e3 )) ∧ (¬ e3 = (11 : Int32) → (B_X0_isComplete_47  Q e3 (0 : Int32))))))))))))
def F_X0_isComplete  (e3 : Int32)  (Q : Int32 → Prop) : Prop := B_X0_isComplete_0 Q e3  
theorem lkX0_isComplete_19 : Cond.fieldLink RX0 19 (TX0 3).1 (TX0 3).2.1 (TX0 3).2.2.1 ∈ wsX0_isComplete := by decide +kernel
theorem inX0_isComplete_0 : ∀ q ∈ u_ws RX0 TX0 11, q ∈ wsX0_isComplete := by decide +kernel
set_option maxHeartbeats 4000000 in
set_option maxRecDepth 100000 in
theorem t_B_X0_isComplete_47  {Q : Int32 → Prop} (C : CxX p s m args c D (tysX cA) RX0 cX0_isComplete 1 wsX0_isComplete) (hrt9 : meth.sig.returnType = (some .boolean)) (hlk : meth.locks = false) (s0 : Int32)   (h : B_X0_isComplete_47  Q e3 s0) : GoX p l e rmX0_isComplete s m args below meth c D A 1 0 0 (QP_X0_isComplete D A ad cA tl tx mn sd e0 e1 e2 e3 e4 e5 e6 e7 e8 e9 e10 fr hd nw kp pt hr lr Q below args s) 47 [] [.int s0] (WX ad cA tl tx mn sd e0 e1 e2 e3 e4 e5 e6 e7 e8 e9 e10 fr hd nw kp pt hr lr) := by
  replace h : (isBo s0 ∧ (Q s0)) := h
  exact g_zret C hrt9 hlk h.1.n (u := ()) rfl h.2 dX0_isComplete_47
set_option maxHeartbeats 4000000 in
set_option maxRecDepth 100000 in
theorem t_B_X0_isComplete_42  {Q : Int32 → Prop} (C : CxX p s m args c D (tysX cA) RX0 cX0_isComplete 1 wsX0_isComplete) (hrt9 : meth.sig.returnType = (some .boolean)) (hlk : meth.locks = false)    (h : B_X0_isComplete_42  Q e3 ) : GoX p l e rmX0_isComplete s m args below meth c D A 1 0 0 (QP_X0_isComplete D A ad cA tl tx mn sd e0 e1 e2 e3 e4 e5 e6 e7 e8 e9 e10 fr hd nw kp pt hr lr Q below args s) 42 [] [] (WX ad cA tl tx mn sd e0 e1 e2 e3 e4 e5 e6 e7 e8 e9 e10 fr hd nw kp pt hr lr) := by
  replace h : (B_X0_isComplete_47  Q e3 (1 : Int32)) := h
  refine g_iconst C (1 : Int32) dX0_isComplete_42 (by decide) ?_
  refine g_goto C 47 dX0_isComplete_43 (by decide) ?_
  exact g_sub [] rfl (t_B_X0_isComplete_47 C hrt9 hlk  (1 : Int32)  h)
set_option maxHeartbeats 4000000 in
set_option maxRecDepth 100000 in
theorem t_B_X0_isComplete_0  {Q : Int32 → Prop} (C : CxX p s m args c D (tysX cA) RX0 cX0_isComplete 1 wsX0_isComplete) (hrt9 : meth.sig.returnType = (some .boolean)) (hlk : meth.locks = false)    (h : B_X0_isComplete_0  Q e3 ) : GoX p l e rmX0_isComplete s m args below meth c D A 1 0 0 (QP_X0_isComplete D A ad cA tl tx mn sd e0 e1 e2 e3 e4 e5 e6 e7 e8 e9 e10 fr hd nw kp pt hr lr Q below args s) 0 [(0, .ref (ad 4))] [] (WX ad cA tl tx mn sd e0 e1 e2 e3 e4 e5 e6 e7 e8 e9 e10 fr hd nw kp pt hr lr) := by
  replace h : ((e3 = (3 : Int32) → (B_X0_isComplete_42  Q e3 )) ∧ (¬ e3 = (3 : Int32) → ((e3 = (4 : Int32) → (B_X0_isComplete_42  Q e3 )) ∧ (¬ e3 = (4 : Int32) → ((e3 = (5 : Int32) → (B_X0_isComplete_42  Q e3 )) ∧ (¬ e3 = (5 : Int32) → ((e3 = (6 : Int32) → (B_X0_isComplete_42  Q e3 )) ∧ (¬ e3 = (6 : Int32) → ((e3 = (11 : Int32) → (B_X0_isComplete_42  Q e3 )) ∧ (¬ e3 = (11 : Int32) → (B_X0_isComplete_47  Q e3 (0 : Int32)))))))))))) := h
  refine g_aload_n C 0 dX0_isComplete_0 rfl rfl ?_
  refine g_get C inX0_isComplete_0 4 WXg4 rfl 3 (by decide) lkX0_isComplete_19 rfl dX0_isComplete_1 ?_
  refine g_iconst C (3 : Int32) dX0_isComplete_4 (by decide) ?_
  refine g_icmp_eq C 42 dX0_isComplete_5 (by decide) (fun c_1 => ?_) (fun c_1 => ?_)
  · replace h := h.1 c_1
    exact g_sub [] rfl (t_B_X0_isComplete_42 C hrt9 hlk    h)
  · replace h := h.2 c_1
    refine g_aload_n C 0 dX0_isComplete_8 rfl rfl ?_
    refine g_get C inX0_isComplete_0 4 WXg4 rfl 3 (by decide) lkX0_isComplete_19 rfl dX0_isComplete_9 ?_
    refine g_iconst C (4 : Int32) dX0_isComplete_12 (by decide) ?_
    refine g_icmp_eq C 42 dX0_isComplete_13 (by decide) (fun c_2 => ?_) (fun c_2 => ?_)
    · replace h := h.1 c_2
      exact g_sub [] rfl (t_B_X0_isComplete_42 C hrt9 hlk    h)
    · replace h := h.2 c_2
      refine g_aload_n C 0 dX0_isComplete_16 rfl rfl ?_
      refine g_get C inX0_isComplete_0 4 WXg4 rfl 3 (by decide) lkX0_isComplete_19 rfl dX0_isComplete_17 ?_
      refine g_iconst C (5 : Int32) dX0_isComplete_20 (by decide) ?_
      refine g_icmp_eq C 42 dX0_isComplete_21 (by decide) (fun c_3 => ?_) (fun c_3 => ?_)
      · replace h := h.1 c_3
        exact g_sub [] rfl (t_B_X0_isComplete_42 C hrt9 hlk    h)
      · replace h := h.2 c_3
        refine g_aload_n C 0 dX0_isComplete_24 rfl rfl ?_
        refine g_get C inX0_isComplete_0 4 WXg4 rfl 3 (by decide) lkX0_isComplete_19 rfl dX0_isComplete_25 ?_
        refine g_bipush C (6 : Int32) dX0_isComplete_28 (by decide) ?_
        refine g_icmp_eq C 42 dX0_isComplete_30 (by decide) (fun c_4 => ?_) (fun c_4 => ?_)
        · replace h := h.1 c_4
          exact g_sub [] rfl (t_B_X0_isComplete_42 C hrt9 hlk    h)
        · replace h := h.2 c_4
          refine g_aload_n C 0 dX0_isComplete_33 rfl rfl ?_
          refine g_get C inX0_isComplete_0 4 WXg4 rfl 3 (by decide) lkX0_isComplete_19 rfl dX0_isComplete_34 ?_
          refine g_bipush C (11 : Int32) dX0_isComplete_37 (by decide) ?_
          refine g_icmp_ne C 46 dX0_isComplete_39 (by decide) (fun c_5 => ?_) (fun c_5 => ?_)
          · replace h := h.2 c_5
            refine g_iconst C (0 : Int32) dX0_isComplete_46 (by decide) ?_
            exact g_sub [] rfl (t_B_X0_isComplete_47 C hrt9 hlk  (0 : Int32)  h)
          · replace h := h.1 c_5
            exact g_sub [] rfl (t_B_X0_isComplete_42 C hrt9 hlk    h)
theorem c_X0_isComplete (l : Launch) (D : va_G) (A : Nat → Prop) (ad : Nat → Nat) (cA : Nat → ClassId)  {tl : Int32} {tx : (Nat → Int32)} {mn : Int32} {sd : (Nat → Int64)} {e0 : Int32} {e1 : Int32} {e2 : Int32} {e3 : Int32} {e4 : Int32} {e5 : Int32} {e6 : Int32} {e7 : Int32} {e8 : Int32} {e9 : Int32} {e10 : Int32} {fr : Int32} {hd : Int32} {nw : (Nat → Int32)} {kp : (Nat → Int32)} {pt : (Nat → Int32)} {hr : (Nat → Nat → Int32)} {lr : (Nat → Nat → Int32)}  (Q : Int32 → Prop) (h : F_X0_isComplete e3 Q) : Met l yX0_isComplete wsX0_isComplete rmX0_isComplete (va_Pc [.ref (ad 4)] (OKX D (tysX cA) (WX ad cA tl tx mn sd e0 e1 e2 e3 e4 e5 e6 e7 e8 e9 e10 fr hd nw kp pt hr lr) A)) (QC_X0_isComplete D A ad cA tl tx mn sd e0 e1 e2 e3 e4 e5 e6 e7 e8 e9 e10 fr hd nw kp pt hr lr Q) 0 0 A :=
  g_met (own := RX0) (by decide) rfl rfl (Nat.le_of_ble_eq_true rfl) (fun p e s m below meth c C hrt9 hlk _ => g_sub [0] rfl (t_B_X0_isComplete_0 C hrt9 hlk    h))
theorem k_X0_isComplete {ws : List Cond} {own : String} {cc : ByteArray} {nL pc index kc ks : Nat} {lv : List (Nat × Value)} {st : List Value} {Q : State → Prop} {R : Room} {K : Int32 → Prop}  (C : CxX p s m args c D (tysX cA) own cc nL ws) (hT : GoodIn ws (wsV own index RX0 yX0_isComplete wsX0_isComplete)) (hR : rmX0_isComplete.frames + 1 ≤ R.frames ∧ 8 + (1 + 11) + rmX0_isComplete.locals ≤ R.locals) (hk9 : kc ≤ R.cells ∧ ks ≤ R.slots) (hcat : (st.map fun v => v.category).sum ≤ 8) (hdg : decode cc pc = .ok (.invokevirtual index, 3))  (h : F_X0_isComplete e3 K) (kk : ∀ (r : Int32) , K r → GoX p l e R s m args below meth c D A nL kc ks Q (pc + 3) lv (.int r :: st) (WX ad cA tl tx mn sd e0 e1 e2 e3 e4 e5 e6 e7 e8 e9 e10 fr hd nw kp pt hr lr)) : GoX p l e R s m args below meth c D A nL kc ks Q pc lv (.ref (ad 4) :: st) (WX ad cA tl tx mn sd e0 e1 e2 e3 e4 e5 e6 e7 e8 e9 e10 fr hd nw kp pt hr lr) :=
  g_callVi C (As := []) 0 (c_X0_isComplete l D A ad cA   K h) hT rfl rfl rfl (by decide +kernel) hR hk9 4 WXg4 rfl rfl rfl hcat hdg (fun r u hu => kk r  hu)
/-! X0_number -/
abbrev rmX0_number : Room := { frames := 0, cells := 0, slots := 0, locals := 0 }
abbrev QC_X0_number (D : va_G) (A : Nat → Prop) (ad : Nat → Nat) (cA : Nat → ClassId) (tl : Int32) (tx : (Nat → Int32)) (mn : Int32) (sd : (Nat → Int64)) (e0 : Int32) (e1 : Int32) (e2 : Int32) (e3 : Int32) (e4 : Int32) (e5 : Int32) (e6 : Int32) (e7 : Int32) (e8 : Int32) (e9 : Int32) (e10 : Int32) (fr : Int32) (hd : Int32) (nw : (Nat → Int32)) (kp : (Nat → Int32)) (pt : (Nat → Int32)) (hr : (Nat → Nat → Int32)) (lr : (Nat → Nat → Int32)) (Q : Int32 → Prop) : Array Value → State → Outcome → State → Prop := va_Qi (fun (r : Int32) (u : Unit) => Q r ) (fun u t => OKX D (tysX cA) ((fun u : Unit => WX ad cA tl tx mn sd e0 e1 e2 e3 e4 e5 e6 e7 e8 e9 e10 fr hd nw kp pt hr lr) u) A t) A
abbrev QP_X0_number (D : va_G) (A : Nat → Prop) (ad : Nat → Nat) (cA : Nat → ClassId) (tl : Int32) (tx : (Nat → Int32)) (mn : Int32) (sd : (Nat → Int64)) (e0 : Int32) (e1 : Int32) (e2 : Int32) (e3 : Int32) (e4 : Int32) (e5 : Int32) (e6 : Int32) (e7 : Int32) (e8 : Int32) (e9 : Int32) (e10 : Int32) (fr : Int32) (hd : Int32) (nw : (Nat → Int32)) (kp : (Nat → Int32)) (pt : (Nat → Int32)) (hr : (Nat → Nat → Int32)) (lr : (Nat → Nat → Int32)) (Q : Int32 → Prop) (below : List Frame) (args : Array Value) (s : State) : State → Prop := MQ below (QC_X0_number D A ad cA tl tx mn sd e0 e1 e2 e3 e4 e5 e6 e7 e8 e9 e10 fr hd nw kp pt hr lr Q) args s 0 0 A
def B_X0_number_35  (Q : Int32 → Prop) (e1 : Int32) (e6 : Int32) (e8 : Int32) (e9 : Int32) (e10 : Int32) (s0 : Int32) (s1 : Int32)  : Prop := (Q (s0 + s1))
def B_X0_number_31  (Q : Int32 → Prop) (e1 : Int32) (e6 : Int32) (e8 : Int32) (e9 : Int32) (e10 : Int32) (s0 : Int32)  : Prop := (B_X0_number_35  Q e1 e6 e8 e9 e10 s0 e10)
def B_X0_number_0  (Q : Int32 → Prop) (e1 : Int32) (e6 : Int32) (e8 : Int32) (e9 : Int32) (e10 : Int32)   : Prop := ((e6 = 0 → (B_X0_number_31  Q e1 e6 e8 e9 e10 (e8 + e9))) ∧ (¬ e6 = 0 → ((e1 = 0 → (B_X0_number_31  Q e1 e6 e8 e9 e10 (e8 + e9))) ∧ (¬ e1 = 0 → (B_X0_number_35  Q e1 e6 e8 e9 e10 (e8 + e9) (-e10))))))
def F_X0_number  (e1 : Int32) (e6 : Int32) (e8 : Int32) (e9 : Int32) (e10 : Int32)  (Q : Int32 → Prop) : Prop := B_X0_number_0 Q e1 e6 e8 e9 e10  
theorem lkX0_number_13 : Cond.fieldLink RX0 13 (TX0 1).1 (TX0 1).2.1 (TX0 1).2.2.1 ∈ wsX0_number := by decide +kernel
theorem lkX0_number_29 : Cond.fieldLink RX0 29 (TX0 6).1 (TX0 6).2.1 (TX0 6).2.2.1 ∈ wsX0_number := by decide +kernel
theorem lkX0_number_38 : Cond.fieldLink RX0 38 (TX0 9).1 (TX0 9).2.1 (TX0 9).2.2.1 ∈ wsX0_number := by decide +kernel
theorem lkX0_number_35 : Cond.fieldLink RX0 35 (TX0 8).1 (TX0 8).2.1 (TX0 8).2.2.1 ∈ wsX0_number := by decide +kernel
theorem lkX0_number_41 : Cond.fieldLink RX0 41 (TX0 10).1 (TX0 10).2.1 (TX0 10).2.2.1 ∈ wsX0_number := by decide +kernel
theorem inX0_number_0 : ∀ q ∈ u_ws RX0 TX0 11, q ∈ wsX0_number := by decide +kernel
set_option maxHeartbeats 4000000 in
set_option maxRecDepth 100000 in
theorem t_B_X0_number_35  {Q : Int32 → Prop} (C : CxX p s m args c D (tysX cA) RX0 cX0_number 1 wsX0_number) (hrt9 : meth.sig.returnType = (some .int)) (hlk : meth.locks = false) (s0 : Int32) (s1 : Int32)   (h : B_X0_number_35  Q e1 e6 e8 e9 e10 s0 s1) : GoX p l e rmX0_number s m args below meth c D A 1 0 0 (QP_X0_number D A ad cA tl tx mn sd e0 e1 e2 e3 e4 e5 e6 e7 e8 e9 e10 fr hd nw kp pt hr lr Q below args s) 35 [] [.int s1, .int s0] (WX ad cA tl tx mn sd e0 e1 e2 e3 e4 e5 e6 e7 e8 e9 e10 fr hd nw kp pt hr lr) := by
  replace h : (Q (s0 + s1)) := h
  refine g_iadd C dX0_number_35 ?_
  exact g_iret C hrt9 hlk (u := ()) rfl h dX0_number_36
set_option maxHeartbeats 4000000 in
set_option maxRecDepth 100000 in
theorem t_B_X0_number_31  {Q : Int32 → Prop} (C : CxX p s m args c D (tysX cA) RX0 cX0_number 1 wsX0_number) (hrt9 : meth.sig.returnType = (some .int)) (hlk : meth.locks = false) (s0 : Int32)   (h : B_X0_number_31  Q e1 e6 e8 e9 e10 s0) : GoX p l e rmX0_number s m args below meth c D A 1 0 0 (QP_X0_number D A ad cA tl tx mn sd e0 e1 e2 e3 e4 e5 e6 e7 e8 e9 e10 fr hd nw kp pt hr lr Q below args s) 31 [(0, .ref (ad 4))] [.int s0] (WX ad cA tl tx mn sd e0 e1 e2 e3 e4 e5 e6 e7 e8 e9 e10 fr hd nw kp pt hr lr) := by
  replace h : (B_X0_number_35  Q e1 e6 e8 e9 e10 s0 e10) := h
  refine g_aload_n C 0 dX0_number_31 rfl rfl ?_
  refine g_get C inX0_number_0 4 WXg4 rfl 10 (by decide) lkX0_number_41 rfl dX0_number_32 ?_
  exact g_sub [] rfl (t_B_X0_number_35 C hrt9 hlk  s0 e10  h)
set_option maxHeartbeats 4000000 in
set_option maxRecDepth 100000 in
theorem t_B_X0_number_0  {Q : Int32 → Prop} (C : CxX p s m args c D (tysX cA) RX0 cX0_number 1 wsX0_number) (hrt9 : meth.sig.returnType = (some .int)) (hlk : meth.locks = false)    (h : B_X0_number_0  Q e1 e6 e8 e9 e10 ) : GoX p l e rmX0_number s m args below meth c D A 1 0 0 (QP_X0_number D A ad cA tl tx mn sd e0 e1 e2 e3 e4 e5 e6 e7 e8 e9 e10 fr hd nw kp pt hr lr Q below args s) 0 [(0, .ref (ad 4))] [] (WX ad cA tl tx mn sd e0 e1 e2 e3 e4 e5 e6 e7 e8 e9 e10 fr hd nw kp pt hr lr) := by
  replace h : ((e6 = 0 → (B_X0_number_31  Q e1 e6 e8 e9 e10 (e8 + e9))) ∧ (¬ e6 = 0 → ((e1 = 0 → (B_X0_number_31  Q e1 e6 e8 e9 e10 (e8 + e9))) ∧ (¬ e1 = 0 → (B_X0_number_35  Q e1 e6 e8 e9 e10 (e8 + e9) (-e10)))))) := h
  refine g_aload_n C 0 dX0_number_0 rfl rfl ?_
  refine g_get C inX0_number_0 4 WXg4 rfl 8 (by decide) lkX0_number_35 rfl dX0_number_1 ?_
  refine g_aload_n C 0 dX0_number_4 rfl rfl ?_
  refine g_get C inX0_number_0 4 WXg4 rfl 9 (by decide) lkX0_number_38 rfl dX0_number_5 ?_
  refine g_iadd C dX0_number_8 ?_
  refine g_aload_n C 0 dX0_number_9 rfl rfl ?_
  refine g_get C inX0_number_0 4 WXg4 rfl 6 (by decide) lkX0_number_29 rfl dX0_number_10 ?_
  refine g_if_eq C 31 dX0_number_13 (by decide) (fun c_1 => ?_) (fun c_1 => ?_)
  · replace h := h.1 c_1
    exact g_sub [0] rfl (t_B_X0_number_31 C hrt9 hlk  (e8 + e9)  h)
  · replace h := h.2 c_1
    refine g_aload_n C 0 dX0_number_16 rfl rfl ?_
    refine g_get C inX0_number_0 4 WXg4 rfl 1 (by decide) lkX0_number_13 rfl dX0_number_17 ?_
    refine g_if_eq C 31 dX0_number_20 (by decide) (fun c_2 => ?_) (fun c_2 => ?_)
    · replace h := h.1 c_2
      exact g_sub [0] rfl (t_B_X0_number_31 C hrt9 hlk  (e8 + e9)  h)
    · replace h := h.2 c_2
      refine g_aload_n C 0 dX0_number_23 rfl rfl ?_
      refine g_get C inX0_number_0 4 WXg4 rfl 10 (by decide) lkX0_number_41 rfl dX0_number_24 ?_
      refine g_ineg C dX0_number_27 ?_
      refine g_goto C 35 dX0_number_28 (by decide) ?_
      exact g_sub [] rfl (t_B_X0_number_35 C hrt9 hlk  (e8 + e9) (-e10)  h)
theorem c_X0_number (l : Launch) (D : va_G) (A : Nat → Prop) (ad : Nat → Nat) (cA : Nat → ClassId)  {tl : Int32} {tx : (Nat → Int32)} {mn : Int32} {sd : (Nat → Int64)} {e0 : Int32} {e1 : Int32} {e2 : Int32} {e3 : Int32} {e4 : Int32} {e5 : Int32} {e6 : Int32} {e7 : Int32} {e8 : Int32} {e9 : Int32} {e10 : Int32} {fr : Int32} {hd : Int32} {nw : (Nat → Int32)} {kp : (Nat → Int32)} {pt : (Nat → Int32)} {hr : (Nat → Nat → Int32)} {lr : (Nat → Nat → Int32)}  (Q : Int32 → Prop) (h : F_X0_number e1 e6 e8 e9 e10 Q) : Met l yX0_number wsX0_number rmX0_number (va_Pc [.ref (ad 4)] (OKX D (tysX cA) (WX ad cA tl tx mn sd e0 e1 e2 e3 e4 e5 e6 e7 e8 e9 e10 fr hd nw kp pt hr lr) A)) (QC_X0_number D A ad cA tl tx mn sd e0 e1 e2 e3 e4 e5 e6 e7 e8 e9 e10 fr hd nw kp pt hr lr Q) 0 0 A :=
  g_met (own := RX0) (by decide) rfl rfl (Nat.le_of_ble_eq_true rfl) (fun p e s m below meth c C hrt9 hlk _ => g_sub [0] rfl (t_B_X0_number_0 C hrt9 hlk    h))
theorem k_X0_number {ws : List Cond} {own : String} {cc : ByteArray} {nL pc index kc ks : Nat} {lv : List (Nat × Value)} {st : List Value} {Q : State → Prop} {R : Room} {K : Int32 → Prop}  (C : CxX p s m args c D (tysX cA) own cc nL ws) (hT : GoodIn ws (wsV own index RX0 yX0_number wsX0_number)) (hR : rmX0_number.frames + 1 ≤ R.frames ∧ 8 + (1 + 11) + rmX0_number.locals ≤ R.locals) (hk9 : kc ≤ R.cells ∧ ks ≤ R.slots) (hcat : (st.map fun v => v.category).sum ≤ 8) (hdg : decode cc pc = .ok (.invokevirtual index, 3))  (h : F_X0_number e1 e6 e8 e9 e10 K) (kk : ∀ (r : Int32) , K r → GoX p l e R s m args below meth c D A nL kc ks Q (pc + 3) lv (.int r :: st) (WX ad cA tl tx mn sd e0 e1 e2 e3 e4 e5 e6 e7 e8 e9 e10 fr hd nw kp pt hr lr)) : GoX p l e R s m args below meth c D A nL kc ks Q pc lv (.ref (ad 4) :: st) (WX ad cA tl tx mn sd e0 e1 e2 e3 e4 e5 e6 e7 e8 e9 e10 fr hd nw kp pt hr lr) :=
  g_callVi C (As := []) 0 (c_X0_number l D A ad cA   K h) hT rfl rfl rfl (by decide +kernel) hR hk9 4 WXg4 rfl rfl rfl hcat hdg (fun r u hu => kk r  hu)
/-! X0_afterStart -/
abbrev rmX0_afterStart : Room := { frames := 0, cells := 0, slots := 0, locals := 0 }
abbrev QC_X0_afterStart (D : va_G) (A : Nat → Prop) (ad : Nat → Nat) (cA : Nat → ClassId) (tl : Int32) (tx : (Nat → Int32)) (mn : Int32) (sd : (Nat → Int64)) (e0 : Int32) (e1 : Int32) (e2 : Int32) (e3 : Int32) (e4 : Int32) (e5 : Int32) (e6 : Int32) (e7 : Int32) (e8 : Int32) (e9 : Int32) (e10 : Int32) (fr : Int32) (hd : Int32) (nw : (Nat → Int32)) (kp : (Nat → Int32)) (pt : (Nat → Int32)) (hr : (Nat → Nat → Int32)) (lr : (Nat → Nat → Int32)) (Q : Int32 → Prop) : Array Value → State → Outcome → State → Prop := va_Qi (fun (r : Int32) (u : Unit) => Q r ) (fun u t => OKX D (tysX cA) ((fun u : Unit => WX ad cA tl tx mn sd e0 e1 e2 e3 e4 e5 e6 e7 e8 e9 e10 fr hd nw kp pt hr lr) u) A t) A
abbrev QP_X0_afterStart (D : va_G) (A : Nat → Prop) (ad : Nat → Nat) (cA : Nat → ClassId) (tl : Int32) (tx : (Nat → Int32)) (mn : Int32) (sd : (Nat → Int64)) (e0 : Int32) (e1 : Int32) (e2 : Int32) (e3 : Int32) (e4 : Int32) (e5 : Int32) (e6 : Int32) (e7 : Int32) (e8 : Int32) (e9 : Int32) (e10 : Int32) (fr : Int32) (hd : Int32) (nw : (Nat → Int32)) (kp : (Nat → Int32)) (pt : (Nat → Int32)) (hr : (Nat → Nat → Int32)) (lr : (Nat → Nat → Int32)) (Q : Int32 → Prop) (below : List Frame) (args : Array Value) (s : State) : State → Prop := MQ below (QC_X0_afterStart D A ad cA tl tx mn sd e0 e1 e2 e3 e4 e5 e6 e7 e8 e9 e10 fr hd nw kp pt hr lr Q) args s 0 0 A
def B_X0_afterStart_81  (Q : Int32 → Prop) (e4 : Int32) (s0 : Int32)  : Prop := (Q s0)
def B_X0_afterStart_80  (Q : Int32 → Prop) (e4 : Int32)   : Prop := (B_X0_afterStart_81  Q e4 (-1 : Int32))
def B_X0_afterStart_61  (Q : Int32 → Prop) (e4 : Int32) (s0 : Int32)  : Prop := (Q s0)
def B_X0_afterStart_0  (Q : Int32 → Prop) (e4 : Int32) (v1 : Int32)  : Prop := ((v1 = (71 : Int32) → ((e4 = 0 → (B_X0_afterStart_61  Q e4 (5 : Int32))) ∧ (¬ e4 = 0 → (B_X0_afterStart_61  Q e4 (-1 : Int32))))) ∧ (¬ v1 = (71 : Int32) → ((v1 = (72 : Int32) → (Q (1 : Int32))) ∧ (¬ v1 = (72 : Int32) → ((v1 = (83 : Int32) → (Q (6 : Int32))) ∧ (¬ v1 = (83 : Int32) → ((v1 = (97 : Int32) → (Q (4 : Int32))) ∧ (¬ v1 = (97 : Int32) → ((v1 < (98 : Int32) → (B_X0_afterStart_80  Q e4 )) ∧ (¬ v1 < (98 : Int32) → (((115 : Int32) < v1 → (B_X0_afterStart_80  Q e4 )) ∧ (¬ (115 : Int32) < v1 → (B_X0_afterStart_81  Q e4 (3 : Int32))))))))))))))
def F_X0_afterStart (v1 : Int32) (e4 : Int32)  (Q : Int32 → Prop) : Prop := B_X0_afterStart_0 Q e4 v1 
theorem lkX0_afterStart_23 : Cond.fieldLink RX0 23 (TX0 4).1 (TX0 4).2.1 (TX0 4).2.2.1 ∈ wsX0_afterStart := by decide +kernel
theorem inX0_afterStart_0 : ∀ q ∈ u_ws RX0 TX0 11, q ∈ wsX0_afterStart := by decide +kernel
set_option maxHeartbeats 4000000 in
set_option maxRecDepth 100000 in
theorem t_B_X0_afterStart_81  {Q : Int32 → Prop} (C : CxX p s m args c D (tysX cA) RX0 cX0_afterStart 2 wsX0_afterStart) (hrt9 : meth.sig.returnType = (some .int)) (hlk : meth.locks = false) (s0 : Int32)   (h : B_X0_afterStart_81  Q e4 s0) : GoX p l e rmX0_afterStart s m args below meth c D A 2 0 0 (QP_X0_afterStart D A ad cA tl tx mn sd e0 e1 e2 e3 e4 e5 e6 e7 e8 e9 e10 fr hd nw kp pt hr lr Q below args s) 81 [] [.int s0] (WX ad cA tl tx mn sd e0 e1 e2 e3 e4 e5 e6 e7 e8 e9 e10 fr hd nw kp pt hr lr) := by
  replace h : (Q s0) := h
  exact g_iret C hrt9 hlk (u := ()) rfl h dX0_afterStart_81
set_option maxHeartbeats 4000000 in
set_option maxRecDepth 100000 in
theorem t_B_X0_afterStart_80  {Q : Int32 → Prop} (C : CxX p s m args c D (tysX cA) RX0 cX0_afterStart 2 wsX0_afterStart) (hrt9 : meth.sig.returnType = (some .int)) (hlk : meth.locks = false)    (h : B_X0_afterStart_80  Q e4 ) : GoX p l e rmX0_afterStart s m args below meth c D A 2 0 0 (QP_X0_afterStart D A ad cA tl tx mn sd e0 e1 e2 e3 e4 e5 e6 e7 e8 e9 e10 fr hd nw kp pt hr lr Q below args s) 80 [] [] (WX ad cA tl tx mn sd e0 e1 e2 e3 e4 e5 e6 e7 e8 e9 e10 fr hd nw kp pt hr lr) := by
  replace h : (B_X0_afterStart_81  Q e4 (-1 : Int32)) := h
  refine g_iconst C (-1 : Int32) dX0_afterStart_80 (by decide) ?_
  exact g_sub [] rfl (t_B_X0_afterStart_81 C hrt9 hlk  (-1 : Int32)  h)
set_option maxHeartbeats 4000000 in
set_option maxRecDepth 100000 in
theorem t_B_X0_afterStart_61  {Q : Int32 → Prop} (C : CxX p s m args c D (tysX cA) RX0 cX0_afterStart 2 wsX0_afterStart) (hrt9 : meth.sig.returnType = (some .int)) (hlk : meth.locks = false) (s0 : Int32)   (h : B_X0_afterStart_61  Q e4 s0) : GoX p l e rmX0_afterStart s m args below meth c D A 2 0 0 (QP_X0_afterStart D A ad cA tl tx mn sd e0 e1 e2 e3 e4 e5 e6 e7 e8 e9 e10 fr hd nw kp pt hr lr Q below args s) 61 [] [.int s0] (WX ad cA tl tx mn sd e0 e1 e2 e3 e4 e5 e6 e7 e8 e9 e10 fr hd nw kp pt hr lr) := by
  replace h : (Q s0) := h
  exact g_iret C hrt9 hlk (u := ()) rfl h dX0_afterStart_61
set_option maxHeartbeats 4000000 in
set_option maxRecDepth 100000 in
theorem t_B_X0_afterStart_0  {Q : Int32 → Prop} (C : CxX p s m args c D (tysX cA) RX0 cX0_afterStart 2 wsX0_afterStart) (hrt9 : meth.sig.returnType = (some .int)) (hlk : meth.locks = false) (v1 : Int32)   (h : B_X0_afterStart_0  Q e4 v1) : GoX p l e rmX0_afterStart s m args below meth c D A 2 0 0 (QP_X0_afterStart D A ad cA tl tx mn sd e0 e1 e2 e3 e4 e5 e6 e7 e8 e9 e10 fr hd nw kp pt hr lr Q below args s) 0 [(0, .ref (ad 4)), (1, .int v1)] [] (WX ad cA tl tx mn sd e0 e1 e2 e3 e4 e5 e6 e7 e8 e9 e10 fr hd nw kp pt hr lr) := by
  replace h : ((v1 = (71 : Int32) → ((e4 = 0 → (B_X0_afterStart_61  Q e4 (5 : Int32))) ∧ (¬ e4 = 0 → (B_X0_afterStart_61  Q e4 (-1 : Int32))))) ∧ (¬ v1 = (71 : Int32) → ((v1 = (72 : Int32) → (Q (1 : Int32))) ∧ (¬ v1 = (72 : Int32) → ((v1 = (83 : Int32) → (Q (6 : Int32))) ∧ (¬ v1 = (83 : Int32) → ((v1 = (97 : Int32) → (Q (4 : Int32))) ∧ (¬ v1 = (97 : Int32) → ((v1 < (98 : Int32) → (B_X0_afterStart_80  Q e4 )) ∧ (¬ v1 < (98 : Int32) → (((115 : Int32) < v1 → (B_X0_afterStart_80  Q e4 )) ∧ (¬ (115 : Int32) < v1 → (B_X0_afterStart_81  Q e4 (3 : Int32)))))))))))))) := h
  refine g_iload_n C 1 dX0_afterStart_0 rfl rfl ?_
  by_cases c_1 : v1 = (71 : Int32)
  · refine g_lookup C (48) 49 dX0_afterStart_1 (by decide) (by rw [c_1]; decide) (by decide) ?_
    replace h := h.1 c_1
    refine g_aload_n C 0 dX0_afterStart_49 rfl rfl ?_
    refine g_get C inX0_afterStart_0 4 WXg4 rfl 4 (by decide) lkX0_afterStart_23 rfl dX0_afterStart_50 ?_
    refine g_if_eq C 60 dX0_afterStart_53 (by decide) (fun c_2 => ?_) (fun c_2 => ?_)
    · replace h := h.1 c_2
      refine g_iconst C (5 : Int32) dX0_afterStart_60 (by decide) ?_
      exact g_sub [] rfl (t_B_X0_afterStart_61 C hrt9 hlk  (5 : Int32)  h)
    · replace h := h.2 c_2
      refine g_iconst C (-1 : Int32) dX0_afterStart_56 (by decide) ?_
      refine g_goto C 61 dX0_afterStart_57 (by decide) ?_
      exact g_sub [] rfl (t_B_X0_afterStart_61 C hrt9 hlk  (-1 : Int32)  h)
  · replace h := h.2 c_1
    by_cases c_3 : v1 = (72 : Int32)
    · refine g_lookup C (43) 44 dX0_afterStart_1 (by decide) (by rw [c_3]; decide) (by decide) ?_
      replace h := h.1 c_3
      refine g_iconst C (1 : Int32) dX0_afterStart_44 (by decide) ?_
      exact g_iret C hrt9 hlk (u := ()) rfl h dX0_afterStart_45
    · replace h := h.2 c_3
      by_cases c_4 : v1 = (83 : Int32)
      · refine g_lookup C (45) 46 dX0_afterStart_1 (by decide) (by rw [c_4]; decide) (by decide) ?_
        replace h := h.1 c_4
        refine g_bipush C (6 : Int32) dX0_afterStart_46 (by decide) ?_
        exact g_iret C hrt9 hlk (u := ()) rfl h dX0_afterStart_48
      · replace h := h.2 c_4
        by_cases c_5 : v1 = (97 : Int32)
        · refine g_lookup C (61) 62 dX0_afterStart_1 (by decide) (by rw [c_5]; decide) (by decide) ?_
          replace h := h.1 c_5
          refine g_iconst C (4 : Int32) dX0_afterStart_62 (by decide) ?_
          exact g_iret C hrt9 hlk (u := ()) rfl h dX0_afterStart_63
        · replace h := h.2 c_5
          refine g_lookup C (63) 64 dX0_afterStart_1 (by decide) ((lv_osw c_1 (by decide)).trans <| (lv_osw c_3 (by decide)).trans <| (lv_osw c_4 (by decide)).trans <| (lv_osw c_5 (by decide)).trans <| rfl) (by decide) ?_
          refine g_iload_n C 1 dX0_afterStart_64 rfl rfl ?_
          refine g_bipush C (98 : Int32) dX0_afterStart_65 (by decide) ?_
          refine g_icmp_lt C 80 dX0_afterStart_67 (by decide) (fun c_6 => ?_) (fun c_6 => ?_)
          · replace h := h.1 c_6
            exact g_sub [] rfl (t_B_X0_afterStart_80 C hrt9 hlk    h)
          · replace h := h.2 c_6
            refine g_iload_n C 1 dX0_afterStart_70 rfl rfl ?_
            refine g_bipush C (115 : Int32) dX0_afterStart_71 (by decide) ?_
            refine g_icmp_gt C 80 dX0_afterStart_73 (by decide) (fun c_7 => ?_) (fun c_7 => ?_)
            · replace h := h.1 c_7
              exact g_sub [] rfl (t_B_X0_afterStart_80 C hrt9 hlk    h)
            · replace h := h.2 c_7
              refine g_iconst C (3 : Int32) dX0_afterStart_76 (by decide) ?_
              refine g_goto C 81 dX0_afterStart_77 (by decide) ?_
              exact g_sub [] rfl (t_B_X0_afterStart_81 C hrt9 hlk  (3 : Int32)  h)
theorem c_X0_afterStart (l : Launch) (D : va_G) (A : Nat → Prop) (ad : Nat → Nat) (cA : Nat → ClassId) (v1 : Int32) {tl : Int32} {tx : (Nat → Int32)} {mn : Int32} {sd : (Nat → Int64)} {e0 : Int32} {e1 : Int32} {e2 : Int32} {e3 : Int32} {e4 : Int32} {e5 : Int32} {e6 : Int32} {e7 : Int32} {e8 : Int32} {e9 : Int32} {e10 : Int32} {fr : Int32} {hd : Int32} {nw : (Nat → Int32)} {kp : (Nat → Int32)} {pt : (Nat → Int32)} {hr : (Nat → Nat → Int32)} {lr : (Nat → Nat → Int32)}  (Q : Int32 → Prop) (h : F_X0_afterStart v1 e4 Q) : Met l yX0_afterStart wsX0_afterStart rmX0_afterStart (va_Pc [.ref (ad 4), .int v1] (OKX D (tysX cA) (WX ad cA tl tx mn sd e0 e1 e2 e3 e4 e5 e6 e7 e8 e9 e10 fr hd nw kp pt hr lr) A)) (QC_X0_afterStart D A ad cA tl tx mn sd e0 e1 e2 e3 e4 e5 e6 e7 e8 e9 e10 fr hd nw kp pt hr lr Q) 0 0 A :=
  g_met (own := RX0) (by decide) rfl rfl (Nat.le_of_ble_eq_true rfl) (fun p e s m below meth c C hrt9 hlk _ => g_sub [0, 1] rfl (t_B_X0_afterStart_0 C hrt9 hlk v1   h))
theorem k_X0_afterStart {ws : List Cond} {own : String} {cc : ByteArray} {nL pc index kc ks : Nat} {lv : List (Nat × Value)} {st : List Value} {Q : State → Prop} {R : Room} {K : Int32 → Prop} {v1 : Int32} (C : CxX p s m args c D (tysX cA) own cc nL ws) (hT : GoodIn ws (wsV own index RX0 yX0_afterStart wsX0_afterStart)) (hR : rmX0_afterStart.frames + 1 ≤ R.frames ∧ 8 + (2 + 11) + rmX0_afterStart.locals ≤ R.locals) (hk9 : kc ≤ R.cells ∧ ks ≤ R.slots) (hcat : (st.map fun v => v.category).sum ≤ 8) (hdg : decode cc pc = .ok (.invokevirtual index, 3))  (h : F_X0_afterStart v1 e4 K) (kk : ∀ (r : Int32) , K r → GoX p l e R s m args below meth c D A nL kc ks Q (pc + 3) lv (.int r :: st) (WX ad cA tl tx mn sd e0 e1 e2 e3 e4 e5 e6 e7 e8 e9 e10 fr hd nw kp pt hr lr)) : GoX p l e R s m args below meth c D A nL kc ks Q pc lv (.int v1 :: .ref (ad 4) :: st) (WX ad cA tl tx mn sd e0 e1 e2 e3 e4 e5 e6 e7 e8 e9 e10 fr hd nw kp pt hr lr) :=
  g_callVi C (As := [.int v1]) 1 (c_X0_afterStart l D A ad cA v1  K h) hT rfl rfl rfl (by decide +kernel) hR hk9 4 WXg4 rfl rfl rfl hcat hdg (fun r u hu => kk r  hu)
/-! X0_isUnit -/
abbrev rmX0_isUnit : Room := { frames := 0, cells := 0, slots := 0, locals := 0 }
abbrev QC_X0_isUnit (D : va_G) (A : Nat → Prop) (ad : Nat → Nat) (cA : Nat → ClassId) (tl : Int32) (tx : (Nat → Int32)) (mn : Int32) (sd : (Nat → Int64)) (e0 : Int32) (e1 : Int32) (e2 : Int32) (e3 : Int32) (e4 : Int32) (e5 : Int32) (e6 : Int32) (e7 : Int32) (e8 : Int32) (e9 : Int32) (e10 : Int32) (fr : Int32) (hd : Int32) (nw : (Nat → Int32)) (kp : (Nat → Int32)) (pt : (Nat → Int32)) (hr : (Nat → Nat → Int32)) (lr : (Nat → Nat → Int32)) (Q : Int32 → Prop) : Array Value → State → Outcome → State → Prop := va_Qi (fun (r : Int32) (u : Unit) => Q r ) (fun u t => OKX D (tysX cA) ((fun u : Unit => WX ad cA tl tx mn sd e0 e1 e2 e3 e4 e5 e6 e7 e8 e9 e10 fr hd nw kp pt hr lr) u) A t) A
abbrev QP_X0_isUnit (D : va_G) (A : Nat → Prop) (ad : Nat → Nat) (cA : Nat → ClassId) (tl : Int32) (tx : (Nat → Int32)) (mn : Int32) (sd : (Nat → Int64)) (e0 : Int32) (e1 : Int32) (e2 : Int32) (e3 : Int32) (e4 : Int32) (e5 : Int32) (e6 : Int32) (e7 : Int32) (e8 : Int32) (e9 : Int32) (e10 : Int32) (fr : Int32) (hd : Int32) (nw : (Nat → Int32)) (kp : (Nat → Int32)) (pt : (Nat → Int32)) (hr : (Nat → Nat → Int32)) (lr : (Nat → Nat → Int32)) (Q : Int32 → Prop) (below : List Frame) (args : Array Value) (s : State) : State → Prop := MQ below (QC_X0_isUnit D A ad cA tl tx mn sd e0 e1 e2 e3 e4 e5 e6 e7 e8 e9 e10 fr hd nw kp pt hr lr Q) args s 0 0 A
def B_X0_isUnit_17  (Q : Int32 → Prop)  (s0 : Int32)  : Prop := (isBo s0 ∧ (Q s0))
def B_X0_isUnit_16  (Q : Int32 → Prop)    : Prop := (B_X0_isUnit_17  Q  (0 : Int32))
def B_X0_isUnit_0  (Q : Int32 → Prop)  (v0 : Int32)  : Prop := ((v0 < (97 : Int32) → (B_X0_isUnit_16  Q  )) ∧ (¬ v0 < (97 : Int32) → (((115 : Int32) < v0 → (B_X0_isUnit_16  Q  )) ∧ (¬ (115 : Int32) < v0 → (B_X0_isUnit_17  Q  (1 : Int32))))))
def F_X0_isUnit (v0 : Int32)   (Q : Int32 → Prop) : Prop := B_X0_isUnit_0 Q  v0 
set_option maxHeartbeats 4000000 in
set_option maxRecDepth 100000 in
theorem t_B_X0_isUnit_17  {Q : Int32 → Prop} (C : CxX p s m args c D (tysX cA) RX0 cX0_isUnit 1 wsX0_isUnit) (hrt9 : meth.sig.returnType = (some .boolean)) (hlk : meth.locks = false) (s0 : Int32)   (h : B_X0_isUnit_17  Q  s0) : GoX p l e rmX0_isUnit s m args below meth c D A 1 0 0 (QP_X0_isUnit D A ad cA tl tx mn sd e0 e1 e2 e3 e4 e5 e6 e7 e8 e9 e10 fr hd nw kp pt hr lr Q below args s) 17 [] [.int s0] (WX ad cA tl tx mn sd e0 e1 e2 e3 e4 e5 e6 e7 e8 e9 e10 fr hd nw kp pt hr lr) := by
  replace h : (isBo s0 ∧ (Q s0)) := h
  exact g_zret C hrt9 hlk h.1.n (u := ()) rfl h.2 dX0_isUnit_17
set_option maxHeartbeats 4000000 in
set_option maxRecDepth 100000 in
theorem t_B_X0_isUnit_16  {Q : Int32 → Prop} (C : CxX p s m args c D (tysX cA) RX0 cX0_isUnit 1 wsX0_isUnit) (hrt9 : meth.sig.returnType = (some .boolean)) (hlk : meth.locks = false)    (h : B_X0_isUnit_16  Q  ) : GoX p l e rmX0_isUnit s m args below meth c D A 1 0 0 (QP_X0_isUnit D A ad cA tl tx mn sd e0 e1 e2 e3 e4 e5 e6 e7 e8 e9 e10 fr hd nw kp pt hr lr Q below args s) 16 [] [] (WX ad cA tl tx mn sd e0 e1 e2 e3 e4 e5 e6 e7 e8 e9 e10 fr hd nw kp pt hr lr) := by
  replace h : (B_X0_isUnit_17  Q  (0 : Int32)) := h
  refine g_iconst C (0 : Int32) dX0_isUnit_16 (by decide) ?_
  exact g_sub [] rfl (t_B_X0_isUnit_17 C hrt9 hlk  (0 : Int32)  h)
set_option maxHeartbeats 4000000 in
set_option maxRecDepth 100000 in
theorem t_B_X0_isUnit_0  {Q : Int32 → Prop} (C : CxX p s m args c D (tysX cA) RX0 cX0_isUnit 1 wsX0_isUnit) (hrt9 : meth.sig.returnType = (some .boolean)) (hlk : meth.locks = false) (v0 : Int32)   (h : B_X0_isUnit_0  Q  v0) : GoX p l e rmX0_isUnit s m args below meth c D A 1 0 0 (QP_X0_isUnit D A ad cA tl tx mn sd e0 e1 e2 e3 e4 e5 e6 e7 e8 e9 e10 fr hd nw kp pt hr lr Q below args s) 0 [(0, .int v0)] [] (WX ad cA tl tx mn sd e0 e1 e2 e3 e4 e5 e6 e7 e8 e9 e10 fr hd nw kp pt hr lr) := by
  replace h : ((v0 < (97 : Int32) → (B_X0_isUnit_16  Q  )) ∧ (¬ v0 < (97 : Int32) → (((115 : Int32) < v0 → (B_X0_isUnit_16  Q  )) ∧ (¬ (115 : Int32) < v0 → (B_X0_isUnit_17  Q  (1 : Int32)))))) := h
  refine g_iload_n C 0 dX0_isUnit_0 rfl rfl ?_
  refine g_bipush C (97 : Int32) dX0_isUnit_1 (by decide) ?_
  refine g_icmp_lt C 16 dX0_isUnit_3 (by decide) (fun c_1 => ?_) (fun c_1 => ?_)
  · replace h := h.1 c_1
    exact g_sub [] rfl (t_B_X0_isUnit_16 C hrt9 hlk    h)
  · replace h := h.2 c_1
    refine g_iload_n C 0 dX0_isUnit_6 rfl rfl ?_
    refine g_bipush C (115 : Int32) dX0_isUnit_7 (by decide) ?_
    refine g_icmp_gt C 16 dX0_isUnit_9 (by decide) (fun c_2 => ?_) (fun c_2 => ?_)
    · replace h := h.1 c_2
      exact g_sub [] rfl (t_B_X0_isUnit_16 C hrt9 hlk    h)
    · replace h := h.2 c_2
      refine g_iconst C (1 : Int32) dX0_isUnit_12 (by decide) ?_
      refine g_goto C 17 dX0_isUnit_13 (by decide) ?_
      exact g_sub [] rfl (t_B_X0_isUnit_17 C hrt9 hlk  (1 : Int32)  h)
theorem c_X0_isUnit (l : Launch) (D : va_G) (A : Nat → Prop) (ad : Nat → Nat) (cA : Nat → ClassId) (v0 : Int32) {tl : Int32} {tx : (Nat → Int32)} {mn : Int32} {sd : (Nat → Int64)} {e0 : Int32} {e1 : Int32} {e2 : Int32} {e3 : Int32} {e4 : Int32} {e5 : Int32} {e6 : Int32} {e7 : Int32} {e8 : Int32} {e9 : Int32} {e10 : Int32} {fr : Int32} {hd : Int32} {nw : (Nat → Int32)} {kp : (Nat → Int32)} {pt : (Nat → Int32)} {hr : (Nat → Nat → Int32)} {lr : (Nat → Nat → Int32)}  (Q : Int32 → Prop) (h : F_X0_isUnit v0 Q) : Met l yX0_isUnit wsX0_isUnit rmX0_isUnit (va_Pc [.int v0] (OKX D (tysX cA) (WX ad cA tl tx mn sd e0 e1 e2 e3 e4 e5 e6 e7 e8 e9 e10 fr hd nw kp pt hr lr) A)) (QC_X0_isUnit D A ad cA tl tx mn sd e0 e1 e2 e3 e4 e5 e6 e7 e8 e9 e10 fr hd nw kp pt hr lr Q) 0 0 A :=
  g_met (own := RX0) (by decide) rfl rfl (Nat.le_of_ble_eq_true rfl) (fun p e s m below meth c C hrt9 hlk _ => g_sub [0] rfl (t_B_X0_isUnit_0 C hrt9 hlk v0   h))
theorem k_X0_isUnit {ws : List Cond} {own : String} {cc : ByteArray} {nL pc index kc ks : Nat} {lv : List (Nat × Value)} {st : List Value} {Q : State → Prop} {R : Room} {K : Int32 → Prop} {v0 : Int32} (C : CxX p s m args c D (tysX cA) own cc nL ws) (hT : GoodIn ws (va_wsS own index yX0_isUnit wsX0_isUnit)) (hR : rmX0_isUnit.frames + 1 ≤ R.frames ∧ 8 + (1 + 11) + rmX0_isUnit.locals ≤ R.locals) (hk9 : kc ≤ R.cells ∧ ks ≤ R.slots) (hcat : (st.map fun v => v.category).sum ≤ 8) (hdg : decode cc pc = .ok (.invokestatic index, 3))  (h : F_X0_isUnit v0 K) (kk : ∀ (r : Int32) , K r → GoX p l e R s m args below meth c D A nL kc ks Q (pc + 3) lv (.int r :: st) (WX ad cA tl tx mn sd e0 e1 e2 e3 e4 e5 e6 e7 e8 e9 e10 fr hd nw kp pt hr lr)) : GoX p l e R s m args below meth c D A nL kc ks Q pc lv (.int v0 :: st) (WX ad cA tl tx mn sd e0 e1 e2 e3 e4 e5 e6 e7 e8 e9 e10 fr hd nw kp pt hr lr) :=
  g_callSi C (As := [.int v0]) 1 (c_X0_isUnit l D A ad cA v0  K h) hT rfl rfl rfl (by decide +kernel) hR hk9 rfl rfl hcat hdg (fun r u hu => kk r  hu)
/-! X0_isCountUnit -/
abbrev rmX0_isCountUnit : Room := { frames := 0, cells := 0, slots := 0, locals := 0 }
abbrev QC_X0_isCountUnit (D : va_G) (A : Nat → Prop) (ad : Nat → Nat) (cA : Nat → ClassId) (tl : Int32) (tx : (Nat → Int32)) (mn : Int32) (sd : (Nat → Int64)) (e0 : Int32) (e1 : Int32) (e2 : Int32) (e3 : Int32) (e4 : Int32) (e5 : Int32) (e6 : Int32) (e7 : Int32) (e8 : Int32) (e9 : Int32) (e10 : Int32) (fr : Int32) (hd : Int32) (nw : (Nat → Int32)) (kp : (Nat → Int32)) (pt : (Nat → Int32)) (hr : (Nat → Nat → Int32)) (lr : (Nat → Nat → Int32)) (Q : Int32 → Prop) : Array Value → State → Outcome → State → Prop := va_Qi (fun (r : Int32) (u : Unit) => Q r ) (fun u t => OKX D (tysX cA) ((fun u : Unit => WX ad cA tl tx mn sd e0 e1 e2 e3 e4 e5 e6 e7 e8 e9 e10 fr hd nw kp pt hr lr) u) A t) A
abbrev QP_X0_isCountUnit (D : va_G) (A : Nat → Prop) (ad : Nat → Nat) (cA : Nat → ClassId) (tl : Int32) (tx : (Nat → Int32)) (mn : Int32) (sd : (Nat → Int64)) (e0 : Int32) (e1 : Int32) (e2 : Int32) (e3 : Int32) (e4 : Int32) (e5 : Int32) (e6 : Int32) (e7 : Int32) (e8 : Int32) (e9 : Int32) (e10 : Int32) (fr : Int32) (hd : Int32) (nw : (Nat → Int32)) (kp : (Nat → Int32)) (pt : (Nat → Int32)) (hr : (Nat → Nat → Int32)) (lr : (Nat → Nat → Int32)) (Q : Int32 → Prop) (below : List Frame) (args : Array Value) (s : State) : State → Prop := MQ below (QC_X0_isCountUnit D A ad cA tl tx mn sd e0 e1 e2 e3 e4 e5 e6 e7 e8 e9 e10 fr hd nw kp pt hr lr Q) args s 0 0 A
def B_X0_isCountUnit_17  (Q : Int32 → Prop)  (s0 : Int32)  : Prop := (isBo s0 ∧ (Q s0))
def B_X0_isCountUnit_16  (Q : Int32 → Prop)    : Prop := (B_X0_isCountUnit_17  Q  (0 : Int32))
def B_X0_isCountUnit_0  (Q : Int32 → Prop)  (v0 : Int32)  : Prop := ((v0 < (98 : Int32) → (B_X0_isCountUnit_16  Q  )) ∧ (¬ v0 < (98 : Int32) → (((115 : Int32) < v0 → (B_X0_isCountUnit_16  Q  )) ∧ (¬ (115 : Int32) < v0 → (B_X0_isCountUnit_17  Q  (1 : Int32))))))
def F_X0_isCountUnit (v0 : Int32)   (Q : Int32 → Prop) : Prop := B_X0_isCountUnit_0 Q  v0 
set_option maxHeartbeats 4000000 in
set_option maxRecDepth 100000 in
theorem t_B_X0_isCountUnit_17  {Q : Int32 → Prop} (C : CxX p s m args c D (tysX cA) RX0 cX0_isCountUnit 1 wsX0_isCountUnit) (hrt9 : meth.sig.returnType = (some .boolean)) (hlk : meth.locks = false) (s0 : Int32)   (h : B_X0_isCountUnit_17  Q  s0) : GoX p l e rmX0_isCountUnit s m args below meth c D A 1 0 0 (QP_X0_isCountUnit D A ad cA tl tx mn sd e0 e1 e2 e3 e4 e5 e6 e7 e8 e9 e10 fr hd nw kp pt hr lr Q below args s) 17 [] [.int s0] (WX ad cA tl tx mn sd e0 e1 e2 e3 e4 e5 e6 e7 e8 e9 e10 fr hd nw kp pt hr lr) := by
  replace h : (isBo s0 ∧ (Q s0)) := h
  exact g_zret C hrt9 hlk h.1.n (u := ()) rfl h.2 dX0_isCountUnit_17
set_option maxHeartbeats 4000000 in
set_option maxRecDepth 100000 in
theorem t_B_X0_isCountUnit_16  {Q : Int32 → Prop} (C : CxX p s m args c D (tysX cA) RX0 cX0_isCountUnit 1 wsX0_isCountUnit) (hrt9 : meth.sig.returnType = (some .boolean)) (hlk : meth.locks = false)    (h : B_X0_isCountUnit_16  Q  ) : GoX p l e rmX0_isCountUnit s m args below meth c D A 1 0 0 (QP_X0_isCountUnit D A ad cA tl tx mn sd e0 e1 e2 e3 e4 e5 e6 e7 e8 e9 e10 fr hd nw kp pt hr lr Q below args s) 16 [] [] (WX ad cA tl tx mn sd e0 e1 e2 e3 e4 e5 e6 e7 e8 e9 e10 fr hd nw kp pt hr lr) := by
  replace h : (B_X0_isCountUnit_17  Q  (0 : Int32)) := h
  refine g_iconst C (0 : Int32) dX0_isCountUnit_16 (by decide) ?_
  exact g_sub [] rfl (t_B_X0_isCountUnit_17 C hrt9 hlk  (0 : Int32)  h)
set_option maxHeartbeats 4000000 in
set_option maxRecDepth 100000 in
theorem t_B_X0_isCountUnit_0  {Q : Int32 → Prop} (C : CxX p s m args c D (tysX cA) RX0 cX0_isCountUnit 1 wsX0_isCountUnit) (hrt9 : meth.sig.returnType = (some .boolean)) (hlk : meth.locks = false) (v0 : Int32)   (h : B_X0_isCountUnit_0  Q  v0) : GoX p l e rmX0_isCountUnit s m args below meth c D A 1 0 0 (QP_X0_isCountUnit D A ad cA tl tx mn sd e0 e1 e2 e3 e4 e5 e6 e7 e8 e9 e10 fr hd nw kp pt hr lr Q below args s) 0 [(0, .int v0)] [] (WX ad cA tl tx mn sd e0 e1 e2 e3 e4 e5 e6 e7 e8 e9 e10 fr hd nw kp pt hr lr) := by
  replace h : ((v0 < (98 : Int32) → (B_X0_isCountUnit_16  Q  )) ∧ (¬ v0 < (98 : Int32) → (((115 : Int32) < v0 → (B_X0_isCountUnit_16  Q  )) ∧ (¬ (115 : Int32) < v0 → (B_X0_isCountUnit_17  Q  (1 : Int32)))))) := h
  refine g_iload_n C 0 dX0_isCountUnit_0 rfl rfl ?_
  refine g_bipush C (98 : Int32) dX0_isCountUnit_1 (by decide) ?_
  refine g_icmp_lt C 16 dX0_isCountUnit_3 (by decide) (fun c_1 => ?_) (fun c_1 => ?_)
  · replace h := h.1 c_1
    exact g_sub [] rfl (t_B_X0_isCountUnit_16 C hrt9 hlk    h)
  · replace h := h.2 c_1
    refine g_iload_n C 0 dX0_isCountUnit_6 rfl rfl ?_
    refine g_bipush C (115 : Int32) dX0_isCountUnit_7 (by decide) ?_
    refine g_icmp_gt C 16 dX0_isCountUnit_9 (by decide) (fun c_2 => ?_) (fun c_2 => ?_)
    · replace h := h.1 c_2
      exact g_sub [] rfl (t_B_X0_isCountUnit_16 C hrt9 hlk    h)
    · replace h := h.2 c_2
      refine g_iconst C (1 : Int32) dX0_isCountUnit_12 (by decide) ?_
      refine g_goto C 17 dX0_isCountUnit_13 (by decide) ?_
      exact g_sub [] rfl (t_B_X0_isCountUnit_17 C hrt9 hlk  (1 : Int32)  h)
theorem c_X0_isCountUnit (l : Launch) (D : va_G) (A : Nat → Prop) (ad : Nat → Nat) (cA : Nat → ClassId) (v0 : Int32) {tl : Int32} {tx : (Nat → Int32)} {mn : Int32} {sd : (Nat → Int64)} {e0 : Int32} {e1 : Int32} {e2 : Int32} {e3 : Int32} {e4 : Int32} {e5 : Int32} {e6 : Int32} {e7 : Int32} {e8 : Int32} {e9 : Int32} {e10 : Int32} {fr : Int32} {hd : Int32} {nw : (Nat → Int32)} {kp : (Nat → Int32)} {pt : (Nat → Int32)} {hr : (Nat → Nat → Int32)} {lr : (Nat → Nat → Int32)}  (Q : Int32 → Prop) (h : F_X0_isCountUnit v0 Q) : Met l yX0_isCountUnit wsX0_isCountUnit rmX0_isCountUnit (va_Pc [.int v0] (OKX D (tysX cA) (WX ad cA tl tx mn sd e0 e1 e2 e3 e4 e5 e6 e7 e8 e9 e10 fr hd nw kp pt hr lr) A)) (QC_X0_isCountUnit D A ad cA tl tx mn sd e0 e1 e2 e3 e4 e5 e6 e7 e8 e9 e10 fr hd nw kp pt hr lr Q) 0 0 A :=
  g_met (own := RX0) (by decide) rfl rfl (Nat.le_of_ble_eq_true rfl) (fun p e s m below meth c C hrt9 hlk _ => g_sub [0] rfl (t_B_X0_isCountUnit_0 C hrt9 hlk v0   h))
theorem k_X0_isCountUnit {ws : List Cond} {own : String} {cc : ByteArray} {nL pc index kc ks : Nat} {lv : List (Nat × Value)} {st : List Value} {Q : State → Prop} {R : Room} {K : Int32 → Prop} {v0 : Int32} (C : CxX p s m args c D (tysX cA) own cc nL ws) (hT : GoodIn ws (va_wsS own index yX0_isCountUnit wsX0_isCountUnit)) (hR : rmX0_isCountUnit.frames + 1 ≤ R.frames ∧ 8 + (1 + 11) + rmX0_isCountUnit.locals ≤ R.locals) (hk9 : kc ≤ R.cells ∧ ks ≤ R.slots) (hcat : (st.map fun v => v.category).sum ≤ 8) (hdg : decode cc pc = .ok (.invokestatic index, 3))  (h : F_X0_isCountUnit v0 K) (kk : ∀ (r : Int32) , K r → GoX p l e R s m args below meth c D A nL kc ks Q (pc + 3) lv (.int r :: st) (WX ad cA tl tx mn sd e0 e1 e2 e3 e4 e5 e6 e7 e8 e9 e10 fr hd nw kp pt hr lr)) : GoX p l e R s m args below meth c D A nL kc ks Q pc lv (.int v0 :: st) (WX ad cA tl tx mn sd e0 e1 e2 e3 e4 e5 e6 e7 e8 e9 e10 fr hd nw kp pt hr lr) :=
  g_callSi C (As := [.int v0]) 1 (c_X0_isCountUnit l D A ad cA v0  K h) hT rfl rfl rfl (by decide +kernel) hR hk9 rfl rfl hcat hdg (fun r u hu => kk r  hu)
/-! X0_afterCount -/
abbrev rmX0_afterCount : Room := { frames := 0, cells := 0, slots := 0, locals := 0 }
abbrev QC_X0_afterCount (D : va_G) (A : Nat → Prop) (ad : Nat → Nat) (cA : Nat → ClassId) (tl : Int32) (tx : (Nat → Int32)) (mn : Int32) (sd : (Nat → Int64)) (e0 : Int32) (e1 : Int32) (e2 : Int32) (e3 : Int32) (e4 : Int32) (e5 : Int32) (e6 : Int32) (e7 : Int32) (e8 : Int32) (e9 : Int32) (e10 : Int32) (fr : Int32) (hd : Int32) (nw : (Nat → Int32)) (kp : (Nat → Int32)) (pt : (Nat → Int32)) (hr : (Nat → Nat → Int32)) (lr : (Nat → Nat → Int32)) (Q : Int32 → Prop) : Array Value → State → Outcome → State → Prop := va_Qi (fun (r : Int32) (u : Unit) => Q r ) (fun u t => OKX D (tysX cA) ((fun u : Unit => WX ad cA tl tx mn sd e0 e1 e2 e3 e4 e5 e6 e7 e8 e9 e10 fr hd nw kp pt hr lr) u) A t) A
abbrev QP_X0_afterCount (D : va_G) (A : Nat → Prop) (ad : Nat → Nat) (cA : Nat → ClassId) (tl : Int32) (tx : (Nat → Int32)) (mn : Int32) (sd : (Nat → Int64)) (e0 : Int32) (e1 : Int32) (e2 : Int32) (e3 : Int32) (e4 : Int32) (e5 : Int32) (e6 : Int32) (e7 : Int32) (e8 : Int32) (e9 : Int32) (e10 : Int32) (fr : Int32) (hd : Int32) (nw : (Nat → Int32)) (kp : (Nat → Int32)) (pt : (Nat → Int32)) (hr : (Nat → Nat → Int32)) (lr : (Nat → Nat → Int32)) (Q : Int32 → Prop) (below : List Frame) (args : Array Value) (s : State) : State → Prop := MQ below (QC_X0_afterCount D A ad cA tl tx mn sd e0 e1 e2 e3 e4 e5 e6 e7 e8 e9 e10 fr hd nw kp pt hr lr Q) args s 0 0 A
def B_X0_afterCount_27  (Q : Int32 → Prop) (e4 : Int32) (s0 : Int32)  : Prop := (Q s0)
def B_X0_afterCount_26  (Q : Int32 → Prop) (e4 : Int32)   : Prop := (B_X0_afterCount_27  Q e4 (-1 : Int32))
def B_X0_afterCount_0  (Q : Int32 → Prop) (e4 : Int32) (v1 : Int32)  : Prop := ((v1 = (83 : Int32) → (Q (6 : Int32))) ∧ (¬ v1 = (83 : Int32) → ((v1 = (71 : Int32) → ((e4 = 0 → (B_X0_afterCount_27  Q e4 (5 : Int32))) ∧ (¬ e4 = 0 → (B_X0_afterCount_26  Q e4 )))) ∧ (¬ v1 = (71 : Int32) → (B_X0_afterCount_26  Q e4 )))))
def F_X0_afterCount (v1 : Int32) (e4 : Int32)  (Q : Int32 → Prop) : Prop := B_X0_afterCount_0 Q e4 v1 
theorem lkX0_afterCount_23 : Cond.fieldLink RX0 23 (TX0 4).1 (TX0 4).2.1 (TX0 4).2.2.1 ∈ wsX0_afterCount := by decide +kernel
theorem inX0_afterCount_0 : ∀ q ∈ u_ws RX0 TX0 11, q ∈ wsX0_afterCount := by decide +kernel
set_option maxHeartbeats 4000000 in
set_option maxRecDepth 100000 in
theorem t_B_X0_afterCount_27  {Q : Int32 → Prop} (C : CxX p s m args c D (tysX cA) RX0 cX0_afterCount 2 wsX0_afterCount) (hrt9 : meth.sig.returnType = (some .int)) (hlk : meth.locks = false) (s0 : Int32)   (h : B_X0_afterCount_27  Q e4 s0) : GoX p l e rmX0_afterCount s m args below meth c D A 2 0 0 (QP_X0_afterCount D A ad cA tl tx mn sd e0 e1 e2 e3 e4 e5 e6 e7 e8 e9 e10 fr hd nw kp pt hr lr Q below args s) 27 [] [.int s0] (WX ad cA tl tx mn sd e0 e1 e2 e3 e4 e5 e6 e7 e8 e9 e10 fr hd nw kp pt hr lr) := by
  replace h : (Q s0) := h
  exact g_iret C hrt9 hlk (u := ()) rfl h dX0_afterCount_27
set_option maxHeartbeats 4000000 in
set_option maxRecDepth 100000 in
theorem t_B_X0_afterCount_26  {Q : Int32 → Prop} (C : CxX p s m args c D (tysX cA) RX0 cX0_afterCount 2 wsX0_afterCount) (hrt9 : meth.sig.returnType = (some .int)) (hlk : meth.locks = false)    (h : B_X0_afterCount_26  Q e4 ) : GoX p l e rmX0_afterCount s m args below meth c D A 2 0 0 (QP_X0_afterCount D A ad cA tl tx mn sd e0 e1 e2 e3 e4 e5 e6 e7 e8 e9 e10 fr hd nw kp pt hr lr Q below args s) 26 [] [] (WX ad cA tl tx mn sd e0 e1 e2 e3 e4 e5 e6 e7 e8 e9 e10 fr hd nw kp pt hr lr) := by
  replace h : (B_X0_afterCount_27  Q e4 (-1 : Int32)) := h
  refine g_iconst C (-1 : Int32) dX0_afterCount_26 (by decide) ?_
  exact g_sub [] rfl (t_B_X0_afterCount_27 C hrt9 hlk  (-1 : Int32)  h)
set_option maxHeartbeats 4000000 in
set_option maxRecDepth 100000 in
theorem t_B_X0_afterCount_0  {Q : Int32 → Prop} (C : CxX p s m args c D (tysX cA) RX0 cX0_afterCount 2 wsX0_afterCount) (hrt9 : meth.sig.returnType = (some .int)) (hlk : meth.locks = false) (v1 : Int32)   (h : B_X0_afterCount_0  Q e4 v1) : GoX p l e rmX0_afterCount s m args below meth c D A 2 0 0 (QP_X0_afterCount D A ad cA tl tx mn sd e0 e1 e2 e3 e4 e5 e6 e7 e8 e9 e10 fr hd nw kp pt hr lr Q below args s) 0 [(0, .ref (ad 4)), (1, .int v1)] [] (WX ad cA tl tx mn sd e0 e1 e2 e3 e4 e5 e6 e7 e8 e9 e10 fr hd nw kp pt hr lr) := by
  replace h : ((v1 = (83 : Int32) → (Q (6 : Int32))) ∧ (¬ v1 = (83 : Int32) → ((v1 = (71 : Int32) → ((e4 = 0 → (B_X0_afterCount_27  Q e4 (5 : Int32))) ∧ (¬ e4 = 0 → (B_X0_afterCount_26  Q e4 )))) ∧ (¬ v1 = (71 : Int32) → (B_X0_afterCount_26  Q e4 ))))) := h
  refine g_iload_n C 1 dX0_afterCount_0 rfl rfl ?_
  refine g_bipush C (83 : Int32) dX0_afterCount_1 (by decide) ?_
  refine g_icmp_ne C 9 dX0_afterCount_3 (by decide) (fun c_1 => ?_) (fun c_1 => ?_)
  · replace h := h.2 c_1
    refine g_iload_n C 1 dX0_afterCount_9 rfl rfl ?_
    refine g_bipush C (71 : Int32) dX0_afterCount_10 (by decide) ?_
    refine g_icmp_ne C 26 dX0_afterCount_12 (by decide) (fun c_2 => ?_) (fun c_2 => ?_)
    · replace h := h.2 c_2
      exact g_sub [] rfl (t_B_X0_afterCount_26 C hrt9 hlk    h)
    · replace h := h.1 c_2
      refine g_aload_n C 0 dX0_afterCount_15 rfl rfl ?_
      refine g_get C inX0_afterCount_0 4 WXg4 rfl 4 (by decide) lkX0_afterCount_23 rfl dX0_afterCount_16 ?_
      refine g_if_ne C 26 dX0_afterCount_19 (by decide) (fun c_3 => ?_) (fun c_3 => ?_)
      · replace h := h.2 c_3
        exact g_sub [] rfl (t_B_X0_afterCount_26 C hrt9 hlk    h)
      · replace h := h.1 c_3
        refine g_iconst C (5 : Int32) dX0_afterCount_22 (by decide) ?_
        refine g_goto C 27 dX0_afterCount_23 (by decide) ?_
        exact g_sub [] rfl (t_B_X0_afterCount_27 C hrt9 hlk  (5 : Int32)  h)
  · replace h := h.1 c_1
    refine g_bipush C (6 : Int32) dX0_afterCount_6 (by decide) ?_
    exact g_iret C hrt9 hlk (u := ()) rfl h dX0_afterCount_8
theorem c_X0_afterCount (l : Launch) (D : va_G) (A : Nat → Prop) (ad : Nat → Nat) (cA : Nat → ClassId) (v1 : Int32) {tl : Int32} {tx : (Nat → Int32)} {mn : Int32} {sd : (Nat → Int64)} {e0 : Int32} {e1 : Int32} {e2 : Int32} {e3 : Int32} {e4 : Int32} {e5 : Int32} {e6 : Int32} {e7 : Int32} {e8 : Int32} {e9 : Int32} {e10 : Int32} {fr : Int32} {hd : Int32} {nw : (Nat → Int32)} {kp : (Nat → Int32)} {pt : (Nat → Int32)} {hr : (Nat → Nat → Int32)} {lr : (Nat → Nat → Int32)}  (Q : Int32 → Prop) (h : F_X0_afterCount v1 e4 Q) : Met l yX0_afterCount wsX0_afterCount rmX0_afterCount (va_Pc [.ref (ad 4), .int v1] (OKX D (tysX cA) (WX ad cA tl tx mn sd e0 e1 e2 e3 e4 e5 e6 e7 e8 e9 e10 fr hd nw kp pt hr lr) A)) (QC_X0_afterCount D A ad cA tl tx mn sd e0 e1 e2 e3 e4 e5 e6 e7 e8 e9 e10 fr hd nw kp pt hr lr Q) 0 0 A :=
  g_met (own := RX0) (by decide) rfl rfl (Nat.le_of_ble_eq_true rfl) (fun p e s m below meth c C hrt9 hlk _ => g_sub [0, 1] rfl (t_B_X0_afterCount_0 C hrt9 hlk v1   h))
theorem k_X0_afterCount {ws : List Cond} {own : String} {cc : ByteArray} {nL pc index kc ks : Nat} {lv : List (Nat × Value)} {st : List Value} {Q : State → Prop} {R : Room} {K : Int32 → Prop} {v1 : Int32} (C : CxX p s m args c D (tysX cA) own cc nL ws) (hT : GoodIn ws (wsV own index RX0 yX0_afterCount wsX0_afterCount)) (hR : rmX0_afterCount.frames + 1 ≤ R.frames ∧ 8 + (2 + 11) + rmX0_afterCount.locals ≤ R.locals) (hk9 : kc ≤ R.cells ∧ ks ≤ R.slots) (hcat : (st.map fun v => v.category).sum ≤ 8) (hdg : decode cc pc = .ok (.invokevirtual index, 3))  (h : F_X0_afterCount v1 e4 K) (kk : ∀ (r : Int32) , K r → GoX p l e R s m args below meth c D A nL kc ks Q (pc + 3) lv (.int r :: st) (WX ad cA tl tx mn sd e0 e1 e2 e3 e4 e5 e6 e7 e8 e9 e10 fr hd nw kp pt hr lr)) : GoX p l e R s m args below meth c D A nL kc ks Q pc lv (.int v1 :: .ref (ad 4) :: st) (WX ad cA tl tx mn sd e0 e1 e2 e3 e4 e5 e6 e7 e8 e9 e10 fr hd nw kp pt hr lr) :=
  g_callVi C (As := [.int v1]) 1 (c_X0_afterCount l D A ad cA v1  K h) hT rfl rfl rfl (by decide +kernel) hR hk9 4 WXg4 rfl rfl rfl hcat hdg (fun r u hu => kk r  hu)
/-! X0_afterLess -/
abbrev rmX0_afterLess : Room := { frames := 0, cells := 0, slots := 0, locals := 0 }
abbrev QC_X0_afterLess (D : va_G) (A : Nat → Prop) (ad : Nat → Nat) (cA : Nat → ClassId) (tl : Int32) (tx : (Nat → Int32)) (mn : Int32) (sd : (Nat → Int64)) (e0 : Int32) (e1 : Int32) (e2 : Int32) (e3 : Int32) (e4 : Int32) (e5 : Int32) (e6 : Int32) (e7 : Int32) (e8 : Int32) (e9 : Int32) (e10 : Int32) (fr : Int32) (hd : Int32) (nw : (Nat → Int32)) (kp : (Nat → Int32)) (pt : (Nat → Int32)) (hr : (Nat → Nat → Int32)) (lr : (Nat → Nat → Int32)) (Q : Int32 → Prop) : Array Value → State → Outcome → State → Prop := va_Qi (fun (r : Int32) (u : Unit) => Q r ) (fun u t => OKX D (tysX cA) ((fun u : Unit => WX ad cA tl tx mn sd e0 e1 e2 e3 e4 e5 e6 e7 e8 e9 e10 fr hd nw kp pt hr lr) u) A t) A
abbrev QP_X0_afterLess (D : va_G) (A : Nat → Prop) (ad : Nat → Nat) (cA : Nat → ClassId) (tl : Int32) (tx : (Nat → Int32)) (mn : Int32) (sd : (Nat → Int64)) (e0 : Int32) (e1 : Int32) (e2 : Int32) (e3 : Int32) (e4 : Int32) (e5 : Int32) (e6 : Int32) (e7 : Int32) (e8 : Int32) (e9 : Int32) (e10 : Int32) (fr : Int32) (hd : Int32) (nw : (Nat → Int32)) (kp : (Nat → Int32)) (pt : (Nat → Int32)) (hr : (Nat → Nat → Int32)) (lr : (Nat → Nat → Int32)) (Q : Int32 → Prop) (below : List Frame) (args : Array Value) (s : State) : State → Prop := MQ below (QC_X0_afterLess D A ad cA tl tx mn sd e0 e1 e2 e3 e4 e5 e6 e7 e8 e9 e10 fr hd nw kp pt hr lr Q) args s 0 0 A
def B_X0_afterLess_52  (Q : Int32 → Prop)  (s0 : Int32)  : Prop := (Q s0)
def B_X0_afterLess_51  (Q : Int32 → Prop)    : Prop := (B_X0_afterLess_52  Q  (-1 : Int32))
def B_X0_afterLess_0  (Q : Int32 → Prop)  (v1 : Int32)  : Prop := ((v1 = (72 : Int32) → (Q (9 : Int32))) ∧ (¬ v1 = (72 : Int32) → ((v1 = (83 : Int32) → (Q (11 : Int32))) ∧ (¬ v1 = (83 : Int32) → ((v1 < (98 : Int32) → (B_X0_afterLess_51  Q  )) ∧ (¬ v1 < (98 : Int32) → (((115 : Int32) < v1 → (B_X0_afterLess_51  Q  )) ∧ (¬ (115 : Int32) < v1 → (B_X0_afterLess_52  Q  (10 : Int32))))))))))
def F_X0_afterLess (v1 : Int32)   (Q : Int32 → Prop) : Prop := B_X0_afterLess_0 Q  v1 
set_option maxHeartbeats 4000000 in
set_option maxRecDepth 100000 in
theorem t_B_X0_afterLess_52  {Q : Int32 → Prop} (C : CxX p s m args c D (tysX cA) RX0 cX0_afterLess 2 wsX0_afterLess) (hrt9 : meth.sig.returnType = (some .int)) (hlk : meth.locks = false) (s0 : Int32)   (h : B_X0_afterLess_52  Q  s0) : GoX p l e rmX0_afterLess s m args below meth c D A 2 0 0 (QP_X0_afterLess D A ad cA tl tx mn sd e0 e1 e2 e3 e4 e5 e6 e7 e8 e9 e10 fr hd nw kp pt hr lr Q below args s) 52 [] [.int s0] (WX ad cA tl tx mn sd e0 e1 e2 e3 e4 e5 e6 e7 e8 e9 e10 fr hd nw kp pt hr lr) := by
  replace h : (Q s0) := h
  exact g_iret C hrt9 hlk (u := ()) rfl h dX0_afterLess_52
set_option maxHeartbeats 4000000 in
set_option maxRecDepth 100000 in
theorem t_B_X0_afterLess_51  {Q : Int32 → Prop} (C : CxX p s m args c D (tysX cA) RX0 cX0_afterLess 2 wsX0_afterLess) (hrt9 : meth.sig.returnType = (some .int)) (hlk : meth.locks = false)    (h : B_X0_afterLess_51  Q  ) : GoX p l e rmX0_afterLess s m args below meth c D A 2 0 0 (QP_X0_afterLess D A ad cA tl tx mn sd e0 e1 e2 e3 e4 e5 e6 e7 e8 e9 e10 fr hd nw kp pt hr lr Q below args s) 51 [] [] (WX ad cA tl tx mn sd e0 e1 e2 e3 e4 e5 e6 e7 e8 e9 e10 fr hd nw kp pt hr lr) := by
  replace h : (B_X0_afterLess_52  Q  (-1 : Int32)) := h
  refine g_iconst C (-1 : Int32) dX0_afterLess_51 (by decide) ?_
  exact g_sub [] rfl (t_B_X0_afterLess_52 C hrt9 hlk  (-1 : Int32)  h)
set_option maxHeartbeats 4000000 in
set_option maxRecDepth 100000 in
theorem t_B_X0_afterLess_0  {Q : Int32 → Prop} (C : CxX p s m args c D (tysX cA) RX0 cX0_afterLess 2 wsX0_afterLess) (hrt9 : meth.sig.returnType = (some .int)) (hlk : meth.locks = false) (v1 : Int32)   (h : B_X0_afterLess_0  Q  v1) : GoX p l e rmX0_afterLess s m args below meth c D A 2 0 0 (QP_X0_afterLess D A ad cA tl tx mn sd e0 e1 e2 e3 e4 e5 e6 e7 e8 e9 e10 fr hd nw kp pt hr lr Q below args s) 0 [(1, .int v1)] [] (WX ad cA tl tx mn sd e0 e1 e2 e3 e4 e5 e6 e7 e8 e9 e10 fr hd nw kp pt hr lr) := by
  replace h : ((v1 = (72 : Int32) → (Q (9 : Int32))) ∧ (¬ v1 = (72 : Int32) → ((v1 = (83 : Int32) → (Q (11 : Int32))) ∧ (¬ v1 = (83 : Int32) → ((v1 < (98 : Int32) → (B_X0_afterLess_51  Q  )) ∧ (¬ v1 < (98 : Int32) → (((115 : Int32) < v1 → (B_X0_afterLess_51  Q  )) ∧ (¬ (115 : Int32) < v1 → (B_X0_afterLess_52  Q  (10 : Int32)))))))))) := h
  refine g_iload_n C 0 dX0_afterLess_0 rfl rfl ?_
  by_cases c_1 : v1 = (72 : Int32)
  · refine g_lookup C (27) 28 dX0_afterLess_1 (by decide) (by rw [c_1]; decide) (by decide) ?_
    replace h := h.1 c_1
    refine g_bipush C (9 : Int32) dX0_afterLess_28 (by decide) ?_
    exact g_iret C hrt9 hlk (u := ()) rfl h dX0_afterLess_30
  · replace h := h.2 c_1
    by_cases c_2 : v1 = (83 : Int32)
    · refine g_lookup C (30) 31 dX0_afterLess_1 (by decide) (by rw [c_2]; decide) (by decide) ?_
      replace h := h.1 c_2
      refine g_bipush C (11 : Int32) dX0_afterLess_31 (by decide) ?_
      exact g_iret C hrt9 hlk (u := ()) rfl h dX0_afterLess_33
    · replace h := h.2 c_2
      refine g_lookup C (33) 34 dX0_afterLess_1 (by decide) ((lv_osw c_1 (by decide)).trans <| (lv_osw c_2 (by decide)).trans <| rfl) (by decide) ?_
      refine g_iload_n C 0 dX0_afterLess_34 rfl rfl ?_
      refine g_bipush C (98 : Int32) dX0_afterLess_35 (by decide) ?_
      refine g_icmp_lt C 51 dX0_afterLess_37 (by decide) (fun c_3 => ?_) (fun c_3 => ?_)
      · replace h := h.1 c_3
        exact g_sub [] rfl (t_B_X0_afterLess_51 C hrt9 hlk    h)
      · replace h := h.2 c_3
        refine g_iload_n C 0 dX0_afterLess_40 rfl rfl ?_
        refine g_bipush C (115 : Int32) dX0_afterLess_41 (by decide) ?_
        refine g_icmp_gt C 51 dX0_afterLess_43 (by decide) (fun c_4 => ?_) (fun c_4 => ?_)
        · replace h := h.1 c_4
          exact g_sub [] rfl (t_B_X0_afterLess_51 C hrt9 hlk    h)
        · replace h := h.2 c_4
          refine g_bipush C (10 : Int32) dX0_afterLess_46 (by decide) ?_
          refine g_goto C 52 dX0_afterLess_48 (by decide) ?_
          exact g_sub [] rfl (t_B_X0_afterLess_52 C hrt9 hlk  (10 : Int32)  h)
theorem c_X0_afterLess (l : Launch) (D : va_G) (A : Nat → Prop) (ad : Nat → Nat) (cA : Nat → ClassId) (v1 : Int32) {tl : Int32} {tx : (Nat → Int32)} {mn : Int32} {sd : (Nat → Int64)} {e0 : Int32} {e1 : Int32} {e2 : Int32} {e3 : Int32} {e4 : Int32} {e5 : Int32} {e6 : Int32} {e7 : Int32} {e8 : Int32} {e9 : Int32} {e10 : Int32} {fr : Int32} {hd : Int32} {nw : (Nat → Int32)} {kp : (Nat → Int32)} {pt : (Nat → Int32)} {hr : (Nat → Nat → Int32)} {lr : (Nat → Nat → Int32)}  (Q : Int32 → Prop) (h : F_X0_afterLess v1 Q) : Met l yX0_afterLess wsX0_afterLess rmX0_afterLess (va_Pc [.ref (ad 4), .int v1] (OKX D (tysX cA) (WX ad cA tl tx mn sd e0 e1 e2 e3 e4 e5 e6 e7 e8 e9 e10 fr hd nw kp pt hr lr) A)) (QC_X0_afterLess D A ad cA tl tx mn sd e0 e1 e2 e3 e4 e5 e6 e7 e8 e9 e10 fr hd nw kp pt hr lr Q) 0 0 A :=
  g_met (own := RX0) (by decide) rfl rfl (Nat.le_of_ble_eq_true rfl) (fun p e s m below meth c C hrt9 hlk _ => g_sub [1] rfl (t_B_X0_afterLess_0 C hrt9 hlk v1   h))
theorem k_X0_afterLess {ws : List Cond} {own : String} {cc : ByteArray} {nL pc index kc ks : Nat} {lv : List (Nat × Value)} {st : List Value} {Q : State → Prop} {R : Room} {K : Int32 → Prop} {v1 : Int32} (C : CxX p s m args c D (tysX cA) own cc nL ws) (hT : GoodIn ws (wsV own index RX0 yX0_afterLess wsX0_afterLess)) (hR : rmX0_afterLess.frames + 1 ≤ R.frames ∧ 8 + (2 + 11) + rmX0_afterLess.locals ≤ R.locals) (hk9 : kc ≤ R.cells ∧ ks ≤ R.slots) (hcat : (st.map fun v => v.category).sum ≤ 8) (hdg : decode cc pc = .ok (.invokevirtual index, 3))  (h : F_X0_afterLess v1 K) (kk : ∀ (r : Int32) , K r → GoX p l e R s m args below meth c D A nL kc ks Q (pc + 3) lv (.int r :: st) (WX ad cA tl tx mn sd e0 e1 e2 e3 e4 e5 e6 e7 e8 e9 e10 fr hd nw kp pt hr lr)) : GoX p l e R s m args below meth c D A nL kc ks Q pc lv (.int v1 :: .ref (ad 4) :: st) (WX ad cA tl tx mn sd e0 e1 e2 e3 e4 e5 e6 e7 e8 e9 e10 fr hd nw kp pt hr lr) :=
  g_callVi C (As := [.int v1]) 1 (c_X0_afterLess l D A ad cA v1  K h) hT rfl rfl rfl (by decide +kernel) hR hk9 4 WXg4 rfl rfl rfl hcat hdg (fun r u hu => kk r  hu)
/-! X0_following -/
abbrev rmX0_following : Room := { frames := 1, cells := 0, slots := 0, locals := 21 }
abbrev QC_X0_following (D : va_G) (A : Nat → Prop) (ad : Nat → Nat) (cA : Nat → ClassId) (tl : Int32) (tx : (Nat → Int32)) (mn : Int32) (sd : (Nat → Int64)) (e0 : Int32) (e1 : Int32) (e2 : Int32) (e3 : Int32) (e4 : Int32) (e5 : Int32) (e6 : Int32) (e7 : Int32) (e8 : Int32) (e9 : Int32) (e10 : Int32) (fr : Int32) (hd : Int32) (nw : (Nat → Int32)) (kp : (Nat → Int32)) (pt : (Nat → Int32)) (hr : (Nat → Nat → Int32)) (lr : (Nat → Nat → Int32)) (Q : Int32 → Prop) : Array Value → State → Outcome → State → Prop := va_Qi (fun (r : Int32) (u : Unit) => Q r ) (fun u t => OKX D (tysX cA) ((fun u : Unit => WX ad cA tl tx mn sd e0 e1 e2 e3 e4 e5 e6 e7 e8 e9 e10 fr hd nw kp pt hr lr) u) A t) A
abbrev QP_X0_following (D : va_G) (A : Nat → Prop) (ad : Nat → Nat) (cA : Nat → ClassId) (tl : Int32) (tx : (Nat → Int32)) (mn : Int32) (sd : (Nat → Int64)) (e0 : Int32) (e1 : Int32) (e2 : Int32) (e3 : Int32) (e4 : Int32) (e5 : Int32) (e6 : Int32) (e7 : Int32) (e8 : Int32) (e9 : Int32) (e10 : Int32) (fr : Int32) (hd : Int32) (nw : (Nat → Int32)) (kp : (Nat → Int32)) (pt : (Nat → Int32)) (hr : (Nat → Nat → Int32)) (lr : (Nat → Nat → Int32)) (Q : Int32 → Prop) (below : List Frame) (args : Array Value) (s : State) : State → Prop := MQ below (QC_X0_following D A ad cA tl tx mn sd e0 e1 e2 e3 e4 e5 e6 e7 e8 e9 e10 fr hd nw kp pt hr lr Q) args s 0 0 A
def B_X0_following_190  (Q : Int32 → Prop) (e3 : Int32) (e4 : Int32) (s0 : Int32)  : Prop := (Q s0)
def B_X0_following_177  (Q : Int32 → Prop) (e3 : Int32) (e4 : Int32) (s0 : Int32)  : Prop := (Q s0)
def B_X0_following_157  (Q : Int32 → Prop) (e3 : Int32) (e4 : Int32) (s0 : Int32)  : Prop := (Q s0)
def B_X0_following_143  (Q : Int32 → Prop) (e3 : Int32) (e4 : Int32) (s0 : Int32)  : Prop := (Q s0)
def B_X0_following_130  (Q : Int32 → Prop) (e3 : Int32) (e4 : Int32) (s0 : Int32)  : Prop := (Q s0)
def B_X0_following_118  (Q : Int32 → Prop) (e3 : Int32) (e4 : Int32) (s0 : Int32)  : Prop := (Q s0)
def B_X0_following_105  (Q : Int32 → Prop) (e3 : Int32) (e4 : Int32) (s0 : Int32)  : Prop := (Q s0)
def B_X0_following_82  (Q : Int32 → Prop) (e3 : Int32) (e4 : Int32) (s0 : Int32)  : Prop := (Q s0)
def B_X0_following_0  (Q : Int32 → Prop) (e3 : Int32) (e4 : Int32) (v1 : Int32)  : Prop := ((e3 = (0 : Int32) → (F_X0_afterStart v1 e4 (fun r_2 => (Q r_2)))) ∧ (¬ e3 = (0 : Int32) → ((e3 = (1 : Int32) → (F_X0_isCountUnit v1 (fun r_4 => ((r_4 = 0 → (B_X0_following_82  Q e3 e4 (-1 : Int32))) ∧ (¬ r_4 = 0 → (B_X0_following_82  Q e3 e4 (2 : Int32))))))) ∧ (¬ e3 = (1 : Int32) → ((e3 = (2 : Int32) → (F_X0_afterCount v1 e4 (fun r_7 => (Q r_7)))) ∧ (¬ e3 = (2 : Int32) → ((e3 = (3 : Int32) → ((v1 = (45 : Int32) → (B_X0_following_105  Q e3 e4 (8 : Int32))) ∧ (¬ v1 = (45 : Int32) → (F_X0_afterCount v1 e4 (fun r_10 => (B_X0_following_105  Q e3 e4 r_10)))))) ∧ (¬ e3 = (3 : Int32) → ((e3 = (4 : Int32) → ((v1 = (45 : Int32) → (B_X0_following_118  Q e3 e4 (8 : Int32))) ∧ (¬ v1 = (45 : Int32) → (B_X0_following_118  Q e3 e4 (-1 : Int32))))) ∧ (¬ e3 = (4 : Int32) → ((e3 = (5 : Int32) → ((v1 = (38 : Int32) → (B_X0_following_130  Q e3 e4 (0 : Int32))) ∧ (¬ v1 = (38 : Int32) → (B_X0_following_130  Q e3 e4 (-1 : Int32))))) ∧ (¬ e3 = (5 : Int32) → ((e3 = (6 : Int32) → ((v1 = (43 : Int32) → (B_X0_following_143  Q e3 e4 (7 : Int32))) ∧ (¬ v1 = (43 : Int32) → (B_X0_following_143  Q e3 e4 (-1 : Int32))))) ∧ (¬ e3 = (6 : Int32) → ((e3 = (7 : Int32) → (F_X0_isUnit v1 (fun r_18 => ((r_18 = 0 → (B_X0_following_157  Q e3 e4 (-1 : Int32))) ∧ (¬ r_18 = 0 → (B_X0_following_157  Q e3 e4 (11 : Int32))))))) ∧ (¬ e3 = (7 : Int32) → ((e3 = (8 : Int32) → (F_X0_afterLess v1 (fun r_21 => (Q r_21)))) ∧ (¬ e3 = (8 : Int32) → ((e3 = (9 : Int32) → (F_X0_isCountUnit v1 (fun r_23 => ((r_23 = 0 → (B_X0_following_177  Q e3 e4 (-1 : Int32))) ∧ (¬ r_23 = 0 → (B_X0_following_177  Q e3 e4 (10 : Int32))))))) ∧ (¬ e3 = (9 : Int32) → ((e3 = (10 : Int32) → ((v1 = (83 : Int32) → (B_X0_following_190  Q e3 e4 (11 : Int32))) ∧ (¬ v1 = (83 : Int32) → (B_X0_following_190  Q e3 e4 (-1 : Int32))))) ∧ (¬ e3 = (10 : Int32) → (Q (-1 : Int32))))))))))))))))))))))))
def F_X0_following (v1 : Int32) (e3 : Int32) (e4 : Int32)  (Q : Int32 → Prop) : Prop := B_X0_following_0 Q e3 e4 v1 
theorem lkX0_following_19 : Cond.fieldLink RX0 19 (TX0 3).1 (TX0 3).2.1 (TX0 3).2.2.1 ∈ wsX0_following := by decide +kernel
theorem inX0_following_0 : ∀ q ∈ u_ws RX0 TX0 11, q ∈ wsX0_following := by decide +kernel
set_option maxHeartbeats 4000000 in
set_option maxRecDepth 100000 in
theorem t_B_X0_following_190  {Q : Int32 → Prop} (C : CxX p s m args c D (tysX cA) RX0 cX0_following 2 wsX0_following) (hrt9 : meth.sig.returnType = (some .int)) (hlk : meth.locks = false) (s0 : Int32)   (h : B_X0_following_190  Q e3 e4 s0) : GoX p l e rmX0_following s m args below meth c D A 2 0 0 (QP_X0_following D A ad cA tl tx mn sd e0 e1 e2 e3 e4 e5 e6 e7 e8 e9 e10 fr hd nw kp pt hr lr Q below args s) 190 [] [.int s0] (WX ad cA tl tx mn sd e0 e1 e2 e3 e4 e5 e6 e7 e8 e9 e10 fr hd nw kp pt hr lr) := by
  replace h : (Q s0) := h
  exact g_iret C hrt9 hlk (u := ()) rfl h dX0_following_190
set_option maxHeartbeats 4000000 in
set_option maxRecDepth 100000 in
theorem t_B_X0_following_177  {Q : Int32 → Prop} (C : CxX p s m args c D (tysX cA) RX0 cX0_following 2 wsX0_following) (hrt9 : meth.sig.returnType = (some .int)) (hlk : meth.locks = false) (s0 : Int32)   (h : B_X0_following_177  Q e3 e4 s0) : GoX p l e rmX0_following s m args below meth c D A 2 0 0 (QP_X0_following D A ad cA tl tx mn sd e0 e1 e2 e3 e4 e5 e6 e7 e8 e9 e10 fr hd nw kp pt hr lr Q below args s) 177 [] [.int s0] (WX ad cA tl tx mn sd e0 e1 e2 e3 e4 e5 e6 e7 e8 e9 e10 fr hd nw kp pt hr lr) := by
  replace h : (Q s0) := h
  exact g_iret C hrt9 hlk (u := ()) rfl h dX0_following_177
set_option maxHeartbeats 4000000 in
set_option maxRecDepth 100000 in
theorem t_B_X0_following_157  {Q : Int32 → Prop} (C : CxX p s m args c D (tysX cA) RX0 cX0_following 2 wsX0_following) (hrt9 : meth.sig.returnType = (some .int)) (hlk : meth.locks = false) (s0 : Int32)   (h : B_X0_following_157  Q e3 e4 s0) : GoX p l e rmX0_following s m args below meth c D A 2 0 0 (QP_X0_following D A ad cA tl tx mn sd e0 e1 e2 e3 e4 e5 e6 e7 e8 e9 e10 fr hd nw kp pt hr lr Q below args s) 157 [] [.int s0] (WX ad cA tl tx mn sd e0 e1 e2 e3 e4 e5 e6 e7 e8 e9 e10 fr hd nw kp pt hr lr) := by
  replace h : (Q s0) := h
  exact g_iret C hrt9 hlk (u := ()) rfl h dX0_following_157
set_option maxHeartbeats 4000000 in
set_option maxRecDepth 100000 in
theorem t_B_X0_following_143  {Q : Int32 → Prop} (C : CxX p s m args c D (tysX cA) RX0 cX0_following 2 wsX0_following) (hrt9 : meth.sig.returnType = (some .int)) (hlk : meth.locks = false) (s0 : Int32)   (h : B_X0_following_143  Q e3 e4 s0) : GoX p l e rmX0_following s m args below meth c D A 2 0 0 (QP_X0_following D A ad cA tl tx mn sd e0 e1 e2 e3 e4 e5 e6 e7 e8 e9 e10 fr hd nw kp pt hr lr Q below args s) 143 [] [.int s0] (WX ad cA tl tx mn sd e0 e1 e2 e3 e4 e5 e6 e7 e8 e9 e10 fr hd nw kp pt hr lr) := by
  replace h : (Q s0) := h
  exact g_iret C hrt9 hlk (u := ()) rfl h dX0_following_143
set_option maxHeartbeats 4000000 in
set_option maxRecDepth 100000 in
theorem t_B_X0_following_130  {Q : Int32 → Prop} (C : CxX p s m args c D (tysX cA) RX0 cX0_following 2 wsX0_following) (hrt9 : meth.sig.returnType = (some .int)) (hlk : meth.locks = false) (s0 : Int32)   (h : B_X0_following_130  Q e3 e4 s0) : GoX p l e rmX0_following s m args below meth c D A 2 0 0 (QP_X0_following D A ad cA tl tx mn sd e0 e1 e2 e3 e4 e5 e6 e7 e8 e9 e10 fr hd nw kp pt hr lr Q below args s) 130 [] [.int s0] (WX ad cA tl tx mn sd e0 e1 e2 e3 e4 e5 e6 e7 e8 e9 e10 fr hd nw kp pt hr lr) := by
  replace h : (Q s0) := h
  exact g_iret C hrt9 hlk (u := ()) rfl h dX0_following_130
set_option maxHeartbeats 4000000 in
set_option maxRecDepth 100000 in
theorem t_B_X0_following_118  {Q : Int32 → Prop} (C : CxX p s m args c D (tysX cA) RX0 cX0_following 2 wsX0_following) (hrt9 : meth.sig.returnType = (some .int)) (hlk : meth.locks = false) (s0 : Int32)   (h : B_X0_following_118  Q e3 e4 s0) : GoX p l e rmX0_following s m args below meth c D A 2 0 0 (QP_X0_following D A ad cA tl tx mn sd e0 e1 e2 e3 e4 e5 e6 e7 e8 e9 e10 fr hd nw kp pt hr lr Q below args s) 118 [] [.int s0] (WX ad cA tl tx mn sd e0 e1 e2 e3 e4 e5 e6 e7 e8 e9 e10 fr hd nw kp pt hr lr) := by
  replace h : (Q s0) := h
  exact g_iret C hrt9 hlk (u := ()) rfl h dX0_following_118
set_option maxHeartbeats 4000000 in
set_option maxRecDepth 100000 in
theorem t_B_X0_following_105  {Q : Int32 → Prop} (C : CxX p s m args c D (tysX cA) RX0 cX0_following 2 wsX0_following) (hrt9 : meth.sig.returnType = (some .int)) (hlk : meth.locks = false) (s0 : Int32)   (h : B_X0_following_105  Q e3 e4 s0) : GoX p l e rmX0_following s m args below meth c D A 2 0 0 (QP_X0_following D A ad cA tl tx mn sd e0 e1 e2 e3 e4 e5 e6 e7 e8 e9 e10 fr hd nw kp pt hr lr Q below args s) 105 [] [.int s0] (WX ad cA tl tx mn sd e0 e1 e2 e3 e4 e5 e6 e7 e8 e9 e10 fr hd nw kp pt hr lr) := by
  replace h : (Q s0) := h
  exact g_iret C hrt9 hlk (u := ()) rfl h dX0_following_105
set_option maxHeartbeats 4000000 in
set_option maxRecDepth 100000 in
theorem t_B_X0_following_82  {Q : Int32 → Prop} (C : CxX p s m args c D (tysX cA) RX0 cX0_following 2 wsX0_following) (hrt9 : meth.sig.returnType = (some .int)) (hlk : meth.locks = false) (s0 : Int32)   (h : B_X0_following_82  Q e3 e4 s0) : GoX p l e rmX0_following s m args below meth c D A 2 0 0 (QP_X0_following D A ad cA tl tx mn sd e0 e1 e2 e3 e4 e5 e6 e7 e8 e9 e10 fr hd nw kp pt hr lr Q below args s) 82 [] [.int s0] (WX ad cA tl tx mn sd e0 e1 e2 e3 e4 e5 e6 e7 e8 e9 e10 fr hd nw kp pt hr lr) := by
  replace h : (Q s0) := h
  exact g_iret C hrt9 hlk (u := ()) rfl h dX0_following_82
set_option maxHeartbeats 4000000 in
set_option maxRecDepth 100000 in
theorem t_B_X0_following_0  {Q : Int32 → Prop} (C : CxX p s m args c D (tysX cA) RX0 cX0_following 2 wsX0_following) (hrt9 : meth.sig.returnType = (some .int)) (hlk : meth.locks = false) (v1 : Int32)   (h : B_X0_following_0  Q e3 e4 v1) : GoX p l e rmX0_following s m args below meth c D A 2 0 0 (QP_X0_following D A ad cA tl tx mn sd e0 e1 e2 e3 e4 e5 e6 e7 e8 e9 e10 fr hd nw kp pt hr lr Q below args s) 0 [(0, .ref (ad 4)), (1, .int v1)] [] (WX ad cA tl tx mn sd e0 e1 e2 e3 e4 e5 e6 e7 e8 e9 e10 fr hd nw kp pt hr lr) := by
  replace h : ((e3 = (0 : Int32) → (F_X0_afterStart v1 e4 (fun r_2 => (Q r_2)))) ∧ (¬ e3 = (0 : Int32) → ((e3 = (1 : Int32) → (F_X0_isCountUnit v1 (fun r_4 => ((r_4 = 0 → (B_X0_following_82  Q e3 e4 (-1 : Int32))) ∧ (¬ r_4 = 0 → (B_X0_following_82  Q e3 e4 (2 : Int32))))))) ∧ (¬ e3 = (1 : Int32) → ((e3 = (2 : Int32) → (F_X0_afterCount v1 e4 (fun r_7 => (Q r_7)))) ∧ (¬ e3 = (2 : Int32) → ((e3 = (3 : Int32) → ((v1 = (45 : Int32) → (B_X0_following_105  Q e3 e4 (8 : Int32))) ∧ (¬ v1 = (45 : Int32) → (F_X0_afterCount v1 e4 (fun r_10 => (B_X0_following_105  Q e3 e4 r_10)))))) ∧ (¬ e3 = (3 : Int32) → ((e3 = (4 : Int32) → ((v1 = (45 : Int32) → (B_X0_following_118  Q e3 e4 (8 : Int32))) ∧ (¬ v1 = (45 : Int32) → (B_X0_following_118  Q e3 e4 (-1 : Int32))))) ∧ (¬ e3 = (4 : Int32) → ((e3 = (5 : Int32) → ((v1 = (38 : Int32) → (B_X0_following_130  Q e3 e4 (0 : Int32))) ∧ (¬ v1 = (38 : Int32) → (B_X0_following_130  Q e3 e4 (-1 : Int32))))) ∧ (¬ e3 = (5 : Int32) → ((e3 = (6 : Int32) → ((v1 = (43 : Int32) → (B_X0_following_143  Q e3 e4 (7 : Int32))) ∧ (¬ v1 = (43 : Int32) → (B_X0_following_143  Q e3 e4 (-1 : Int32))))) ∧ (¬ e3 = (6 : Int32) → ((e3 = (7 : Int32) → (F_X0_isUnit v1 (fun r_18 => ((r_18 = 0 → (B_X0_following_157  Q e3 e4 (-1 : Int32))) ∧ (¬ r_18 = 0 → (B_X0_following_157  Q e3 e4 (11 : Int32))))))) ∧ (¬ e3 = (7 : Int32) → ((e3 = (8 : Int32) → (F_X0_afterLess v1 (fun r_21 => (Q r_21)))) ∧ (¬ e3 = (8 : Int32) → ((e3 = (9 : Int32) → (F_X0_isCountUnit v1 (fun r_23 => ((r_23 = 0 → (B_X0_following_177  Q e3 e4 (-1 : Int32))) ∧ (¬ r_23 = 0 → (B_X0_following_177  Q e3 e4 (10 : Int32))))))) ∧ (¬ e3 = (9 : Int32) → ((e3 = (10 : Int32) → ((v1 = (83 : Int32) → (B_X0_following_190  Q e3 e4 (11 : Int32))) ∧ (¬ v1 = (83 : Int32) → (B_X0_following_190  Q e3 e4 (-1 : Int32))))) ∧ (¬ e3 = (10 : Int32) → (Q (-1 : Int32)))))))))))))))))))))))) := h
  refine g_aload_n C 0 dX0_following_0 rfl rfl ?_
  refine g_get C inX0_following_0 4 WXg4 rfl 3 (by decide) lkX0_following_19 rfl dX0_following_1 ?_
  by_cases c_1 : e3 = (0 : Int32)
  · refine g_tableIn C 60 64 dX0_following_4 (by rw [c_1]; decide) (by rw [c_1]; decide) (by rw [c_1]; decide) (by decide) ?_
    replace h := h.1 c_1
    refine g_aload_n C 0 dX0_following_64 rfl rfl ?_
    refine g_iload_n C 1 dX0_following_65 rfl rfl ?_
    refine k_X0_afterStart C gX0_following_X0_afterStart ⟨Nat.le_of_ble_eq_true rfl, Nat.le_of_ble_eq_true rfl⟩ ⟨Nat.zero_le _, Nat.zero_le _⟩ (Nat.le_of_ble_eq_true rfl) dX0_following_66  h (fun r_2 h => ?_)
    exact g_iret C hrt9 hlk (u := ()) rfl h dX0_following_69
  · replace h := h.2 c_1
    by_cases c_3 : e3 = (1 : Int32)
    · refine g_tableIn C 66 70 dX0_following_4 (by rw [c_3]; decide) (by rw [c_3]; decide) (by rw [c_3]; decide) (by decide) ?_
      replace h := h.1 c_3
      refine g_iload_n C 1 dX0_following_70 rfl rfl ?_
      refine k_X0_isCountUnit C gX0_following_X0_isCountUnit ⟨Nat.le_of_ble_eq_true rfl, Nat.le_of_ble_eq_true rfl⟩ ⟨Nat.zero_le _, Nat.zero_le _⟩ (Nat.le_of_ble_eq_true rfl) dX0_following_71  h (fun r_4 h => ?_)
      refine g_if_eq C 81 dX0_following_74 (by decide) (fun c_5 => ?_) (fun c_5 => ?_)
      · replace h := h.1 c_5
        refine g_iconst C (-1 : Int32) dX0_following_81 (by decide) ?_
        exact g_sub [] rfl (t_B_X0_following_82 C hrt9 hlk  (-1 : Int32)  h)
      · replace h := h.2 c_5
        refine g_iconst C (2 : Int32) dX0_following_77 (by decide) ?_
        refine g_goto C 82 dX0_following_78 (by decide) ?_
        exact g_sub [] rfl (t_B_X0_following_82 C hrt9 hlk  (2 : Int32)  h)
    · replace h := h.2 c_3
      by_cases c_6 : e3 = (2 : Int32)
      · refine g_tableIn C 79 83 dX0_following_4 (by rw [c_6]; decide) (by rw [c_6]; decide) (by rw [c_6]; decide) (by decide) ?_
        replace h := h.1 c_6
        refine g_aload_n C 0 dX0_following_83 rfl rfl ?_
        refine g_iload_n C 1 dX0_following_84 rfl rfl ?_
        refine k_X0_afterCount C gX0_following_X0_afterCount ⟨Nat.le_of_ble_eq_true rfl, Nat.le_of_ble_eq_true rfl⟩ ⟨Nat.zero_le _, Nat.zero_le _⟩ (Nat.le_of_ble_eq_true rfl) dX0_following_85  h (fun r_7 h => ?_)
        exact g_iret C hrt9 hlk (u := ()) rfl h dX0_following_88
      · replace h := h.2 c_6
        by_cases c_8 : e3 = (3 : Int32)
        · refine g_tableIn C 85 89 dX0_following_4 (by rw [c_8]; decide) (by rw [c_8]; decide) (by rw [c_8]; decide) (by decide) ?_
          replace h := h.1 c_8
          refine g_iload_n C 1 dX0_following_89 rfl rfl ?_
          refine g_bipush C (45 : Int32) dX0_following_90 (by decide) ?_
          refine g_icmp_ne C 100 dX0_following_92 (by decide) (fun c_9 => ?_) (fun c_9 => ?_)
          · replace h := h.2 c_9
            refine g_aload_n C 0 dX0_following_100 rfl rfl ?_
            refine g_iload_n C 1 dX0_following_101 rfl rfl ?_
            refine k_X0_afterCount C gX0_following_X0_afterCount ⟨Nat.le_of_ble_eq_true rfl, Nat.le_of_ble_eq_true rfl⟩ ⟨Nat.zero_le _, Nat.zero_le _⟩ (Nat.le_of_ble_eq_true rfl) dX0_following_102  h (fun r_10 h => ?_)
            exact g_sub [] rfl (t_B_X0_following_105 C hrt9 hlk  r_10  h)
          · replace h := h.1 c_9
            refine g_bipush C (8 : Int32) dX0_following_95 (by decide) ?_
            refine g_goto C 105 dX0_following_97 (by decide) ?_
            exact g_sub [] rfl (t_B_X0_following_105 C hrt9 hlk  (8 : Int32)  h)
        · replace h := h.2 c_8
          by_cases c_11 : e3 = (4 : Int32)
          · refine g_tableIn C 102 106 dX0_following_4 (by rw [c_11]; decide) (by rw [c_11]; decide) (by rw [c_11]; decide) (by decide) ?_
            replace h := h.1 c_11
            refine g_iload_n C 1 dX0_following_106 rfl rfl ?_
            refine g_bipush C (45 : Int32) dX0_following_107 (by decide) ?_
            refine g_icmp_ne C 117 dX0_following_109 (by decide) (fun c_12 => ?_) (fun c_12 => ?_)
            · replace h := h.2 c_12
              refine g_iconst C (-1 : Int32) dX0_following_117 (by decide) ?_
              exact g_sub [] rfl (t_B_X0_following_118 C hrt9 hlk  (-1 : Int32)  h)
            · replace h := h.1 c_12
              refine g_bipush C (8 : Int32) dX0_following_112 (by decide) ?_
              refine g_goto C 118 dX0_following_114 (by decide) ?_
              exact g_sub [] rfl (t_B_X0_following_118 C hrt9 hlk  (8 : Int32)  h)
          · replace h := h.2 c_11
            by_cases c_13 : e3 = (5 : Int32)
            · refine g_tableIn C 115 119 dX0_following_4 (by rw [c_13]; decide) (by rw [c_13]; decide) (by rw [c_13]; decide) (by decide) ?_
              replace h := h.1 c_13
              refine g_iload_n C 1 dX0_following_119 rfl rfl ?_
              refine g_bipush C (38 : Int32) dX0_following_120 (by decide) ?_
              refine g_icmp_ne C 129 dX0_following_122 (by decide) (fun c_14 => ?_) (fun c_14 => ?_)
              · replace h := h.2 c_14
                refine g_iconst C (-1 : Int32) dX0_following_129 (by decide) ?_
                exact g_sub [] rfl (t_B_X0_following_130 C hrt9 hlk  (-1 : Int32)  h)
              · replace h := h.1 c_14
                refine g_iconst C (0 : Int32) dX0_following_125 (by decide) ?_
                refine g_goto C 130 dX0_following_126 (by decide) ?_
                exact g_sub [] rfl (t_B_X0_following_130 C hrt9 hlk  (0 : Int32)  h)
            · replace h := h.2 c_13
              by_cases c_15 : e3 = (6 : Int32)
              · refine g_tableIn C 127 131 dX0_following_4 (by rw [c_15]; decide) (by rw [c_15]; decide) (by rw [c_15]; decide) (by decide) ?_
                replace h := h.1 c_15
                refine g_iload_n C 1 dX0_following_131 rfl rfl ?_
                refine g_bipush C (43 : Int32) dX0_following_132 (by decide) ?_
                refine g_icmp_ne C 142 dX0_following_134 (by decide) (fun c_16 => ?_) (fun c_16 => ?_)
                · replace h := h.2 c_16
                  refine g_iconst C (-1 : Int32) dX0_following_142 (by decide) ?_
                  exact g_sub [] rfl (t_B_X0_following_143 C hrt9 hlk  (-1 : Int32)  h)
                · replace h := h.1 c_16
                  refine g_bipush C (7 : Int32) dX0_following_137 (by decide) ?_
                  refine g_goto C 143 dX0_following_139 (by decide) ?_
                  exact g_sub [] rfl (t_B_X0_following_143 C hrt9 hlk  (7 : Int32)  h)
              · replace h := h.2 c_15
                by_cases c_17 : e3 = (7 : Int32)
                · refine g_tableIn C 140 144 dX0_following_4 (by rw [c_17]; decide) (by rw [c_17]; decide) (by rw [c_17]; decide) (by decide) ?_
                  replace h := h.1 c_17
                  refine g_iload_n C 1 dX0_following_144 rfl rfl ?_
                  refine k_X0_isUnit C gX0_following_X0_isUnit ⟨Nat.le_of_ble_eq_true rfl, Nat.le_of_ble_eq_true rfl⟩ ⟨Nat.zero_le _, Nat.zero_le _⟩ (Nat.le_of_ble_eq_true rfl) dX0_following_145  h (fun r_18 h => ?_)
                  refine g_if_eq C 156 dX0_following_148 (by decide) (fun c_19 => ?_) (fun c_19 => ?_)
                  · replace h := h.1 c_19
                    refine g_iconst C (-1 : Int32) dX0_following_156 (by decide) ?_
                    exact g_sub [] rfl (t_B_X0_following_157 C hrt9 hlk  (-1 : Int32)  h)
                  · replace h := h.2 c_19
                    refine g_bipush C (11 : Int32) dX0_following_151 (by decide) ?_
                    refine g_goto C 157 dX0_following_153 (by decide) ?_
                    exact g_sub [] rfl (t_B_X0_following_157 C hrt9 hlk  (11 : Int32)  h)
                · replace h := h.2 c_17
                  by_cases c_20 : e3 = (8 : Int32)
                  · refine g_tableIn C 154 158 dX0_following_4 (by rw [c_20]; decide) (by rw [c_20]; decide) (by rw [c_20]; decide) (by decide) ?_
                    replace h := h.1 c_20
                    refine g_aload_n C 0 dX0_following_158 rfl rfl ?_
                    refine g_iload_n C 1 dX0_following_159 rfl rfl ?_
                    refine k_X0_afterLess C gX0_following_X0_afterLess ⟨Nat.le_of_ble_eq_true rfl, Nat.le_of_ble_eq_true rfl⟩ ⟨Nat.zero_le _, Nat.zero_le _⟩ (Nat.le_of_ble_eq_true rfl) dX0_following_160  h (fun r_21 h => ?_)
                    exact g_iret C hrt9 hlk (u := ()) rfl h dX0_following_163
                  · replace h := h.2 c_20
                    by_cases c_22 : e3 = (9 : Int32)
                    · refine g_tableIn C 160 164 dX0_following_4 (by rw [c_22]; decide) (by rw [c_22]; decide) (by rw [c_22]; decide) (by decide) ?_
                      replace h := h.1 c_22
                      refine g_iload_n C 1 dX0_following_164 rfl rfl ?_
                      refine k_X0_isCountUnit C gX0_following_X0_isCountUnit ⟨Nat.le_of_ble_eq_true rfl, Nat.le_of_ble_eq_true rfl⟩ ⟨Nat.zero_le _, Nat.zero_le _⟩ (Nat.le_of_ble_eq_true rfl) dX0_following_165  h (fun r_23 h => ?_)
                      refine g_if_eq C 176 dX0_following_168 (by decide) (fun c_24 => ?_) (fun c_24 => ?_)
                      · replace h := h.1 c_24
                        refine g_iconst C (-1 : Int32) dX0_following_176 (by decide) ?_
                        exact g_sub [] rfl (t_B_X0_following_177 C hrt9 hlk  (-1 : Int32)  h)
                      · replace h := h.2 c_24
                        refine g_bipush C (10 : Int32) dX0_following_171 (by decide) ?_
                        refine g_goto C 177 dX0_following_173 (by decide) ?_
                        exact g_sub [] rfl (t_B_X0_following_177 C hrt9 hlk  (10 : Int32)  h)
                    · replace h := h.2 c_22
                      by_cases c_25 : e3 = (10 : Int32)
                      · refine g_tableIn C 174 178 dX0_following_4 (by rw [c_25]; decide) (by rw [c_25]; decide) (by rw [c_25]; decide) (by decide) ?_
                        replace h := h.1 c_25
                        refine g_iload_n C 1 dX0_following_178 rfl rfl ?_
                        refine g_bipush C (83 : Int32) dX0_following_179 (by decide) ?_
                        refine g_icmp_ne C 189 dX0_following_181 (by decide) (fun c_26 => ?_) (fun c_26 => ?_)
                        · replace h := h.2 c_26
                          refine g_iconst C (-1 : Int32) dX0_following_189 (by decide) ?_
                          exact g_sub [] rfl (t_B_X0_following_190 C hrt9 hlk  (-1 : Int32)  h)
                        · replace h := h.1 c_26
                          refine g_bipush C (11 : Int32) dX0_following_184 (by decide) ?_
                          refine g_goto C 190 dX0_following_186 (by decide) ?_
                          exact g_sub [] rfl (t_B_X0_following_190 C hrt9 hlk  (11 : Int32)  h)
                      · replace h := h.2 c_25
                        have c_1t := lv_neT (a := 0) c_1 (by decide)
                        have c_3t := lv_neT (a := 1) c_3 (by decide)
                        have c_6t := lv_neT (a := 2) c_6 (by decide)
                        have c_8t := lv_neT (a := 3) c_8 (by decide)
                        have c_11t := lv_neT (a := 4) c_11 (by decide)
                        have c_13t := lv_neT (a := 5) c_13 (by decide)
                        have c_15t := lv_neT (a := 6) c_15 (by decide)
                        have c_17t := lv_neT (a := 7) c_17 (by decide)
                        have c_20t := lv_neT (a := 8) c_20 (by decide)
                        have c_22t := lv_neT (a := 9) c_22 (by decide)
                        have c_25t := lv_neT (a := 10) c_25 (by decide)
                        refine g_tableOut C 191 dX0_following_4 (by omega) (by decide) ?_
                        refine g_iconst C (-1 : Int32) dX0_following_191 (by decide) ?_
                        exact g_iret C hrt9 hlk (u := ()) rfl h dX0_following_192
theorem c_X0_following (l : Launch) (D : va_G) (A : Nat → Prop) (ad : Nat → Nat) (cA : Nat → ClassId) (v1 : Int32) {tl : Int32} {tx : (Nat → Int32)} {mn : Int32} {sd : (Nat → Int64)} {e0 : Int32} {e1 : Int32} {e2 : Int32} {e3 : Int32} {e4 : Int32} {e5 : Int32} {e6 : Int32} {e7 : Int32} {e8 : Int32} {e9 : Int32} {e10 : Int32} {fr : Int32} {hd : Int32} {nw : (Nat → Int32)} {kp : (Nat → Int32)} {pt : (Nat → Int32)} {hr : (Nat → Nat → Int32)} {lr : (Nat → Nat → Int32)}  (Q : Int32 → Prop) (h : F_X0_following v1 e3 e4 Q) : Met l yX0_following wsX0_following rmX0_following (va_Pc [.ref (ad 4), .int v1] (OKX D (tysX cA) (WX ad cA tl tx mn sd e0 e1 e2 e3 e4 e5 e6 e7 e8 e9 e10 fr hd nw kp pt hr lr) A)) (QC_X0_following D A ad cA tl tx mn sd e0 e1 e2 e3 e4 e5 e6 e7 e8 e9 e10 fr hd nw kp pt hr lr Q) 0 0 A :=
  g_met (own := RX0) (by decide) rfl rfl (Nat.le_of_ble_eq_true rfl) (fun p e s m below meth c C hrt9 hlk _ => g_sub [0, 1] rfl (t_B_X0_following_0 C hrt9 hlk v1   h))
theorem k_X0_following {ws : List Cond} {own : String} {cc : ByteArray} {nL pc index kc ks : Nat} {lv : List (Nat × Value)} {st : List Value} {Q : State → Prop} {R : Room} {K : Int32 → Prop} {v1 : Int32} (C : CxX p s m args c D (tysX cA) own cc nL ws) (hT : GoodIn ws (wsV own index RX0 yX0_following wsX0_following)) (hR : rmX0_following.frames + 1 ≤ R.frames ∧ 8 + (2 + 11) + rmX0_following.locals ≤ R.locals) (hk9 : kc ≤ R.cells ∧ ks ≤ R.slots) (hcat : (st.map fun v => v.category).sum ≤ 8) (hdg : decode cc pc = .ok (.invokevirtual index, 3))  (h : F_X0_following v1 e3 e4 K) (kk : ∀ (r : Int32) , K r → GoX p l e R s m args below meth c D A nL kc ks Q (pc + 3) lv (.int r :: st) (WX ad cA tl tx mn sd e0 e1 e2 e3 e4 e5 e6 e7 e8 e9 e10 fr hd nw kp pt hr lr)) : GoX p l e R s m args below meth c D A nL kc ks Q pc lv (.int v1 :: .ref (ad 4) :: st) (WX ad cA tl tx mn sd e0 e1 e2 e3 e4 e5 e6 e7 e8 e9 e10 fr hd nw kp pt hr lr) :=
  g_callVi C (As := [.int v1]) 1 (c_X0_following l D A ad cA v1  K h) hT rfl rfl rfl (by decide +kernel) hR hk9 4 WXg4 rfl rfl rfl hcat hdg (fun r u hu => kk r  hu)
/-! X0_keepUnit -/
abbrev rmX0_keepUnit : Room := { frames := 0, cells := 0, slots := 0, locals := 0 }
abbrev QC_X0_keepUnit (D : va_G) (A : Nat → Prop) (ad : Nat → Nat) (cA : Nat → ClassId) (tl : Int32) (tx : (Nat → Int32)) (mn : Int32) (sd : (Nat → Int64)) (e0 : Int32) (e1 : Int32) (e2 : Int32) (e3 : Int32) (e4 : Int32) (e5 : Int32) (e6 : Int32) (e8 : Int32) (e9 : Int32) (fr : Int32) (hd : Int32) (nw : (Nat → Int32)) (kp : (Nat → Int32)) (pt : (Nat → Int32)) (hr : (Nat → Nat → Int32)) (lr : (Nat → Nat → Int32)) (Q : Int32 → Int32 → Prop) : Array Value → State → Outcome → State → Prop := va_Qv (fun u : Int32 × Int32 => Q u.1 u.2) (fun u t => OKX D (tysX cA) ((fun u : Int32 × Int32 => WX ad cA tl tx mn sd e0 e1 e2 e3 e4 e5 e6 u.1 e8 e9 u.2 fr hd nw kp pt hr lr) u) A t) A
abbrev QP_X0_keepUnit (D : va_G) (A : Nat → Prop) (ad : Nat → Nat) (cA : Nat → ClassId) (tl : Int32) (tx : (Nat → Int32)) (mn : Int32) (sd : (Nat → Int64)) (e0 : Int32) (e1 : Int32) (e2 : Int32) (e3 : Int32) (e4 : Int32) (e5 : Int32) (e6 : Int32) (e8 : Int32) (e9 : Int32) (fr : Int32) (hd : Int32) (nw : (Nat → Int32)) (kp : (Nat → Int32)) (pt : (Nat → Int32)) (hr : (Nat → Nat → Int32)) (lr : (Nat → Nat → Int32)) (Q : Int32 → Int32 → Prop) (below : List Frame) (args : Array Value) (s : State) : State → Prop := MQ below (QC_X0_keepUnit D A ad cA tl tx mn sd e0 e1 e2 e3 e4 e5 e6 e8 e9 fr hd nw kp pt hr lr Q) args s 0 0 A
def B_X0_keepUnit_29  (Q : Int32 → Int32 → Prop) (e3 : Int32)  (e7 : Int32) (e10 : Int32) : Prop := (Q e7 e10)
def B_X0_keepUnit_16  (Q : Int32 → Int32 → Prop) (e3 : Int32) (v1 : Int32) (e7 : Int32) (e10 : Int32) : Prop := (B_X0_keepUnit_29  Q e3 e7 v1)
def B_X0_keepUnit_0  (Q : Int32 → Int32 → Prop) (e3 : Int32) (v1 : Int32) (e7 : Int32) (e10 : Int32) : Prop := ((e3 = 0 → (B_X0_keepUnit_16  Q e3 v1 e7 e10)) ∧ (¬ e3 = 0 → ((e3 = (7 : Int32) → (B_X0_keepUnit_16  Q e3 v1 e7 e10)) ∧ (¬ e3 = (7 : Int32) → (B_X0_keepUnit_29  Q e3 v1 e10)))))
def F_X0_keepUnit (v1 : Int32) (e3 : Int32) (e7 : Int32) (e10 : Int32) (Q : Int32 → Int32 → Prop) : Prop := B_X0_keepUnit_0 Q e3 v1 e7 e10
theorem lkX0_keepUnit_32 : Cond.fieldLink RX0 32 (TX0 7).1 (TX0 7).2.1 (TX0 7).2.2.1 ∈ wsX0_keepUnit := by decide +kernel
theorem lkX0_keepUnit_19 : Cond.fieldLink RX0 19 (TX0 3).1 (TX0 3).2.1 (TX0 3).2.2.1 ∈ wsX0_keepUnit := by decide +kernel
theorem lkX0_keepUnit_41 : Cond.fieldLink RX0 41 (TX0 10).1 (TX0 10).2.1 (TX0 10).2.2.1 ∈ wsX0_keepUnit := by decide +kernel
theorem inX0_keepUnit_0 : ∀ q ∈ u_ws RX0 TX0 11, q ∈ wsX0_keepUnit := by decide +kernel
set_option maxHeartbeats 4000000 in
set_option maxRecDepth 100000 in
theorem t_B_X0_keepUnit_29  {Q : Int32 → Int32 → Prop} (C : CxX p s m args c D (tysX cA) RX0 cX0_keepUnit 2 wsX0_keepUnit) (hrt9 : meth.sig.returnType = none) (hlk : meth.locks = false)  (e7 : Int32) (e10 : Int32)  (h : B_X0_keepUnit_29  Q e3 e7 e10) : GoX p l e rmX0_keepUnit s m args below meth c D A 2 0 0 (QP_X0_keepUnit D A ad cA tl tx mn sd e0 e1 e2 e3 e4 e5 e6 e8 e9 fr hd nw kp pt hr lr Q below args s) 29 [] [] (WX ad cA tl tx mn sd e0 e1 e2 e3 e4 e5 e6 e7 e8 e9 e10 fr hd nw kp pt hr lr) := by
  replace h : (Q e7 e10) := h
  exact g_vret C hrt9 hlk (u := (e7, e10)) rfl h dX0_keepUnit_29
set_option maxHeartbeats 4000000 in
set_option maxRecDepth 100000 in
theorem t_B_X0_keepUnit_16  {Q : Int32 → Int32 → Prop} (C : CxX p s m args c D (tysX cA) RX0 cX0_keepUnit 2 wsX0_keepUnit) (hrt9 : meth.sig.returnType = none) (hlk : meth.locks = false) (v1 : Int32) (e7 : Int32) (e10 : Int32)  (h : B_X0_keepUnit_16  Q e3 v1 e7 e10) : GoX p l e rmX0_keepUnit s m args below meth c D A 2 0 0 (QP_X0_keepUnit D A ad cA tl tx mn sd e0 e1 e2 e3 e4 e5 e6 e8 e9 fr hd nw kp pt hr lr Q below args s) 16 [(0, .ref (ad 4)), (1, .int v1)] [] (WX ad cA tl tx mn sd e0 e1 e2 e3 e4 e5 e6 e7 e8 e9 e10 fr hd nw kp pt hr lr) := by
  replace h : (B_X0_keepUnit_29  Q e3 e7 v1) := h
  refine g_aload_n C 0 dX0_keepUnit_16 rfl rfl ?_
  refine g_iload_n C 1 dX0_keepUnit_17 rfl rfl ?_
  refine g_put C inX0_keepUnit_0 tyX0 tyX0_ok nmX0 4 WXg4 rfl 10 (by decide) lkX0_keepUnit_41 rfl rfl rfl (Nat.le_of_ble_eq_true rfl) (WXs_e10) dX0_keepUnit_18 ?_
  refine g_goto C 29 dX0_keepUnit_21 (by decide) ?_
  exact g_sub [] rfl (t_B_X0_keepUnit_29 C hrt9 hlk  e7 v1  h)
set_option maxHeartbeats 4000000 in
set_option maxRecDepth 100000 in
theorem t_B_X0_keepUnit_0  {Q : Int32 → Int32 → Prop} (C : CxX p s m args c D (tysX cA) RX0 cX0_keepUnit 2 wsX0_keepUnit) (hrt9 : meth.sig.returnType = none) (hlk : meth.locks = false) (v1 : Int32) (e7 : Int32) (e10 : Int32)  (h : B_X0_keepUnit_0  Q e3 v1 e7 e10) : GoX p l e rmX0_keepUnit s m args below meth c D A 2 0 0 (QP_X0_keepUnit D A ad cA tl tx mn sd e0 e1 e2 e3 e4 e5 e6 e8 e9 fr hd nw kp pt hr lr Q below args s) 0 [(0, .ref (ad 4)), (1, .int v1)] [] (WX ad cA tl tx mn sd e0 e1 e2 e3 e4 e5 e6 e7 e8 e9 e10 fr hd nw kp pt hr lr) := by
  replace h : ((e3 = 0 → (B_X0_keepUnit_16  Q e3 v1 e7 e10)) ∧ (¬ e3 = 0 → ((e3 = (7 : Int32) → (B_X0_keepUnit_16  Q e3 v1 e7 e10)) ∧ (¬ e3 = (7 : Int32) → (B_X0_keepUnit_29  Q e3 v1 e10))))) := h
  refine g_aload_n C 0 dX0_keepUnit_0 rfl rfl ?_
  refine g_get C inX0_keepUnit_0 4 WXg4 rfl 3 (by decide) lkX0_keepUnit_19 rfl dX0_keepUnit_1 ?_
  refine g_if_eq C 16 dX0_keepUnit_4 (by decide) (fun c_1 => ?_) (fun c_1 => ?_)
  · replace h := h.1 c_1
    exact g_sub [0, 1] rfl (t_B_X0_keepUnit_16 C hrt9 hlk  v1 e7 e10  h)
  · replace h := h.2 c_1
    refine g_aload_n C 0 dX0_keepUnit_7 rfl rfl ?_
    refine g_get C inX0_keepUnit_0 4 WXg4 rfl 3 (by decide) lkX0_keepUnit_19 rfl dX0_keepUnit_8 ?_
    refine g_bipush C (7 : Int32) dX0_keepUnit_11 (by decide) ?_
    refine g_icmp_ne C 24 dX0_keepUnit_13 (by decide) (fun c_2 => ?_) (fun c_2 => ?_)
    · replace h := h.2 c_2
      refine g_aload_n C 0 dX0_keepUnit_24 rfl rfl ?_
      refine g_iload_n C 1 dX0_keepUnit_25 rfl rfl ?_
      refine g_put C inX0_keepUnit_0 tyX0 tyX0_ok nmX0 4 WXg4 rfl 7 (by decide) lkX0_keepUnit_32 rfl rfl rfl (Nat.le_of_ble_eq_true rfl) (WXs_e7) dX0_keepUnit_26 ?_
      exact g_sub [] rfl (t_B_X0_keepUnit_29 C hrt9 hlk  v1 e10  h)
    · replace h := h.1 c_2
      exact g_sub [0, 1] rfl (t_B_X0_keepUnit_16 C hrt9 hlk  v1 e7 e10  h)
theorem c_X0_keepUnit (l : Launch) (D : va_G) (A : Nat → Prop) (ad : Nat → Nat) (cA : Nat → ClassId) (v1 : Int32) {tl : Int32} {tx : (Nat → Int32)} {mn : Int32} {sd : (Nat → Int64)} {e0 : Int32} {e1 : Int32} {e2 : Int32} {e3 : Int32} {e4 : Int32} {e5 : Int32} {e6 : Int32} {e7 : Int32} {e8 : Int32} {e9 : Int32} {e10 : Int32} {fr : Int32} {hd : Int32} {nw : (Nat → Int32)} {kp : (Nat → Int32)} {pt : (Nat → Int32)} {hr : (Nat → Nat → Int32)} {lr : (Nat → Nat → Int32)}  (Q : Int32 → Int32 → Prop) (h : F_X0_keepUnit v1 e3 e7 e10 Q) : Met l yX0_keepUnit wsX0_keepUnit rmX0_keepUnit (va_Pc [.ref (ad 4), .int v1] (OKX D (tysX cA) (WX ad cA tl tx mn sd e0 e1 e2 e3 e4 e5 e6 e7 e8 e9 e10 fr hd nw kp pt hr lr) A)) (QC_X0_keepUnit D A ad cA tl tx mn sd e0 e1 e2 e3 e4 e5 e6 e8 e9 fr hd nw kp pt hr lr Q) 0 0 A :=
  g_met (own := RX0) (by decide) rfl rfl (Nat.le_of_ble_eq_true rfl) (fun p e s m below meth c C hrt9 hlk _ => g_sub [0, 1] rfl (t_B_X0_keepUnit_0 C hrt9 hlk v1 e7 e10  h))
theorem k_X0_keepUnit {ws : List Cond} {own : String} {cc : ByteArray} {nL pc index kc ks : Nat} {lv : List (Nat × Value)} {st : List Value} {Q : State → Prop} {R : Room} {K : Int32 → Int32 → Prop} {v1 : Int32} (C : CxX p s m args c D (tysX cA) own cc nL ws) (hT : GoodIn ws (wsV own index RX0 yX0_keepUnit wsX0_keepUnit)) (hR : rmX0_keepUnit.frames + 1 ≤ R.frames ∧ 8 + (2 + 11) + rmX0_keepUnit.locals ≤ R.locals) (hk9 : kc ≤ R.cells ∧ ks ≤ R.slots) (hcat : (st.map fun v => v.category).sum ≤ 8) (hdg : decode cc pc = .ok (.invokevirtual index, 3))  (h : F_X0_keepUnit v1 e3 e7 e10 K) (kk : ∀ (e7q : Int32) (e10q : Int32), K e7q e10q → GoX p l e R s m args below meth c D A nL kc ks Q (pc + 3) lv (st) (WX ad cA tl tx mn sd e0 e1 e2 e3 e4 e5 e6 e7q e8 e9 e10q fr hd nw kp pt hr lr)) : GoX p l e R s m args below meth c D A nL kc ks Q pc lv (.int v1 :: .ref (ad 4) :: st) (WX ad cA tl tx mn sd e0 e1 e2 e3 e4 e5 e6 e7 e8 e9 e10 fr hd nw kp pt hr lr) :=
  g_callVv C (As := [.int v1]) 1 (c_X0_keepUnit l D A ad cA v1  K h) hT rfl rfl rfl (by decide +kernel) hR hk9 4 WXg4 rfl rfl rfl hcat hdg (fun u hu => kk u.1 u.2 hu)
/-! X0_takeUnitAsCount -/
abbrev rmX0_takeUnitAsCount : Room := { frames := 0, cells := 0, slots := 0, locals := 0 }
abbrev QC_X0_takeUnitAsCount (D : va_G) (A : Nat → Prop) (ad : Nat → Nat) (cA : Nat → ClassId) (tl : Int32) (tx : (Nat → Int32)) (mn : Int32) (sd : (Nat → Int64)) (e0 : Int32) (e1 : Int32) (e2 : Int32) (e3 : Int32) (e4 : Int32) (e5 : Int32) (e6 : Int32) (e8 : Int32) (e9 : Int32) (fr : Int32) (hd : Int32) (nw : (Nat → Int32)) (kp : (Nat → Int32)) (pt : (Nat → Int32)) (hr : (Nat → Nat → Int32)) (lr : (Nat → Nat → Int32)) (Q : Int32 → Int32 → Prop) : Array Value → State → Outcome → State → Prop := va_Qv (fun u : Int32 × Int32 => Q u.1 u.2) (fun u t => OKX D (tysX cA) ((fun u : Int32 × Int32 => WX ad cA tl tx mn sd e0 e1 e2 e3 e4 e5 e6 u.1 e8 e9 u.2 fr hd nw kp pt hr lr) u) A t) A
abbrev QP_X0_takeUnitAsCount (D : va_G) (A : Nat → Prop) (ad : Nat → Nat) (cA : Nat → ClassId) (tl : Int32) (tx : (Nat → Int32)) (mn : Int32) (sd : (Nat → Int64)) (e0 : Int32) (e1 : Int32) (e2 : Int32) (e3 : Int32) (e4 : Int32) (e5 : Int32) (e6 : Int32) (e8 : Int32) (e9 : Int32) (fr : Int32) (hd : Int32) (nw : (Nat → Int32)) (kp : (Nat → Int32)) (pt : (Nat → Int32)) (hr : (Nat → Nat → Int32)) (lr : (Nat → Nat → Int32)) (Q : Int32 → Int32 → Prop) (below : List Frame) (args : Array Value) (s : State) : State → Prop := MQ below (QC_X0_takeUnitAsCount D A ad cA tl tx mn sd e0 e1 e2 e3 e4 e5 e6 e8 e9 fr hd nw kp pt hr lr Q) args s 0 0 A
def B_X0_takeUnitAsCount_21  (Q : Int32 → Int32 → Prop) (e3 : Int32)  (e7 : Int32) (e10 : Int32) : Prop := (Q e7 e10)
def B_X0_takeUnitAsCount_0  (Q : Int32 → Int32 → Prop) (e3 : Int32)  (e7 : Int32) (e10 : Int32) : Prop := ((e3 = (3 : Int32) → (B_X0_takeUnitAsCount_21  Q e3 e10 (0 : Int32))) ∧ (¬ e3 = (3 : Int32) → (B_X0_takeUnitAsCount_21  Q e3 e7 e10)))
def F_X0_takeUnitAsCount  (e3 : Int32) (e7 : Int32) (e10 : Int32) (Q : Int32 → Int32 → Prop) : Prop := B_X0_takeUnitAsCount_0 Q e3  e7 e10
theorem lkX0_takeUnitAsCount_32 : Cond.fieldLink RX0 32 (TX0 7).1 (TX0 7).2.1 (TX0 7).2.2.1 ∈ wsX0_takeUnitAsCount := by decide +kernel
theorem lkX0_takeUnitAsCount_41 : Cond.fieldLink RX0 41 (TX0 10).1 (TX0 10).2.1 (TX0 10).2.2.1 ∈ wsX0_takeUnitAsCount := by decide +kernel
theorem lkX0_takeUnitAsCount_19 : Cond.fieldLink RX0 19 (TX0 3).1 (TX0 3).2.1 (TX0 3).2.2.1 ∈ wsX0_takeUnitAsCount := by decide +kernel
theorem inX0_takeUnitAsCount_0 : ∀ q ∈ u_ws RX0 TX0 11, q ∈ wsX0_takeUnitAsCount := by decide +kernel
set_option maxHeartbeats 4000000 in
set_option maxRecDepth 100000 in
theorem t_B_X0_takeUnitAsCount_21  {Q : Int32 → Int32 → Prop} (C : CxX p s m args c D (tysX cA) RX0 cX0_takeUnitAsCount 1 wsX0_takeUnitAsCount) (hrt9 : meth.sig.returnType = none) (hlk : meth.locks = false)  (e7 : Int32) (e10 : Int32)  (h : B_X0_takeUnitAsCount_21  Q e3 e7 e10) : GoX p l e rmX0_takeUnitAsCount s m args below meth c D A 1 0 0 (QP_X0_takeUnitAsCount D A ad cA tl tx mn sd e0 e1 e2 e3 e4 e5 e6 e8 e9 fr hd nw kp pt hr lr Q below args s) 21 [] [] (WX ad cA tl tx mn sd e0 e1 e2 e3 e4 e5 e6 e7 e8 e9 e10 fr hd nw kp pt hr lr) := by
  replace h : (Q e7 e10) := h
  exact g_vret C hrt9 hlk (u := (e7, e10)) rfl h dX0_takeUnitAsCount_21
set_option maxHeartbeats 4000000 in
set_option maxRecDepth 100000 in
theorem t_B_X0_takeUnitAsCount_0  {Q : Int32 → Int32 → Prop} (C : CxX p s m args c D (tysX cA) RX0 cX0_takeUnitAsCount 1 wsX0_takeUnitAsCount) (hrt9 : meth.sig.returnType = none) (hlk : meth.locks = false)  (e7 : Int32) (e10 : Int32)  (h : B_X0_takeUnitAsCount_0  Q e3 e7 e10) : GoX p l e rmX0_takeUnitAsCount s m args below meth c D A 1 0 0 (QP_X0_takeUnitAsCount D A ad cA tl tx mn sd e0 e1 e2 e3 e4 e5 e6 e8 e9 fr hd nw kp pt hr lr Q below args s) 0 [(0, .ref (ad 4))] [] (WX ad cA tl tx mn sd e0 e1 e2 e3 e4 e5 e6 e7 e8 e9 e10 fr hd nw kp pt hr lr) := by
  replace h : ((e3 = (3 : Int32) → (B_X0_takeUnitAsCount_21  Q e3 e10 (0 : Int32))) ∧ (¬ e3 = (3 : Int32) → (B_X0_takeUnitAsCount_21  Q e3 e7 e10))) := h
  refine g_aload_n C 0 dX0_takeUnitAsCount_0 rfl rfl ?_
  refine g_get C inX0_takeUnitAsCount_0 4 WXg4 rfl 3 (by decide) lkX0_takeUnitAsCount_19 rfl dX0_takeUnitAsCount_1 ?_
  refine g_iconst C (3 : Int32) dX0_takeUnitAsCount_4 (by decide) ?_
  refine g_icmp_ne C 21 dX0_takeUnitAsCount_5 (by decide) (fun c_1 => ?_) (fun c_1 => ?_)
  · replace h := h.2 c_1
    exact g_sub [] rfl (t_B_X0_takeUnitAsCount_21 C hrt9 hlk  e7 e10  h)
  · replace h := h.1 c_1
    refine g_aload_n C 0 dX0_takeUnitAsCount_8 rfl rfl ?_
    refine g_aload_n C 0 dX0_takeUnitAsCount_9 rfl rfl ?_
    refine g_get C inX0_takeUnitAsCount_0 4 WXg4 rfl 10 (by decide) lkX0_takeUnitAsCount_41 rfl dX0_takeUnitAsCount_10 ?_
    refine g_put C inX0_takeUnitAsCount_0 tyX0 tyX0_ok nmX0 4 WXg4 rfl 7 (by decide) lkX0_takeUnitAsCount_32 rfl rfl rfl (Nat.le_of_ble_eq_true rfl) (WXs_e7) dX0_takeUnitAsCount_13 ?_
    refine g_aload_n C 0 dX0_takeUnitAsCount_16 rfl rfl ?_
    refine g_iconst C (0 : Int32) dX0_takeUnitAsCount_17 (by decide) ?_
    refine g_put C inX0_takeUnitAsCount_0 tyX0 tyX0_ok nmX0 4 WXg4 rfl 10 (by decide) lkX0_takeUnitAsCount_41 rfl rfl rfl (Nat.le_of_ble_eq_true rfl) (WXs_e10) dX0_takeUnitAsCount_18 ?_
    exact g_sub [] rfl (t_B_X0_takeUnitAsCount_21 C hrt9 hlk  e10 (0 : Int32)  h)
theorem c_X0_takeUnitAsCount (l : Launch) (D : va_G) (A : Nat → Prop) (ad : Nat → Nat) (cA : Nat → ClassId)  {tl : Int32} {tx : (Nat → Int32)} {mn : Int32} {sd : (Nat → Int64)} {e0 : Int32} {e1 : Int32} {e2 : Int32} {e3 : Int32} {e4 : Int32} {e5 : Int32} {e6 : Int32} {e7 : Int32} {e8 : Int32} {e9 : Int32} {e10 : Int32} {fr : Int32} {hd : Int32} {nw : (Nat → Int32)} {kp : (Nat → Int32)} {pt : (Nat → Int32)} {hr : (Nat → Nat → Int32)} {lr : (Nat → Nat → Int32)}  (Q : Int32 → Int32 → Prop) (h : F_X0_takeUnitAsCount e3 e7 e10 Q) : Met l yX0_takeUnitAsCount wsX0_takeUnitAsCount rmX0_takeUnitAsCount (va_Pc [.ref (ad 4)] (OKX D (tysX cA) (WX ad cA tl tx mn sd e0 e1 e2 e3 e4 e5 e6 e7 e8 e9 e10 fr hd nw kp pt hr lr) A)) (QC_X0_takeUnitAsCount D A ad cA tl tx mn sd e0 e1 e2 e3 e4 e5 e6 e8 e9 fr hd nw kp pt hr lr Q) 0 0 A :=
  g_met (own := RX0) (by decide) rfl rfl (Nat.le_of_ble_eq_true rfl) (fun p e s m below meth c C hrt9 hlk _ => g_sub [0] rfl (t_B_X0_takeUnitAsCount_0 C hrt9 hlk  e7 e10  h))
theorem k_X0_takeUnitAsCount {ws : List Cond} {own : String} {cc : ByteArray} {nL pc index kc ks : Nat} {lv : List (Nat × Value)} {st : List Value} {Q : State → Prop} {R : Room} {K : Int32 → Int32 → Prop}  (C : CxX p s m args c D (tysX cA) own cc nL ws) (hT : GoodIn ws (wsV own index RX0 yX0_takeUnitAsCount wsX0_takeUnitAsCount)) (hR : rmX0_takeUnitAsCount.frames + 1 ≤ R.frames ∧ 8 + (1 + 11) + rmX0_takeUnitAsCount.locals ≤ R.locals) (hk9 : kc ≤ R.cells ∧ ks ≤ R.slots) (hcat : (st.map fun v => v.category).sum ≤ 8) (hdg : decode cc pc = .ok (.invokevirtual index, 3))  (h : F_X0_takeUnitAsCount e3 e7 e10 K) (kk : ∀ (e7q : Int32) (e10q : Int32), K e7q e10q → GoX p l e R s m args below meth c D A nL kc ks Q (pc + 3) lv (st) (WX ad cA tl tx mn sd e0 e1 e2 e3 e4 e5 e6 e7q e8 e9 e10q fr hd nw kp pt hr lr)) : GoX p l e R s m args below meth c D A nL kc ks Q pc lv (.ref (ad 4) :: st) (WX ad cA tl tx mn sd e0 e1 e2 e3 e4 e5 e6 e7 e8 e9 e10 fr hd nw kp pt hr lr) :=
  g_callVv C (As := []) 0 (c_X0_takeUnitAsCount l D A ad cA   K h) hT rfl rfl rfl (by decide +kernel) hR hk9 4 WXg4 rfl rfl rfl hcat hdg (fun u hu => kk u.1 u.2 hu)
/-! X0_scores -/
abbrev rmX0_scores : Room := { frames := 0, cells := 0, slots := 0, locals := 0 }
abbrev QC_X0_scores (D : va_G) (A : Nat → Prop) (ad : Nat → Nat) (cA : Nat → ClassId) (tl : Int32) (tx : (Nat → Int32)) (mn : Int32) (sd : (Nat → Int64)) (e0 : Int32) (e1 : Int32) (e2 : Int32) (e3 : Int32) (e4 : Int32) (e5 : Int32) (e6 : Int32) (e7 : Int32) (e8 : Int32) (e9 : Int32) (e10 : Int32) (fr : Int32) (hd : Int32) (nw : (Nat → Int32)) (kp : (Nat → Int32)) (pt : (Nat → Int32)) (hr : (Nat → Nat → Int32)) (lr : (Nat → Nat → Int32)) (Q : Int32 → Prop) : Array Value → State → Outcome → State → Prop := va_Qi (fun (r : Int32) (u : Unit) => Q r ) (fun u t => OKX D (tysX cA) ((fun u : Unit => WX ad cA tl tx mn sd e0 e1 e2 e3 e4 e5 e6 e7 e8 e9 e10 fr hd nw kp pt hr lr) u) A t) A
abbrev QP_X0_scores (D : va_G) (A : Nat → Prop) (ad : Nat → Nat) (cA : Nat → ClassId) (tl : Int32) (tx : (Nat → Int32)) (mn : Int32) (sd : (Nat → Int64)) (e0 : Int32) (e1 : Int32) (e2 : Int32) (e3 : Int32) (e4 : Int32) (e5 : Int32) (e6 : Int32) (e7 : Int32) (e8 : Int32) (e9 : Int32) (e10 : Int32) (fr : Int32) (hd : Int32) (nw : (Nat → Int32)) (kp : (Nat → Int32)) (pt : (Nat → Int32)) (hr : (Nat → Nat → Int32)) (lr : (Nat → Nat → Int32)) (Q : Int32 → Prop) (below : List Frame) (args : Array Value) (s : State) : State → Prop := MQ below (QC_X0_scores D A ad cA tl tx mn sd e0 e1 e2 e3 e4 e5 e6 e7 e8 e9 e10 fr hd nw kp pt hr lr Q) args s 0 0 A
def B_X0_scores_27  (Q : Int32 → Prop) (e0 : Int32) (e5 : Int32) (e7 : Int32) (s0 : Int32) (s1 : Int32)  : Prop := (Q (s0 - s1))
def B_X0_scores_26  (Q : Int32 → Prop) (e0 : Int32) (e5 : Int32) (e7 : Int32) (s0 : Int32)  : Prop := (B_X0_scores_27  Q e0 e5 e7 s0 (0 : Int32))
def B_X0_scores_0  (Q : Int32 → Prop) (e0 : Int32) (e5 : Int32) (e7 : Int32)   : Prop := ((e5 = 0 → (B_X0_scores_26  Q e0 e5 e7 ((20 : Int32) * e7))) ∧ (¬ e5 = 0 → ((e0 = 0 → (B_X0_scores_26  Q e0 e5 e7 ((20 : Int32) * e7))) ∧ (¬ e0 = 0 → (B_X0_scores_27  Q e0 e5 e7 ((20 : Int32) * e7) (10 : Int32))))))
def F_X0_scores  (e0 : Int32) (e5 : Int32) (e7 : Int32)  (Q : Int32 → Prop) : Prop := B_X0_scores_0 Q e0 e5 e7  
theorem lkX0_scores_7 : Cond.fieldLink RX0 7 (TX0 0).1 (TX0 0).2.1 (TX0 0).2.2.1 ∈ wsX0_scores := by decide +kernel
theorem lkX0_scores_26 : Cond.fieldLink RX0 26 (TX0 5).1 (TX0 5).2.1 (TX0 5).2.2.1 ∈ wsX0_scores := by decide +kernel
theorem lkX0_scores_32 : Cond.fieldLink RX0 32 (TX0 7).1 (TX0 7).2.1 (TX0 7).2.2.1 ∈ wsX0_scores := by decide +kernel
theorem inX0_scores_0 : ∀ q ∈ u_ws RX0 TX0 11, q ∈ wsX0_scores := by decide +kernel
set_option maxHeartbeats 4000000 in
set_option maxRecDepth 100000 in
theorem t_B_X0_scores_27  {Q : Int32 → Prop} (C : CxX p s m args c D (tysX cA) RX0 cX0_scores 1 wsX0_scores) (hrt9 : meth.sig.returnType = (some .int)) (hlk : meth.locks = false) (s0 : Int32) (s1 : Int32)   (h : B_X0_scores_27  Q e0 e5 e7 s0 s1) : GoX p l e rmX0_scores s m args below meth c D A 1 0 0 (QP_X0_scores D A ad cA tl tx mn sd e0 e1 e2 e3 e4 e5 e6 e7 e8 e9 e10 fr hd nw kp pt hr lr Q below args s) 27 [] [.int s1, .int s0] (WX ad cA tl tx mn sd e0 e1 e2 e3 e4 e5 e6 e7 e8 e9 e10 fr hd nw kp pt hr lr) := by
  replace h : (Q (s0 - s1)) := h
  refine g_isub C dX0_scores_27 ?_
  exact g_iret C hrt9 hlk (u := ()) rfl h dX0_scores_28
set_option maxHeartbeats 4000000 in
set_option maxRecDepth 100000 in
theorem t_B_X0_scores_26  {Q : Int32 → Prop} (C : CxX p s m args c D (tysX cA) RX0 cX0_scores 1 wsX0_scores) (hrt9 : meth.sig.returnType = (some .int)) (hlk : meth.locks = false) (s0 : Int32)   (h : B_X0_scores_26  Q e0 e5 e7 s0) : GoX p l e rmX0_scores s m args below meth c D A 1 0 0 (QP_X0_scores D A ad cA tl tx mn sd e0 e1 e2 e3 e4 e5 e6 e7 e8 e9 e10 fr hd nw kp pt hr lr Q below args s) 26 [] [.int s0] (WX ad cA tl tx mn sd e0 e1 e2 e3 e4 e5 e6 e7 e8 e9 e10 fr hd nw kp pt hr lr) := by
  replace h : (B_X0_scores_27  Q e0 e5 e7 s0 (0 : Int32)) := h
  refine g_iconst C (0 : Int32) dX0_scores_26 (by decide) ?_
  exact g_sub [] rfl (t_B_X0_scores_27 C hrt9 hlk  s0 (0 : Int32)  h)
set_option maxHeartbeats 4000000 in
set_option maxRecDepth 100000 in
theorem t_B_X0_scores_0  {Q : Int32 → Prop} (C : CxX p s m args c D (tysX cA) RX0 cX0_scores 1 wsX0_scores) (hrt9 : meth.sig.returnType = (some .int)) (hlk : meth.locks = false)    (h : B_X0_scores_0  Q e0 e5 e7 ) : GoX p l e rmX0_scores s m args below meth c D A 1 0 0 (QP_X0_scores D A ad cA tl tx mn sd e0 e1 e2 e3 e4 e5 e6 e7 e8 e9 e10 fr hd nw kp pt hr lr Q below args s) 0 [(0, .ref (ad 4))] [] (WX ad cA tl tx mn sd e0 e1 e2 e3 e4 e5 e6 e7 e8 e9 e10 fr hd nw kp pt hr lr) := by
  replace h : ((e5 = 0 → (B_X0_scores_26  Q e0 e5 e7 ((20 : Int32) * e7))) ∧ (¬ e5 = 0 → ((e0 = 0 → (B_X0_scores_26  Q e0 e5 e7 ((20 : Int32) * e7))) ∧ (¬ e0 = 0 → (B_X0_scores_27  Q e0 e5 e7 ((20 : Int32) * e7) (10 : Int32)))))) := h
  refine g_bipush C (20 : Int32) dX0_scores_0 (by decide) ?_
  refine g_aload_n C 0 dX0_scores_2 rfl rfl ?_
  refine g_get C inX0_scores_0 4 WXg4 rfl 7 (by decide) lkX0_scores_32 rfl dX0_scores_3 ?_
  refine g_imul C dX0_scores_6 ?_
  refine g_aload_n C 0 dX0_scores_7 rfl rfl ?_
  refine g_get C inX0_scores_0 4 WXg4 rfl 5 (by decide) lkX0_scores_26 rfl dX0_scores_8 ?_
  refine g_if_eq C 26 dX0_scores_11 (by decide) (fun c_1 => ?_) (fun c_1 => ?_)
  · replace h := h.1 c_1
    exact g_sub [] rfl (t_B_X0_scores_26 C hrt9 hlk  ((20 : Int32) * e7)  h)
  · replace h := h.2 c_1
    refine g_aload_n C 0 dX0_scores_14 rfl rfl ?_
    refine g_get C inX0_scores_0 4 WXg4 rfl 0 (by decide) lkX0_scores_7 rfl dX0_scores_15 ?_
    refine g_if_eq C 26 dX0_scores_18 (by decide) (fun c_2 => ?_) (fun c_2 => ?_)
    · replace h := h.1 c_2
      exact g_sub [] rfl (t_B_X0_scores_26 C hrt9 hlk  ((20 : Int32) * e7)  h)
    · replace h := h.2 c_2
      refine g_bipush C (10 : Int32) dX0_scores_21 (by decide) ?_
      refine g_goto C 27 dX0_scores_23 (by decide) ?_
      exact g_sub [] rfl (t_B_X0_scores_27 C hrt9 hlk  ((20 : Int32) * e7) (10 : Int32)  h)
theorem c_X0_scores (l : Launch) (D : va_G) (A : Nat → Prop) (ad : Nat → Nat) (cA : Nat → ClassId)  {tl : Int32} {tx : (Nat → Int32)} {mn : Int32} {sd : (Nat → Int64)} {e0 : Int32} {e1 : Int32} {e2 : Int32} {e3 : Int32} {e4 : Int32} {e5 : Int32} {e6 : Int32} {e7 : Int32} {e8 : Int32} {e9 : Int32} {e10 : Int32} {fr : Int32} {hd : Int32} {nw : (Nat → Int32)} {kp : (Nat → Int32)} {pt : (Nat → Int32)} {hr : (Nat → Nat → Int32)} {lr : (Nat → Nat → Int32)}  (Q : Int32 → Prop) (h : F_X0_scores e0 e5 e7 Q) : Met l yX0_scores wsX0_scores rmX0_scores (va_Pc [.ref (ad 4)] (OKX D (tysX cA) (WX ad cA tl tx mn sd e0 e1 e2 e3 e4 e5 e6 e7 e8 e9 e10 fr hd nw kp pt hr lr) A)) (QC_X0_scores D A ad cA tl tx mn sd e0 e1 e2 e3 e4 e5 e6 e7 e8 e9 e10 fr hd nw kp pt hr lr Q) 0 0 A :=
  g_met (own := RX0) (by decide) rfl rfl (Nat.le_of_ble_eq_true rfl) (fun p e s m below meth c C hrt9 hlk _ => g_sub [0] rfl (t_B_X0_scores_0 C hrt9 hlk    h))
theorem k_X0_scores {ws : List Cond} {own : String} {cc : ByteArray} {nL pc index kc ks : Nat} {lv : List (Nat × Value)} {st : List Value} {Q : State → Prop} {R : Room} {K : Int32 → Prop}  (C : CxX p s m args c D (tysX cA) own cc nL ws) (hT : GoodIn ws (wsV own index RX0 yX0_scores wsX0_scores)) (hR : rmX0_scores.frames + 1 ≤ R.frames ∧ 8 + (1 + 11) + rmX0_scores.locals ≤ R.locals) (hk9 : kc ≤ R.cells ∧ ks ≤ R.slots) (hcat : (st.map fun v => v.category).sum ≤ 8) (hdg : decode cc pc = .ok (.invokevirtual index, 3))  (h : F_X0_scores e0 e5 e7 K) (kk : ∀ (r : Int32) , K r → GoX p l e R s m args below meth c D A nL kc ks Q (pc + 3) lv (.int r :: st) (WX ad cA tl tx mn sd e0 e1 e2 e3 e4 e5 e6 e7 e8 e9 e10 fr hd nw kp pt hr lr)) : GoX p l e R s m args below meth c D A nL kc ks Q pc lv (.ref (ad 4) :: st) (WX ad cA tl tx mn sd e0 e1 e2 e3 e4 e5 e6 e7 e8 e9 e10 fr hd nw kp pt hr lr) :=
  g_callVi C (As := []) 0 (c_X0_scores l D A ad cA   K h) hT rfl rfl rfl (by decide +kernel) hR hk9 4 WXg4 rfl rfl rfl hcat hdg (fun r u hu => kk r  hu)
/-! X0_keep -/
abbrev rmX0_keep : Room := { frames := 1, cells := 0, slots := 0, locals := 21 }
abbrev QC_X0_keep (D : va_G) (A : Nat → Prop) (ad : Nat → Nat) (cA : Nat → ClassId) (tl : Int32) (tx : (Nat → Int32)) (mn : Int32) (sd : (Nat → Int64)) (e0 : Int32) (e1 : Int32) (e2 : Int32) (e3 : Int32) (fr : Int32) (hd : Int32) (nw : (Nat → Int32)) (kp : (Nat → Int32)) (pt : (Nat → Int32)) (hr : (Nat → Nat → Int32)) (lr : (Nat → Nat → Int32)) (Q : Int32 → Int32 → Int32 → Int32 → Int32 → Int32 → Int32 → Prop) : Array Value → State → Outcome → State → Prop := va_Qv (fun u : Int32 × Int32 × Int32 × Int32 × Int32 × Int32 × Int32 => Q u.1 u.2.1 u.2.2.1 u.2.2.2.1 u.2.2.2.2.1 u.2.2.2.2.2.1 u.2.2.2.2.2.2) (fun u t => OKX D (tysX cA) ((fun u : Int32 × Int32 × Int32 × Int32 × Int32 × Int32 × Int32 => WX ad cA tl tx mn sd e0 e1 e2 e3 u.1 u.2.1 u.2.2.1 u.2.2.2.1 u.2.2.2.2.1 u.2.2.2.2.2.1 u.2.2.2.2.2.2 fr hd nw kp pt hr lr) u) A t) A
abbrev QP_X0_keep (D : va_G) (A : Nat → Prop) (ad : Nat → Nat) (cA : Nat → ClassId) (tl : Int32) (tx : (Nat → Int32)) (mn : Int32) (sd : (Nat → Int64)) (e0 : Int32) (e1 : Int32) (e2 : Int32) (e3 : Int32) (fr : Int32) (hd : Int32) (nw : (Nat → Int32)) (kp : (Nat → Int32)) (pt : (Nat → Int32)) (hr : (Nat → Nat → Int32)) (lr : (Nat → Nat → Int32)) (Q : Int32 → Int32 → Int32 → Int32 → Int32 → Int32 → Int32 → Prop) (below : List Frame) (args : Array Value) (s : State) : State → Prop := MQ below (QC_X0_keep D A ad cA tl tx mn sd e0 e1 e2 e3 fr hd nw kp pt hr lr Q) args s 0 0 A
def B_X0_keep_154  (Q : Int32 → Int32 → Int32 → Int32 → Int32 → Int32 → Int32 → Prop) (e0 : Int32) (e2 : Int32) (e3 : Int32)  (e4 : Int32) (e5 : Int32) (e6 : Int32) (e7 : Int32) (e8 : Int32) (e9 : Int32) (e10 : Int32) : Prop := (Q e4 e5 e6 e7 e8 e9 e10)
def B_X0_keep_138  (Q : Int32 → Int32 → Int32 → Int32 → Int32 → Int32 → Int32 → Prop) (e0 : Int32) (e2 : Int32) (e3 : Int32) (s1 : Int32) (e4 : Int32) (e5 : Int32) (e6 : Int32) (e7 : Int32) (e8 : Int32) (e9 : Int32) (e10 : Int32) : Prop := (B_X0_keep_154  Q e0 e2 e3 e4 e5 e6 e7 s1 e9 e10)
def B_X0_keep_0  (Q : Int32 → Int32 → Int32 → Int32 → Int32 → Int32 → Int32 → Prop) (e0 : Int32) (e2 : Int32) (e3 : Int32) (v1 : Int32) (e4 : Int32) (e5 : Int32) (e6 : Int32) (e7 : Int32) (e8 : Int32) (e9 : Int32) (e10 : Int32) : Prop := ((v1 = (38 : Int32) → (B_X0_keep_154  Q e0 e2 e3 (1 : Int32) (0 : Int32) e6 (1 : Int32) e8 e9 e10)) ∧ (¬ v1 = (38 : Int32) → ((v1 = (43 : Int32) → (B_X0_keep_154  Q e0 e2 e3 e4 e5 e6 e7 e8 e9 e10)) ∧ (¬ v1 = (43 : Int32) → ((v1 = (45 : Int32) → (B_X0_keep_154  Q e0 e2 e3 e4 e5 (1 : Int32) e7 e8 e9 e10)) ∧ (¬ v1 = (45 : Int32) → ((v1 = (71 : Int32) → (F_X0_takeUnitAsCount e3 e7 e10 (fun e7_5 e10_6 => ((e2 = 0 → (F_X0_scores e0 e5 e7_5 (fun r_8 => (B_X0_keep_138  Q e0 e2 e3 r_8 e4 e5 e6 e7_5 e8 e9 e10_6)))) ∧ (¬ e2 = 0 → (F_X0_scores e0 e5 e7_5 (fun r_9 => (B_X0_keep_138  Q e0 e2 e3 ((20 : Int32) * r_9) e4 e5 e6 e7_5 e8 e9 e10_6)))))))) ∧ (¬ v1 = (71 : Int32) → ((v1 = (72 : Int32) → (B_X0_keep_154  Q e0 e2 e3 e4 (1 : Int32) e6 e7 e8 e9 e10)) ∧ (¬ v1 = (72 : Int32) → ((v1 = (83 : Int32) → (F_X0_takeUnitAsCount e3 e7 e10 (fun e7_12 e10_13 => (F_X0_scores e0 e5 e7_12 (fun r_14 => (B_X0_keep_154  Q e0 e2 e3 e4 e5 e6 e7_12 e8 r_14 e10_13)))))) ∧ (¬ v1 = (83 : Int32) → (F_X0_keepUnit ((v1 - (97 : Int32)) + (1 : Int32)) e3 e7 e10 (fun e7_15 e10_16 => (B_X0_keep_154  Q e0 e2 e3 e4 e5 e6 e7_15 e8 e9 e10_16)))))))))))))))
def F_X0_keep (v1 : Int32) (e0 : Int32) (e2 : Int32) (e3 : Int32) (e4 : Int32) (e5 : Int32) (e6 : Int32) (e7 : Int32) (e8 : Int32) (e9 : Int32) (e10 : Int32) (Q : Int32 → Int32 → Int32 → Int32 → Int32 → Int32 → Int32 → Prop) : Prop := B_X0_keep_0 Q e0 e2 e3 v1 e4 e5 e6 e7 e8 e9 e10
theorem lkX0_keep_38 : Cond.fieldLink RX0 38 (TX0 9).1 (TX0 9).2.1 (TX0 9).2.2.1 ∈ wsX0_keep := by decide +kernel
theorem lkX0_keep_16 : Cond.fieldLink RX0 16 (TX0 2).1 (TX0 2).2.1 (TX0 2).2.2.1 ∈ wsX0_keep := by decide +kernel
theorem lkX0_keep_29 : Cond.fieldLink RX0 29 (TX0 6).1 (TX0 6).2.1 (TX0 6).2.2.1 ∈ wsX0_keep := by decide +kernel
theorem lkX0_keep_32 : Cond.fieldLink RX0 32 (TX0 7).1 (TX0 7).2.1 (TX0 7).2.2.1 ∈ wsX0_keep := by decide +kernel
theorem lkX0_keep_26 : Cond.fieldLink RX0 26 (TX0 5).1 (TX0 5).2.1 (TX0 5).2.2.1 ∈ wsX0_keep := by decide +kernel
theorem lkX0_keep_23 : Cond.fieldLink RX0 23 (TX0 4).1 (TX0 4).2.1 (TX0 4).2.2.1 ∈ wsX0_keep := by decide +kernel
theorem lkX0_keep_35 : Cond.fieldLink RX0 35 (TX0 8).1 (TX0 8).2.1 (TX0 8).2.2.1 ∈ wsX0_keep := by decide +kernel
theorem inX0_keep_0 : ∀ q ∈ u_ws RX0 TX0 11, q ∈ wsX0_keep := by decide +kernel
set_option maxHeartbeats 4000000 in
set_option maxRecDepth 100000 in
theorem t_B_X0_keep_154  {Q : Int32 → Int32 → Int32 → Int32 → Int32 → Int32 → Int32 → Prop} (C : CxX p s m args c D (tysX cA) RX0 cX0_keep 2 wsX0_keep) (hrt9 : meth.sig.returnType = none) (hlk : meth.locks = false)  (e4 : Int32) (e5 : Int32) (e6 : Int32) (e7 : Int32) (e8 : Int32) (e9 : Int32) (e10 : Int32)  (h : B_X0_keep_154  Q e0 e2 e3 e4 e5 e6 e7 e8 e9 e10) : GoX p l e rmX0_keep s m args below meth c D A 2 0 0 (QP_X0_keep D A ad cA tl tx mn sd e0 e1 e2 e3 fr hd nw kp pt hr lr Q below args s) 154 [] [] (WX ad cA tl tx mn sd e0 e1 e2 e3 e4 e5 e6 e7 e8 e9 e10 fr hd nw kp pt hr lr) := by
  replace h : (Q e4 e5 e6 e7 e8 e9 e10) := h
  exact g_vret C hrt9 hlk (u := (e4, e5, e6, e7, e8, e9, e10)) rfl h dX0_keep_154
set_option maxHeartbeats 4000000 in
set_option maxRecDepth 100000 in
theorem t_B_X0_keep_138  {Q : Int32 → Int32 → Int32 → Int32 → Int32 → Int32 → Int32 → Prop} (C : CxX p s m args c D (tysX cA) RX0 cX0_keep 2 wsX0_keep) (hrt9 : meth.sig.returnType = none) (hlk : meth.locks = false) (s1 : Int32) (e4 : Int32) (e5 : Int32) (e6 : Int32) (e7 : Int32) (e8 : Int32) (e9 : Int32) (e10 : Int32)  (h : B_X0_keep_138  Q e0 e2 e3 s1 e4 e5 e6 e7 e8 e9 e10) : GoX p l e rmX0_keep s m args below meth c D A 2 0 0 (QP_X0_keep D A ad cA tl tx mn sd e0 e1 e2 e3 fr hd nw kp pt hr lr Q below args s) 138 [] [.int s1, .ref (ad 4)] (WX ad cA tl tx mn sd e0 e1 e2 e3 e4 e5 e6 e7 e8 e9 e10 fr hd nw kp pt hr lr) := by
  replace h : (B_X0_keep_154  Q e0 e2 e3 e4 e5 e6 e7 s1 e9 e10) := h
  refine g_put C inX0_keep_0 tyX0 tyX0_ok nmX0 4 WXg4 rfl 8 (by decide) lkX0_keep_35 rfl rfl rfl (Nat.le_of_ble_eq_true rfl) (WXs_e8) dX0_keep_138 ?_
  refine g_goto C 154 dX0_keep_141 (by decide) ?_
  exact g_sub [] rfl (t_B_X0_keep_154 C hrt9 hlk  e4 e5 e6 e7 s1 e9 e10  h)
set_option maxHeartbeats 4000000 in
set_option maxRecDepth 100000 in
theorem t_B_X0_keep_0  {Q : Int32 → Int32 → Int32 → Int32 → Int32 → Int32 → Int32 → Prop} (C : CxX p s m args c D (tysX cA) RX0 cX0_keep 2 wsX0_keep) (hrt9 : meth.sig.returnType = none) (hlk : meth.locks = false) (v1 : Int32) (e4 : Int32) (e5 : Int32) (e6 : Int32) (e7 : Int32) (e8 : Int32) (e9 : Int32) (e10 : Int32)  (h : B_X0_keep_0  Q e0 e2 e3 v1 e4 e5 e6 e7 e8 e9 e10) : GoX p l e rmX0_keep s m args below meth c D A 2 0 0 (QP_X0_keep D A ad cA tl tx mn sd e0 e1 e2 e3 fr hd nw kp pt hr lr Q below args s) 0 [(0, .ref (ad 4)), (1, .int v1)] [] (WX ad cA tl tx mn sd e0 e1 e2 e3 e4 e5 e6 e7 e8 e9 e10 fr hd nw kp pt hr lr) := by
  replace h : ((v1 = (38 : Int32) → (B_X0_keep_154  Q e0 e2 e3 (1 : Int32) (0 : Int32) e6 (1 : Int32) e8 e9 e10)) ∧ (¬ v1 = (38 : Int32) → ((v1 = (43 : Int32) → (B_X0_keep_154  Q e0 e2 e3 e4 e5 e6 e7 e8 e9 e10)) ∧ (¬ v1 = (43 : Int32) → ((v1 = (45 : Int32) → (B_X0_keep_154  Q e0 e2 e3 e4 e5 (1 : Int32) e7 e8 e9 e10)) ∧ (¬ v1 = (45 : Int32) → ((v1 = (71 : Int32) → (F_X0_takeUnitAsCount e3 e7 e10 (fun e7_5 e10_6 => ((e2 = 0 → (F_X0_scores e0 e5 e7_5 (fun r_8 => (B_X0_keep_138  Q e0 e2 e3 r_8 e4 e5 e6 e7_5 e8 e9 e10_6)))) ∧ (¬ e2 = 0 → (F_X0_scores e0 e5 e7_5 (fun r_9 => (B_X0_keep_138  Q e0 e2 e3 ((20 : Int32) * r_9) e4 e5 e6 e7_5 e8 e9 e10_6)))))))) ∧ (¬ v1 = (71 : Int32) → ((v1 = (72 : Int32) → (B_X0_keep_154  Q e0 e2 e3 e4 (1 : Int32) e6 e7 e8 e9 e10)) ∧ (¬ v1 = (72 : Int32) → ((v1 = (83 : Int32) → (F_X0_takeUnitAsCount e3 e7 e10 (fun e7_12 e10_13 => (F_X0_scores e0 e5 e7_12 (fun r_14 => (B_X0_keep_154  Q e0 e2 e3 e4 e5 e6 e7_12 e8 r_14 e10_13)))))) ∧ (¬ v1 = (83 : Int32) → (F_X0_keepUnit ((v1 - (97 : Int32)) + (1 : Int32)) e3 e7 e10 (fun e7_15 e10_16 => (B_X0_keep_154  Q e0 e2 e3 e4 e5 e6 e7_15 e8 e9 e10_16))))))))))))))) := h
  refine g_iload_n C 1 dX0_keep_0 rfl rfl ?_
  by_cases c_1 : v1 = (38 : Int32)
  · refine g_lookup C (78) 79 dX0_keep_1 (by decide) (by rw [c_1]; decide) (by decide) ?_
    replace h := h.1 c_1
    refine g_aload_n C 0 dX0_keep_79 rfl rfl ?_
    refine g_iconst C (1 : Int32) dX0_keep_80 (by decide) ?_
    refine g_put C inX0_keep_0 tyX0 tyX0_ok nmX0 4 WXg4 rfl 4 (by decide) lkX0_keep_23 rfl rfl rfl (Nat.le_of_ble_eq_true rfl) (WXs_e4) dX0_keep_81 ?_
    refine g_aload_n C 0 dX0_keep_84 rfl rfl ?_
    refine g_iconst C (0 : Int32) dX0_keep_85 (by decide) ?_
    refine g_put C inX0_keep_0 tyX0 tyX0_ok nmX0 4 WXg4 rfl 5 (by decide) lkX0_keep_26 rfl rfl rfl (Nat.le_of_ble_eq_true rfl) (WXs_e5) dX0_keep_86 ?_
    refine g_aload_n C 0 dX0_keep_89 rfl rfl ?_
    refine g_iconst C (1 : Int32) dX0_keep_90 (by decide) ?_
    refine g_put C inX0_keep_0 tyX0 tyX0_ok nmX0 4 WXg4 rfl 7 (by decide) lkX0_keep_32 rfl rfl rfl (Nat.le_of_ble_eq_true rfl) (WXs_e7) dX0_keep_91 ?_
    refine g_goto C 154 dX0_keep_94 (by decide) ?_
    exact g_sub [] rfl (t_B_X0_keep_154 C hrt9 hlk  (1 : Int32) (0 : Int32) e6 (1 : Int32) e8 e9 e10  h)
  · replace h := h.2 c_1
    by_cases c_2 : v1 = (43 : Int32)
    · refine g_lookup C (75) 76 dX0_keep_1 (by decide) (by rw [c_2]; decide) (by decide) ?_
      replace h := h.1 c_2
      refine g_goto C 154 dX0_keep_76 (by decide) ?_
      exact g_sub [] rfl (t_B_X0_keep_154 C hrt9 hlk  e4 e5 e6 e7 e8 e9 e10  h)
    · replace h := h.2 c_2
      by_cases c_3 : v1 = (45 : Int32)
      · refine g_lookup C (67) 68 dX0_keep_1 (by decide) (by rw [c_3]; decide) (by decide) ?_
        replace h := h.1 c_3
        refine g_aload_n C 0 dX0_keep_68 rfl rfl ?_
        refine g_iconst C (1 : Int32) dX0_keep_69 (by decide) ?_
        refine g_put C inX0_keep_0 tyX0 tyX0_ok nmX0 4 WXg4 rfl 6 (by decide) lkX0_keep_29 rfl rfl rfl (Nat.le_of_ble_eq_true rfl) (WXs_e6) dX0_keep_70 ?_
        refine g_goto C 154 dX0_keep_73 (by decide) ?_
        exact g_sub [] rfl (t_B_X0_keep_154 C hrt9 hlk  e4 e5 (1 : Int32) e7 e8 e9 e10  h)
      · replace h := h.2 c_3
        by_cases c_4 : v1 = (71 : Int32)
        · refine g_lookup C (111) 112 dX0_keep_1 (by decide) (by rw [c_4]; decide) (by decide) ?_
          replace h := h.1 c_4
          refine g_aload_n C 0 dX0_keep_112 rfl rfl ?_
          refine k_X0_takeUnitAsCount C gX0_keep_X0_takeUnitAsCount ⟨Nat.le_of_ble_eq_true rfl, Nat.le_of_ble_eq_true rfl⟩ ⟨Nat.zero_le _, Nat.zero_le _⟩ (Nat.le_of_ble_eq_true rfl) dX0_keep_113  h (fun e7_5 e10_6 h => ?_)
          refine g_aload_n C 0 dX0_keep_116 rfl rfl ?_
          refine g_aload_n C 0 dX0_keep_117 rfl rfl ?_
          refine g_get C inX0_keep_0 4 WXg4 rfl 2 (by decide) lkX0_keep_16 rfl dX0_keep_118 ?_
          refine g_if_eq C 134 dX0_keep_121 (by decide) (fun c_7 => ?_) (fun c_7 => ?_)
          · replace h := h.1 c_7
            refine g_aload_n C 0 dX0_keep_134 rfl rfl ?_
            refine k_X0_scores C gX0_keep_X0_scores ⟨Nat.le_of_ble_eq_true rfl, Nat.le_of_ble_eq_true rfl⟩ ⟨Nat.zero_le _, Nat.zero_le _⟩ (Nat.le_of_ble_eq_true rfl) dX0_keep_135  h (fun r_8 h => ?_)
            exact g_sub [] rfl (t_B_X0_keep_138 C hrt9 hlk  r_8 e4 e5 e6 e7_5 e8 e9 e10_6  h)
          · replace h := h.2 c_7
            refine g_bipush C (20 : Int32) dX0_keep_124 (by decide) ?_
            refine g_aload_n C 0 dX0_keep_126 rfl rfl ?_
            refine k_X0_scores C gX0_keep_X0_scores ⟨Nat.le_of_ble_eq_true rfl, Nat.le_of_ble_eq_true rfl⟩ ⟨Nat.zero_le _, Nat.zero_le _⟩ (Nat.le_of_ble_eq_true rfl) dX0_keep_127  h (fun r_9 h => ?_)
            refine g_imul C dX0_keep_130 ?_
            refine g_goto C 138 dX0_keep_131 (by decide) ?_
            exact g_sub [] rfl (t_B_X0_keep_138 C hrt9 hlk  ((20 : Int32) * r_9) e4 e5 e6 e7_5 e8 e9 e10_6  h)
        · replace h := h.2 c_4
          by_cases c_10 : v1 = (72 : Int32)
          · refine g_lookup C (59) 60 dX0_keep_1 (by decide) (by rw [c_10]; decide) (by decide) ?_
            replace h := h.1 c_10
            refine g_aload_n C 0 dX0_keep_60 rfl rfl ?_
            refine g_iconst C (1 : Int32) dX0_keep_61 (by decide) ?_
            refine g_put C inX0_keep_0 tyX0 tyX0_ok nmX0 4 WXg4 rfl 5 (by decide) lkX0_keep_26 rfl rfl rfl (Nat.le_of_ble_eq_true rfl) (WXs_e5) dX0_keep_62 ?_
            refine g_goto C 154 dX0_keep_65 (by decide) ?_
            exact g_sub [] rfl (t_B_X0_keep_154 C hrt9 hlk  e4 (1 : Int32) e6 e7 e8 e9 e10  h)
          · replace h := h.2 c_10
            by_cases c_11 : v1 = (83 : Int32)
            · refine g_lookup C (96) 97 dX0_keep_1 (by decide) (by rw [c_11]; decide) (by decide) ?_
              replace h := h.1 c_11
              refine g_aload_n C 0 dX0_keep_97 rfl rfl ?_
              refine k_X0_takeUnitAsCount C gX0_keep_X0_takeUnitAsCount ⟨Nat.le_of_ble_eq_true rfl, Nat.le_of_ble_eq_true rfl⟩ ⟨Nat.zero_le _, Nat.zero_le _⟩ (Nat.le_of_ble_eq_true rfl) dX0_keep_98  h (fun e7_12 e10_13 h => ?_)
              refine g_aload_n C 0 dX0_keep_101 rfl rfl ?_
              refine g_aload_n C 0 dX0_keep_102 rfl rfl ?_
              refine k_X0_scores C gX0_keep_X0_scores ⟨Nat.le_of_ble_eq_true rfl, Nat.le_of_ble_eq_true rfl⟩ ⟨Nat.zero_le _, Nat.zero_le _⟩ (Nat.le_of_ble_eq_true rfl) dX0_keep_103  h (fun r_14 h => ?_)
              refine g_put C inX0_keep_0 tyX0 tyX0_ok nmX0 4 WXg4 rfl 9 (by decide) lkX0_keep_38 rfl rfl rfl (Nat.le_of_ble_eq_true rfl) (WXs_e9) dX0_keep_106 ?_
              refine g_goto C 154 dX0_keep_109 (by decide) ?_
              exact g_sub [] rfl (t_B_X0_keep_154 C hrt9 hlk  e4 e5 e6 e7_12 e8 r_14 e10_13  h)
            · replace h := h.2 c_11
              refine g_lookup C (143) 144 dX0_keep_1 (by decide) ((lv_osw c_1 (by decide)).trans <| (lv_osw c_2 (by decide)).trans <| (lv_osw c_3 (by decide)).trans <| (lv_osw c_4 (by decide)).trans <| (lv_osw c_10 (by decide)).trans <| (lv_osw c_11 (by decide)).trans <| rfl) (by decide) ?_
              refine g_aload_n C 0 dX0_keep_144 rfl rfl ?_
              refine g_iload_n C 1 dX0_keep_145 rfl rfl ?_
              refine g_bipush C (97 : Int32) dX0_keep_146 (by decide) ?_
              refine g_isub C dX0_keep_148 ?_
              refine g_iconst C (1 : Int32) dX0_keep_149 (by decide) ?_
              refine g_iadd C dX0_keep_150 ?_
              refine k_X0_keepUnit C gX0_keep_X0_keepUnit ⟨Nat.le_of_ble_eq_true rfl, Nat.le_of_ble_eq_true rfl⟩ ⟨Nat.zero_le _, Nat.zero_le _⟩ (Nat.le_of_ble_eq_true rfl) dX0_keep_151  h (fun e7_15 e10_16 h => ?_)
              exact g_sub [] rfl (t_B_X0_keep_154 C hrt9 hlk  e4 e5 e6 e7_15 e8 e9 e10_16  h)
theorem c_X0_keep (l : Launch) (D : va_G) (A : Nat → Prop) (ad : Nat → Nat) (cA : Nat → ClassId) (v1 : Int32) {tl : Int32} {tx : (Nat → Int32)} {mn : Int32} {sd : (Nat → Int64)} {e0 : Int32} {e1 : Int32} {e2 : Int32} {e3 : Int32} {e4 : Int32} {e5 : Int32} {e6 : Int32} {e7 : Int32} {e8 : Int32} {e9 : Int32} {e10 : Int32} {fr : Int32} {hd : Int32} {nw : (Nat → Int32)} {kp : (Nat → Int32)} {pt : (Nat → Int32)} {hr : (Nat → Nat → Int32)} {lr : (Nat → Nat → Int32)}  (Q : Int32 → Int32 → Int32 → Int32 → Int32 → Int32 → Int32 → Prop) (h : F_X0_keep v1 e0 e2 e3 e4 e5 e6 e7 e8 e9 e10 Q) : Met l yX0_keep wsX0_keep rmX0_keep (va_Pc [.ref (ad 4), .int v1] (OKX D (tysX cA) (WX ad cA tl tx mn sd e0 e1 e2 e3 e4 e5 e6 e7 e8 e9 e10 fr hd nw kp pt hr lr) A)) (QC_X0_keep D A ad cA tl tx mn sd e0 e1 e2 e3 fr hd nw kp pt hr lr Q) 0 0 A :=
  g_met (own := RX0) (by decide) rfl rfl (Nat.le_of_ble_eq_true rfl) (fun p e s m below meth c C hrt9 hlk _ => g_sub [0, 1] rfl (t_B_X0_keep_0 C hrt9 hlk v1 e4 e5 e6 e7 e8 e9 e10  h))
theorem k_X0_keep {ws : List Cond} {own : String} {cc : ByteArray} {nL pc index kc ks : Nat} {lv : List (Nat × Value)} {st : List Value} {Q : State → Prop} {R : Room} {K : Int32 → Int32 → Int32 → Int32 → Int32 → Int32 → Int32 → Prop} {v1 : Int32} (C : CxX p s m args c D (tysX cA) own cc nL ws) (hT : GoodIn ws (wsV own index RX0 yX0_keep wsX0_keep)) (hR : rmX0_keep.frames + 1 ≤ R.frames ∧ 8 + (2 + 11) + rmX0_keep.locals ≤ R.locals) (hk9 : kc ≤ R.cells ∧ ks ≤ R.slots) (hcat : (st.map fun v => v.category).sum ≤ 8) (hdg : decode cc pc = .ok (.invokevirtual index, 3))  (h : F_X0_keep v1 e0 e2 e3 e4 e5 e6 e7 e8 e9 e10 K) (kk : ∀ (e4q : Int32) (e5q : Int32) (e6q : Int32) (e7q : Int32) (e8q : Int32) (e9q : Int32) (e10q : Int32), K e4q e5q e6q e7q e8q e9q e10q → GoX p l e R s m args below meth c D A nL kc ks Q (pc + 3) lv (st) (WX ad cA tl tx mn sd e0 e1 e2 e3 e4q e5q e6q e7q e8q e9q e10q fr hd nw kp pt hr lr)) : GoX p l e R s m args below meth c D A nL kc ks Q pc lv (.int v1 :: .ref (ad 4) :: st) (WX ad cA tl tx mn sd e0 e1 e2 e3 e4 e5 e6 e7 e8 e9 e10 fr hd nw kp pt hr lr) :=
  g_callVv C (As := [.int v1]) 1 (c_X0_keep l D A ad cA v1  K h) hT rfl rfl rfl (by decide +kernel) hR hk9 4 WXg4 rfl rfl rfl hcat hdg (fun u hu => kk u.1 u.2.1 u.2.2.1 u.2.2.2.1 u.2.2.2.2.1 u.2.2.2.2.2.1 u.2.2.2.2.2.2 hu)
/-! X0_take -/
abbrev rmX0_take : Room := { frames := 2, cells := 0, slots := 0, locals := 42 }
abbrev QC_X0_take (D : va_G) (A : Nat → Prop) (ad : Nat → Nat) (cA : Nat → ClassId) (tl : Int32) (tx : (Nat → Int32)) (mn : Int32) (sd : (Nat → Int64)) (e0 : Int32) (e1 : Int32) (e2 : Int32) (fr : Int32) (hd : Int32) (nw : (Nat → Int32)) (kp : (Nat → Int32)) (pt : (Nat → Int32)) (hr : (Nat → Nat → Int32)) (lr : (Nat → Nat → Int32)) (Q : Int32 → Int32 → Int32 → Int32 → Int32 → Int32 → Int32 → Int32 → Int32 → Prop) : Array Value → State → Outcome → State → Prop := va_Qi (fun (r : Int32) (u : Int32 × Int32 × Int32 × Int32 × Int32 × Int32 × Int32 × Int32) => Q r u.1 u.2.1 u.2.2.1 u.2.2.2.1 u.2.2.2.2.1 u.2.2.2.2.2.1 u.2.2.2.2.2.2.1 u.2.2.2.2.2.2.2) (fun u t => OKX D (tysX cA) ((fun u : Int32 × Int32 × Int32 × Int32 × Int32 × Int32 × Int32 × Int32 => WX ad cA tl tx mn sd e0 e1 e2 u.1 u.2.1 u.2.2.1 u.2.2.2.1 u.2.2.2.2.1 u.2.2.2.2.2.1 u.2.2.2.2.2.2.1 u.2.2.2.2.2.2.2 fr hd nw kp pt hr lr) u) A t) A
abbrev QP_X0_take (D : va_G) (A : Nat → Prop) (ad : Nat → Nat) (cA : Nat → ClassId) (tl : Int32) (tx : (Nat → Int32)) (mn : Int32) (sd : (Nat → Int64)) (e0 : Int32) (e1 : Int32) (e2 : Int32) (fr : Int32) (hd : Int32) (nw : (Nat → Int32)) (kp : (Nat → Int32)) (pt : (Nat → Int32)) (hr : (Nat → Nat → Int32)) (lr : (Nat → Nat → Int32)) (Q : Int32 → Int32 → Int32 → Int32 → Int32 → Int32 → Int32 → Int32 → Int32 → Prop) (below : List Frame) (args : Array Value) (s : State) : State → Prop := MQ below (QC_X0_take D A ad cA tl tx mn sd e0 e1 e2 fr hd nw kp pt hr lr Q) args s 0 0 A
def B_X0_take_0  (Q : Int32 → Int32 → Int32 → Int32 → Int32 → Int32 → Int32 → Int32 → Int32 → Prop) (e0 : Int32) (e2 : Int32) (v1 : Int32) (e3 : Int32) (e4 : Int32) (e5 : Int32) (e6 : Int32) (e7 : Int32) (e8 : Int32) (e9 : Int32) (e10 : Int32) : Prop := (F_X0_following v1 e3 e4 (fun r_1 => ((r_1 = (-1 : Int32) → (Q (0 : Int32) e3 e4 e5 e6 e7 e8 e9 e10)) ∧ (¬ r_1 = (-1 : Int32) → (F_X0_keep v1 e0 e2 e3 e4 e5 e6 e7 e8 e9 e10 (fun e4_3 e5_4 e6_5 e7_6 e8_7 e9_8 e10_9 => (Q (1 : Int32) r_1 e4_3 e5_4 e6_5 e7_6 e8_7 e9_8 e10_9)))))))
def F_X0_take (v1 : Int32) (e0 : Int32) (e2 : Int32) (e3 : Int32) (e4 : Int32) (e5 : Int32) (e6 : Int32) (e7 : Int32) (e8 : Int32) (e9 : Int32) (e10 : Int32) (Q : Int32 → Int32 → Int32 → Int32 → Int32 → Int32 → Int32 → Int32 → Int32 → Prop) : Prop := B_X0_take_0 Q e0 e2 v1 e3 e4 e5 e6 e7 e8 e9 e10
theorem lkX0_take_19 : Cond.fieldLink RX0 19 (TX0 3).1 (TX0 3).2.1 (TX0 3).2.2.1 ∈ wsX0_take := by decide +kernel
theorem inX0_take_0 : ∀ q ∈ u_ws RX0 TX0 11, q ∈ wsX0_take := by decide +kernel
set_option maxHeartbeats 4000000 in
set_option maxRecDepth 100000 in
theorem t_B_X0_take_0  {Q : Int32 → Int32 → Int32 → Int32 → Int32 → Int32 → Int32 → Int32 → Int32 → Prop} (C : CxX p s m args c D (tysX cA) RX0 cX0_take 3 wsX0_take) (hrt9 : meth.sig.returnType = (some .boolean)) (hlk : meth.locks = false) (v1 : Int32) (e3 : Int32) (e4 : Int32) (e5 : Int32) (e6 : Int32) (e7 : Int32) (e8 : Int32) (e9 : Int32) (e10 : Int32)  (h : B_X0_take_0  Q e0 e2 v1 e3 e4 e5 e6 e7 e8 e9 e10) : GoX p l e rmX0_take s m args below meth c D A 3 0 0 (QP_X0_take D A ad cA tl tx mn sd e0 e1 e2 fr hd nw kp pt hr lr Q below args s) 0 [(0, .ref (ad 4)), (1, .int v1)] [] (WX ad cA tl tx mn sd e0 e1 e2 e3 e4 e5 e6 e7 e8 e9 e10 fr hd nw kp pt hr lr) := by
  replace h : (F_X0_following v1 e3 e4 (fun r_1 => ((r_1 = (-1 : Int32) → (Q (0 : Int32) e3 e4 e5 e6 e7 e8 e9 e10)) ∧ (¬ r_1 = (-1 : Int32) → (F_X0_keep v1 e0 e2 e3 e4 e5 e6 e7 e8 e9 e10 (fun e4_3 e5_4 e6_5 e7_6 e8_7 e9_8 e10_9 => (Q (1 : Int32) r_1 e4_3 e5_4 e6_5 e7_6 e8_7 e9_8 e10_9))))))) := h
  refine g_aload_n C 0 dX0_take_0 rfl rfl ?_
  refine g_iload_n C 1 dX0_take_1 rfl rfl ?_
  refine k_X0_following C gX0_take_X0_following ⟨Nat.le_of_ble_eq_true rfl, Nat.le_of_ble_eq_true rfl⟩ ⟨Nat.zero_le _, Nat.zero_le _⟩ (Nat.le_of_ble_eq_true rfl) dX0_take_2  h (fun r_1 h => ?_)
  refine g_istore_n C (lv2 := [(2, .int r_1), (0, .ref (ad 4)), (1, .int v1)]) dX0_take_5 rfl (by decide) rfl ?_
  refine g_iload_n C 0 dX0_take_6 rfl rfl ?_
  refine g_iconst C (-1 : Int32) dX0_take_7 (by decide) ?_
  refine g_icmp_ne C 13 dX0_take_8 (by decide) (fun c_2 => ?_) (fun c_2 => ?_)
  · replace h := h.2 c_2
    refine g_aload_n C 1 dX0_take_13 rfl rfl ?_
    refine g_iload_n C 2 dX0_take_14 rfl rfl ?_
    refine k_X0_keep C gX0_take_X0_keep ⟨Nat.le_of_ble_eq_true rfl, Nat.le_of_ble_eq_true rfl⟩ ⟨Nat.zero_le _, Nat.zero_le _⟩ (Nat.le_of_ble_eq_true rfl) dX0_take_15  h (fun e4_3 e5_4 e6_5 e7_6 e8_7 e9_8 e10_9 h => ?_)
    refine g_aload_n C 1 dX0_take_18 rfl rfl ?_
    refine g_iload_n C 0 dX0_take_19 rfl rfl ?_
    refine g_put C inX0_take_0 tyX0 tyX0_ok nmX0 4 WXg4 rfl 3 (by decide) lkX0_take_19 rfl rfl rfl (Nat.le_of_ble_eq_true rfl) (WXs_e3) dX0_take_20 ?_
    refine g_iconst C (1 : Int32) dX0_take_23 (by decide) ?_
    exact g_zret C hrt9 hlk rfl (u := (r_1, e4_3, e5_4, e6_5, e7_6, e8_7, e9_8, e10_9)) rfl h dX0_take_24
  · replace h := h.1 c_2
    refine g_iconst C (0 : Int32) dX0_take_11 (by decide) ?_
    exact g_zret C hrt9 hlk rfl (u := (e3, e4, e5, e6, e7, e8, e9, e10)) rfl h dX0_take_12
theorem c_X0_take (l : Launch) (D : va_G) (A : Nat → Prop) (ad : Nat → Nat) (cA : Nat → ClassId) (v1 : Int32) {tl : Int32} {tx : (Nat → Int32)} {mn : Int32} {sd : (Nat → Int64)} {e0 : Int32} {e1 : Int32} {e2 : Int32} {e3 : Int32} {e4 : Int32} {e5 : Int32} {e6 : Int32} {e7 : Int32} {e8 : Int32} {e9 : Int32} {e10 : Int32} {fr : Int32} {hd : Int32} {nw : (Nat → Int32)} {kp : (Nat → Int32)} {pt : (Nat → Int32)} {hr : (Nat → Nat → Int32)} {lr : (Nat → Nat → Int32)}  (Q : Int32 → Int32 → Int32 → Int32 → Int32 → Int32 → Int32 → Int32 → Int32 → Prop) (h : F_X0_take v1 e0 e2 e3 e4 e5 e6 e7 e8 e9 e10 Q) : Met l yX0_take wsX0_take rmX0_take (va_Pc [.ref (ad 4), .int v1] (OKX D (tysX cA) (WX ad cA tl tx mn sd e0 e1 e2 e3 e4 e5 e6 e7 e8 e9 e10 fr hd nw kp pt hr lr) A)) (QC_X0_take D A ad cA tl tx mn sd e0 e1 e2 fr hd nw kp pt hr lr Q) 0 0 A :=
  g_met (own := RX0) (by decide) rfl rfl (Nat.le_of_ble_eq_true rfl) (fun p e s m below meth c C hrt9 hlk _ => g_sub [0, 1] rfl (t_B_X0_take_0 C hrt9 hlk v1 e3 e4 e5 e6 e7 e8 e9 e10  h))
theorem k_X0_take {ws : List Cond} {own : String} {cc : ByteArray} {nL pc index kc ks : Nat} {lv : List (Nat × Value)} {st : List Value} {Q : State → Prop} {R : Room} {K : Int32 → Int32 → Int32 → Int32 → Int32 → Int32 → Int32 → Int32 → Int32 → Prop} {v1 : Int32} (C : CxX p s m args c D (tysX cA) own cc nL ws) (hT : GoodIn ws (wsV own index RX0 yX0_take wsX0_take)) (hR : rmX0_take.frames + 1 ≤ R.frames ∧ 8 + (3 + 11) + rmX0_take.locals ≤ R.locals) (hk9 : kc ≤ R.cells ∧ ks ≤ R.slots) (hcat : (st.map fun v => v.category).sum ≤ 8) (hdg : decode cc pc = .ok (.invokevirtual index, 3))  (h : F_X0_take v1 e0 e2 e3 e4 e5 e6 e7 e8 e9 e10 K) (kk : ∀ (r : Int32) (e3q : Int32) (e4q : Int32) (e5q : Int32) (e6q : Int32) (e7q : Int32) (e8q : Int32) (e9q : Int32) (e10q : Int32), K r e3q e4q e5q e6q e7q e8q e9q e10q → GoX p l e R s m args below meth c D A nL kc ks Q (pc + 3) lv (.int r :: st) (WX ad cA tl tx mn sd e0 e1 e2 e3q e4q e5q e6q e7q e8q e9q e10q fr hd nw kp pt hr lr)) : GoX p l e R s m args below meth c D A nL kc ks Q pc lv (.int v1 :: .ref (ad 4) :: st) (WX ad cA tl tx mn sd e0 e1 e2 e3 e4 e5 e6 e7 e8 e9 e10 fr hd nw kp pt hr lr) :=
  g_callVi C (As := [.int v1]) 1 (c_X0_take l D A ad cA v1  K h) hT rfl rfl rfl (by decide +kernel) hR hk9 4 WXg4 rfl rfl rfl hcat hdg (fun r u hu => kk r u.1 u.2.1 u.2.2.1 u.2.2.2.1 u.2.2.2.2.1 u.2.2.2.2.2.1 u.2.2.2.2.2.2.1 u.2.2.2.2.2.2.2 hu)
/-! X0_hear -/
abbrev rmX0_hear : Room := { frames := 3, cells := 0, slots := 0, locals := 64 }
abbrev QC_X0_hear (D : va_G) (A : Nat → Prop) (ad : Nat → Nat) (cA : Nat → ClassId) (tl : Int32) (tx : (Nat → Int32)) (mn : Int32) (sd : (Nat → Int64)) (e0 : Int32) (e1 : Int32) (e2 : Int32) (fr : Int32) (hd : Int32) (nw : (Nat → Int32)) (kp : (Nat → Int32)) (pt : (Nat → Int32)) (hr : (Nat → Nat → Int32)) (lr : (Nat → Nat → Int32)) (Q : Int32 → Int32 → Int32 → Int32 → Int32 → Int32 → Int32 → Int32 → Int32 → Prop) : Array Value → State → Outcome → State → Prop := va_Qi (fun (r : Int32) (u : Int32 × Int32 × Int32 × Int32 × Int32 × Int32 × Int32 × Int32) => Q r u.1 u.2.1 u.2.2.1 u.2.2.2.1 u.2.2.2.2.1 u.2.2.2.2.2.1 u.2.2.2.2.2.2.1 u.2.2.2.2.2.2.2) (fun u t => OKX D (tysX cA) ((fun u : Int32 × Int32 × Int32 × Int32 × Int32 × Int32 × Int32 × Int32 => WX ad cA tl tx mn sd e0 e1 e2 u.1 u.2.1 u.2.2.1 u.2.2.2.1 u.2.2.2.2.1 u.2.2.2.2.2.1 u.2.2.2.2.2.2.1 u.2.2.2.2.2.2.2 fr hd nw kp pt hr lr) u) A t) A
abbrev QP_X0_hear (D : va_G) (A : Nat → Prop) (ad : Nat → Nat) (cA : Nat → ClassId) (tl : Int32) (tx : (Nat → Int32)) (mn : Int32) (sd : (Nat → Int64)) (e0 : Int32) (e1 : Int32) (e2 : Int32) (fr : Int32) (hd : Int32) (nw : (Nat → Int32)) (kp : (Nat → Int32)) (pt : (Nat → Int32)) (hr : (Nat → Nat → Int32)) (lr : (Nat → Nat → Int32)) (Q : Int32 → Int32 → Int32 → Int32 → Int32 → Int32 → Int32 → Int32 → Int32 → Prop) (below : List Frame) (args : Array Value) (s : State) : State → Prop := MQ below (QC_X0_hear D A ad cA tl tx mn sd e0 e1 e2 fr hd nw kp pt hr lr Q) args s 0 0 A
def B_X0_hear_63  (Q : Int32 → Int32 → Int32 → Int32 → Int32 → Int32 → Int32 → Int32 → Int32 → Prop) (e0 : Int32) (e1 : Int32) (e2 : Int32) (s0 : Int32) (e3 : Int32) (e4 : Int32) (e5 : Int32) (e6 : Int32) (e7 : Int32) (e8 : Int32) (e9 : Int32) (e10 : Int32) : Prop := (Q s0 e3 e4 e5 e6 e7 e8 e9 e10)
def B_X0_hear_48  (Q : Int32 → Int32 → Int32 → Int32 → Int32 → Int32 → Int32 → Int32 → Int32 → Prop) (e0 : Int32) (e1 : Int32) (e2 : Int32)  (e3 : Int32) (e4 : Int32) (e5 : Int32) (e6 : Int32) (e7 : Int32) (e8 : Int32) (e9 : Int32) (e10 : Int32) : Prop := (F_X0_isComplete e3 (fun r_1 => ((r_1 = 0 → (B_X0_hear_63  Q e0 e1 e2 (0 : Int32) e3 e4 e5 e6 e7 e8 e9 e10)) ∧ (¬ r_1 = 0 → (F_X0_number e1 e6 e8 e9 e10 (fun r_3 => (B_X0_hear_63  Q e0 e1 e2 r_3 e3 e4 e5 e6 e7 e8 e9 e10)))))))
noncomputable def L_X0_hear_9  (Q : Int32 → Int32 → Int32 → Int32 → Int32 → Int32 → Int32 → Int32 → Int32 → Prop) (e0 : Int32) (e1 : Int32) (e2 : Int32) (n9 : Nat) : Int64 → Int32 → Int32 → Int32 → Int32 → Int32 → Int32 → Int32 → Int32 → Int32 → Int32 → Int32 → Prop := Nat.rec (motive := fun _ => Int64 → Int32 → Int32 → Int32 → Int32 → Int32 → Int32 → Int32 → Int32 → Int32 → Int32 → Int32 → Prop) (fun _ _ _ _ _ _ _ _ _ _ _ _ => False) (fun _ kh9 => fun v1 v3 v4 v5 e3 e4 e5 e6 e7 e8 e9 e10 => ((v4 ≤ v5 → (B_X0_hear_48  Q e0 e1 e2 e3 e4 e5 e6 e7 e8 e9 e10)) ∧ (¬ v4 ≤ v5 → ((v3 ≤ v5 → (B_X0_hear_48  Q e0 e1 e2 e3 e4 e5 e6 e7 e8 e9 e10)) ∧ (¬ v3 ≤ v5 → (F_X2_character v1 ((v4 - (1 : Int32)) - v5) (fun r_6 => (F_X0_take r_6 e0 e2 e3 e4 e5 e6 e7 e8 e9 e10 (fun r_7 e3_8 e4_9 e5_10 e6_11 e7_12 e8_13 e9_14 e10_15 => ((r_7 = 0 → (Q (0 : Int32) e3_8 e4_9 e5_10 e6_11 e7_12 e8_13 e9_14 e10_15)) ∧ (¬ r_7 = 0 → (kh9 v1 v3 v4 (v5 + (1 : Int32)) e3_8 e4_9 e5_10 e6_11 e7_12 e8_13 e9_14 e10_15)))))))))))) n9
def B_X0_hear_0  (Q : Int32 → Int32 → Int32 → Int32 → Int32 → Int32 → Int32 → Int32 → Int32 → Prop) (e0 : Int32) (e1 : Int32) (e2 : Int32) (v1 : Int64) (v3 : Int32) (e3 : Int32) (e4 : Int32) (e5 : Int32) (e6 : Int32) (e7 : Int32) (e8 : Int32) (e9 : Int32) (e10 : Int32) : Prop := (F_X2_length v1 (fun r_17 => (∃ n9 : Nat, L_X0_hear_9  Q e0 e1 e2 n9 v1 v3 r_17 (0 : Int32) e3 e4 e5 e6 e7 e8 e9 e10)))
def F_X0_hear (v1 : Int64) (v3 : Int32) (e0 : Int32) (e1 : Int32) (e2 : Int32) (e3 : Int32) (e4 : Int32) (e5 : Int32) (e6 : Int32) (e7 : Int32) (e8 : Int32) (e9 : Int32) (e10 : Int32) (Q : Int32 → Int32 → Int32 → Int32 → Int32 → Int32 → Int32 → Int32 → Int32 → Prop) : Prop := B_X0_hear_0 Q e0 e1 e2 v1 v3 e3 e4 e5 e6 e7 e8 e9 e10
set_option maxHeartbeats 4000000 in
set_option maxRecDepth 100000 in
theorem t_B_X0_hear_63  {Q : Int32 → Int32 → Int32 → Int32 → Int32 → Int32 → Int32 → Int32 → Int32 → Prop} (C : CxX p s m args c D (tysX cA) RX0 cX0_hear 6 wsX0_hear) (hrt9 : meth.sig.returnType = (some .int)) (hlk : meth.locks = false) (s0 : Int32) (e3 : Int32) (e4 : Int32) (e5 : Int32) (e6 : Int32) (e7 : Int32) (e8 : Int32) (e9 : Int32) (e10 : Int32)  (h : B_X0_hear_63  Q e0 e1 e2 s0 e3 e4 e5 e6 e7 e8 e9 e10) : GoX p l e rmX0_hear s m args below meth c D A 6 0 0 (QP_X0_hear D A ad cA tl tx mn sd e0 e1 e2 fr hd nw kp pt hr lr Q below args s) 63 [] [.int s0] (WX ad cA tl tx mn sd e0 e1 e2 e3 e4 e5 e6 e7 e8 e9 e10 fr hd nw kp pt hr lr) := by
  replace h : (Q s0 e3 e4 e5 e6 e7 e8 e9 e10) := h
  exact g_iret C hrt9 hlk (u := (e3, e4, e5, e6, e7, e8, e9, e10)) rfl h dX0_hear_63
set_option maxHeartbeats 4000000 in
set_option maxRecDepth 100000 in
theorem t_B_X0_hear_48  {Q : Int32 → Int32 → Int32 → Int32 → Int32 → Int32 → Int32 → Int32 → Int32 → Prop} (C : CxX p s m args c D (tysX cA) RX0 cX0_hear 6 wsX0_hear) (hrt9 : meth.sig.returnType = (some .int)) (hlk : meth.locks = false)  (e3 : Int32) (e4 : Int32) (e5 : Int32) (e6 : Int32) (e7 : Int32) (e8 : Int32) (e9 : Int32) (e10 : Int32)  (h : B_X0_hear_48  Q e0 e1 e2 e3 e4 e5 e6 e7 e8 e9 e10) : GoX p l e rmX0_hear s m args below meth c D A 6 0 0 (QP_X0_hear D A ad cA tl tx mn sd e0 e1 e2 fr hd nw kp pt hr lr Q below args s) 48 [(0, .ref (ad 4))] [] (WX ad cA tl tx mn sd e0 e1 e2 e3 e4 e5 e6 e7 e8 e9 e10 fr hd nw kp pt hr lr) := by
  replace h : (F_X0_isComplete e3 (fun r_1 => ((r_1 = 0 → (B_X0_hear_63  Q e0 e1 e2 (0 : Int32) e3 e4 e5 e6 e7 e8 e9 e10)) ∧ (¬ r_1 = 0 → (F_X0_number e1 e6 e8 e9 e10 (fun r_3 => (B_X0_hear_63  Q e0 e1 e2 r_3 e3 e4 e5 e6 e7 e8 e9 e10))))))) := h
  refine g_aload_n C 0 dX0_hear_48 rfl rfl ?_
  refine k_X0_isComplete C gX0_hear_X0_isComplete ⟨Nat.le_of_ble_eq_true rfl, Nat.le_of_ble_eq_true rfl⟩ ⟨Nat.zero_le _, Nat.zero_le _⟩ (Nat.le_of_ble_eq_true rfl) dX0_hear_49  h (fun r_1 h => ?_)
  refine g_if_eq C 62 dX0_hear_52 (by decide) (fun c_2 => ?_) (fun c_2 => ?_)
  · replace h := h.1 c_2
    refine g_iconst C (0 : Int32) dX0_hear_62 (by decide) ?_
    exact g_sub [] rfl (t_B_X0_hear_63 C hrt9 hlk  (0 : Int32) e3 e4 e5 e6 e7 e8 e9 e10  h)
  · replace h := h.2 c_2
    refine g_aload_n C 0 dX0_hear_55 rfl rfl ?_
    refine k_X0_number C gX0_hear_X0_number ⟨Nat.le_of_ble_eq_true rfl, Nat.le_of_ble_eq_true rfl⟩ ⟨Nat.zero_le _, Nat.zero_le _⟩ (Nat.le_of_ble_eq_true rfl) dX0_hear_56  h (fun r_3 h => ?_)
    refine g_goto C 63 dX0_hear_59 (by decide) ?_
    exact g_sub [] rfl (t_B_X0_hear_63 C hrt9 hlk  r_3 e3 e4 e5 e6 e7 e8 e9 e10  h)
set_option maxHeartbeats 4000000 in
set_option maxRecDepth 100000 in
theorem t_L_X0_hear_9  {Q : Int32 → Int32 → Int32 → Int32 → Int32 → Int32 → Int32 → Int32 → Int32 → Prop} (C : CxX p s m args c D (tysX cA) RX0 cX0_hear 6 wsX0_hear) (hrt9 : meth.sig.returnType = (some .int)) (hlk : meth.locks = false) (m9 : Nat) : ∀ (v1 : Int64) (v3 : Int32) (v4 : Int32) (v5 : Int32) (e3 : Int32) (e4 : Int32) (e5 : Int32) (e6 : Int32) (e7 : Int32) (e8 : Int32) (e9 : Int32) (e10 : Int32) , L_X0_hear_9  Q e0 e1 e2 m9 v1 v3 v4 v5 e3 e4 e5 e6 e7 e8 e9 e10 → GoX p l e rmX0_hear s m args below meth c D A 6 0 0 (QP_X0_hear D A ad cA tl tx mn sd e0 e1 e2 fr hd nw kp pt hr lr Q below args s) 9 [(0, .ref (ad 4)), (1, .long v1), (3, .int v3), (4, .int v4), (5, .int v5)] [] (WX ad cA tl tx mn sd e0 e1 e2 e3 e4 e5 e6 e7 e8 e9 e10 fr hd nw kp pt hr lr) := by
  induction m9 with
  | zero =>
    intro v1 v3 v4 v5 e3 e4 e5 e6 e7 e8 e9 e10 h
    exact False.elim h
  | succ m9 Hk9 =>
    intro v1 v3 v4 v5 e3 e4 e5 e6 e7 e8 e9 e10 h
    replace h : ((v4 ≤ v5 → (B_X0_hear_48  Q e0 e1 e2 e3 e4 e5 e6 e7 e8 e9 e10)) ∧ (¬ v4 ≤ v5 → ((v3 ≤ v5 → (B_X0_hear_48  Q e0 e1 e2 e3 e4 e5 e6 e7 e8 e9 e10)) ∧ (¬ v3 ≤ v5 → (F_X2_character v1 ((v4 - (1 : Int32)) - v5) (fun r_6 => (F_X0_take r_6 e0 e2 e3 e4 e5 e6 e7 e8 e9 e10 (fun r_7 e3_8 e4_9 e5_10 e6_11 e7_12 e8_13 e9_14 e10_15 => ((r_7 = 0 → (Q (0 : Int32) e3_8 e4_9 e5_10 e6_11 e7_12 e8_13 e9_14 e10_15)) ∧ (¬ r_7 = 0 → ((L_X0_hear_9  Q e0 e1 e2 m9) v1 v3 v4 (v5 + (1 : Int32)) e3_8 e4_9 e5_10 e6_11 e7_12 e8_13 e9_14 e10_15))))))))))) := h
    refine g_iload C 4 dX0_hear_9 rfl ?_
    refine g_iload C 3 dX0_hear_11 rfl ?_
    refine g_icmp_ge C 48 dX0_hear_13 (by decide) (fun c_4 => ?_) (fun c_4 => ?_)
    · replace h := h.1 c_4
      exact g_sub [0] rfl (t_B_X0_hear_48 C hrt9 hlk  e3 e4 e5 e6 e7 e8 e9 e10  h)
    · replace h := h.2 c_4
      refine g_iload C 4 dX0_hear_16 rfl ?_
      refine g_iload_n C 2 dX0_hear_18 rfl rfl ?_
      refine g_icmp_ge C 48 dX0_hear_19 (by decide) (fun c_5 => ?_) (fun c_5 => ?_)
      · replace h := h.1 c_5
        exact g_sub [0] rfl (t_B_X0_hear_48 C hrt9 hlk  e3 e4 e5 e6 e7 e8 e9 e10  h)
      · replace h := h.2 c_5
        refine g_aload_n C 0 dX0_hear_22 rfl rfl ?_
        refine g_lload_n C 1 dX0_hear_23 rfl rfl ?_
        refine g_iload C 3 dX0_hear_24 rfl ?_
        refine g_iconst C (1 : Int32) dX0_hear_26 (by decide) ?_
        refine g_isub C dX0_hear_27 ?_
        refine g_iload C 4 dX0_hear_28 rfl ?_
        refine g_isub C dX0_hear_30 ?_
        refine k_X2_character C gX0_hear_X2_character ⟨Nat.le_of_ble_eq_true rfl, Nat.le_of_ble_eq_true rfl⟩ ⟨Nat.zero_le _, Nat.zero_le _⟩ (Nat.le_of_ble_eq_true rfl) dX0_hear_31  h (fun r_6 h => ?_)
        refine k_X0_take C gX0_hear_X0_take ⟨Nat.le_of_ble_eq_true rfl, Nat.le_of_ble_eq_true rfl⟩ ⟨Nat.zero_le _, Nat.zero_le _⟩ (Nat.le_of_ble_eq_true rfl) dX0_hear_34  h (fun r_7 e3_8 e4_9 e5_10 e6_11 e7_12 e8_13 e9_14 e10_15 h => ?_)
        refine g_if_ne C 42 dX0_hear_37 (by decide) (fun c_16 => ?_) (fun c_16 => ?_)
        · replace h := h.2 c_16
          refine g_iinc C (v := (v5 + (1 : Int32))) (lv2 := [(5, .int (v5 + (1 : Int32))), (0, .ref (ad 4)), (1, .long v1), (3, .int v3), (4, .int v4)]) 4 dX0_hear_42 rfl rfl (by decide) rfl ?_
          refine g_goto C 9 dX0_hear_45 (by decide) ?_
          exact g_sub [1, 2, 3, 4, 0] rfl (Hk9 v1 v3 v4 (v5 + (1 : Int32)) e3_8 e4_9 e5_10 e6_11 e7_12 e8_13 e9_14 e10_15  h)
        · replace h := h.1 c_16
          refine g_iconst C (0 : Int32) dX0_hear_40 (by decide) ?_
          exact g_iret C hrt9 hlk (u := (e3_8, e4_9, e5_10, e6_11, e7_12, e8_13, e9_14, e10_15)) rfl h dX0_hear_41
set_option maxHeartbeats 4000000 in
set_option maxRecDepth 100000 in
theorem t_B_X0_hear_0  {Q : Int32 → Int32 → Int32 → Int32 → Int32 → Int32 → Int32 → Int32 → Int32 → Prop} (C : CxX p s m args c D (tysX cA) RX0 cX0_hear 6 wsX0_hear) (hrt9 : meth.sig.returnType = (some .int)) (hlk : meth.locks = false) (v1 : Int64) (v3 : Int32) (e3 : Int32) (e4 : Int32) (e5 : Int32) (e6 : Int32) (e7 : Int32) (e8 : Int32) (e9 : Int32) (e10 : Int32)  (h : B_X0_hear_0  Q e0 e1 e2 v1 v3 e3 e4 e5 e6 e7 e8 e9 e10) : GoX p l e rmX0_hear s m args below meth c D A 6 0 0 (QP_X0_hear D A ad cA tl tx mn sd e0 e1 e2 fr hd nw kp pt hr lr Q below args s) 0 [(0, .ref (ad 4)), (1, .long v1), (3, .int v3)] [] (WX ad cA tl tx mn sd e0 e1 e2 e3 e4 e5 e6 e7 e8 e9 e10 fr hd nw kp pt hr lr) := by
  replace h : (F_X2_length v1 (fun r_17 => (∃ n9 : Nat, L_X0_hear_9  Q e0 e1 e2 n9 v1 v3 r_17 (0 : Int32) e3 e4 e5 e6 e7 e8 e9 e10))) := h
  refine g_lload_n C 1 dX0_hear_0 rfl rfl ?_
  refine k_X2_length C gX0_hear_X2_length ⟨Nat.le_of_ble_eq_true rfl, Nat.le_of_ble_eq_true rfl⟩ ⟨Nat.zero_le _, Nat.zero_le _⟩ (Nat.le_of_ble_eq_true rfl) dX0_hear_1  h (fun r_17 h => ?_)
  refine g_istore C (lv2 := [(4, .int r_17), (0, .ref (ad 4)), (1, .long v1), (3, .int v3)]) dX0_hear_4 (by decide) rfl ?_
  refine g_iconst C (0 : Int32) dX0_hear_6 (by decide) ?_
  refine g_istore C (lv2 := [(5, .int (0 : Int32)), (4, .int r_17), (0, .ref (ad 4)), (1, .long v1), (3, .int v3)]) dX0_hear_7 (by decide) rfl ?_
  obtain ⟨n9, h⟩ := h
  exact g_sub [2, 3, 4, 1, 0] rfl (t_L_X0_hear_9 C hrt9 hlk  n9 v1 v3 r_17 (0 : Int32) e3 e4 e5 e6 e7 e8 e9 e10  h)
theorem c_X0_hear (l : Launch) (D : va_G) (A : Nat → Prop) (ad : Nat → Nat) (cA : Nat → ClassId) (v1 : Int64) (v3 : Int32) {tl : Int32} {tx : (Nat → Int32)} {mn : Int32} {sd : (Nat → Int64)} {e0 : Int32} {e1 : Int32} {e2 : Int32} {e3 : Int32} {e4 : Int32} {e5 : Int32} {e6 : Int32} {e7 : Int32} {e8 : Int32} {e9 : Int32} {e10 : Int32} {fr : Int32} {hd : Int32} {nw : (Nat → Int32)} {kp : (Nat → Int32)} {pt : (Nat → Int32)} {hr : (Nat → Nat → Int32)} {lr : (Nat → Nat → Int32)}  (Q : Int32 → Int32 → Int32 → Int32 → Int32 → Int32 → Int32 → Int32 → Int32 → Prop) (h : F_X0_hear v1 v3 e0 e1 e2 e3 e4 e5 e6 e7 e8 e9 e10 Q) : Met l yX0_hear wsX0_hear rmX0_hear (va_Pc [.ref (ad 4), .long v1, .int v3] (OKX D (tysX cA) (WX ad cA tl tx mn sd e0 e1 e2 e3 e4 e5 e6 e7 e8 e9 e10 fr hd nw kp pt hr lr) A)) (QC_X0_hear D A ad cA tl tx mn sd e0 e1 e2 fr hd nw kp pt hr lr Q) 0 0 A :=
  g_met (own := RX0) (by decide) rfl rfl (Nat.le_of_ble_eq_true rfl) (fun p e s m below meth c C hrt9 hlk _ => g_sub [0, 1, 2] rfl (t_B_X0_hear_0 C hrt9 hlk v1 v3 e3 e4 e5 e6 e7 e8 e9 e10  h))
theorem k_X0_hear {ws : List Cond} {own : String} {cc : ByteArray} {nL pc index kc ks : Nat} {lv : List (Nat × Value)} {st : List Value} {Q : State → Prop} {R : Room} {K : Int32 → Int32 → Int32 → Int32 → Int32 → Int32 → Int32 → Int32 → Int32 → Prop} {v1 : Int64} {v3 : Int32} (C : CxX p s m args c D (tysX cA) own cc nL ws) (hT : GoodIn ws (wsV own index RX0 yX0_hear wsX0_hear)) (hR : rmX0_hear.frames + 1 ≤ R.frames ∧ 8 + (6 + 11) + rmX0_hear.locals ≤ R.locals) (hk9 : kc ≤ R.cells ∧ ks ≤ R.slots) (hcat : (st.map fun v => v.category).sum ≤ 8) (hdg : decode cc pc = .ok (.invokevirtual index, 3))  (h : F_X0_hear v1 v3 e0 e1 e2 e3 e4 e5 e6 e7 e8 e9 e10 K) (kk : ∀ (r : Int32) (e3q : Int32) (e4q : Int32) (e5q : Int32) (e6q : Int32) (e7q : Int32) (e8q : Int32) (e9q : Int32) (e10q : Int32), K r e3q e4q e5q e6q e7q e8q e9q e10q → GoX p l e R s m args below meth c D A nL kc ks Q (pc + 3) lv (.int r :: st) (WX ad cA tl tx mn sd e0 e1 e2 e3q e4q e5q e6q e7q e8q e9q e10q fr hd nw kp pt hr lr)) : GoX p l e R s m args below meth c D A nL kc ks Q pc lv (.int v3 :: .long v1 :: .ref (ad 4) :: st) (WX ad cA tl tx mn sd e0 e1 e2 e3 e4 e5 e6 e7 e8 e9 e10 fr hd nw kp pt hr lr) :=
  g_callVi C (As := [.long v1, .int v3]) 2 (c_X0_hear l D A ad cA v1 v3  K h) hT rfl rfl rfl (by decide +kernel) hR hk9 4 WXg4 rfl rfl rfl hcat hdg (fun r u hu => kk r u.1 u.2.1 u.2.2.1 u.2.2.2.1 u.2.2.2.2.1 u.2.2.2.2.2.1 u.2.2.2.2.2.2.1 u.2.2.2.2.2.2.2 hu)
