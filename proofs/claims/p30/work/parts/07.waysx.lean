variable {p : Program} {l : Launch} {e : Env} {s : State} {m : MethodId} {args : Array Value} {below : List Frame} {meth : Method} {c : Code} {D : va_G} {A : Nat → Prop} {ad : Nat → Nat} {cA : Nat → ClassId}
variable {tl : Int32} {tx : (Nat → Int32)} {mn : Int32} {sd : (Nat → Int64)} {e0 : Int32} {e1 : Int32} {e2 : Int32} {e3 : Int32} {e4 : Int32} {e5 : Int32} {e6 : Int32} {e7 : Int32} {e8 : Int32} {e9 : Int32} {e10 : Int32} {fr : Int32} {hd : Int32} {nw : (Nat → Int32)} {kp : (Nat → Int32)} {pt : (Nat → Int32)} {hr : (Nat → Nat → Int32)} {lr : (Nat → Nat → Int32)}
/-! X4_at -/
abbrev rmX4_at : Room := { frames := 0, cells := 0, slots := 0, locals := 0 }
abbrev QC_X4_at (D : va_G) (A : Nat → Prop) (ad : Nat → Nat) (cA : Nat → ClassId) (tl : Int32) (tx : (Nat → Int32)) (mn : Int32) (sd : (Nat → Int64)) (e0 : Int32) (e1 : Int32) (e2 : Int32) (e3 : Int32) (e4 : Int32) (e5 : Int32) (e6 : Int32) (e7 : Int32) (e8 : Int32) (e9 : Int32) (e10 : Int32) (fr : Int32) (hd : Int32) (nw : (Nat → Int32)) (kp : (Nat → Int32)) (pt : (Nat → Int32)) (hr : (Nat → Nat → Int32)) (lr : (Nat → Nat → Int32)) (Q : Int64 → Prop) : Array Value → State → Outcome → State → Prop := va_Ql (fun (r : Int64) (u : Unit) => Q r ) (fun u t => OKX D (tysX cA) ((fun u : Unit => WX ad cA tl tx mn sd e0 e1 e2 e3 e4 e5 e6 e7 e8 e9 e10 fr hd nw kp pt hr lr) u) A t) A
abbrev QP_X4_at (D : va_G) (A : Nat → Prop) (ad : Nat → Nat) (cA : Nat → ClassId) (tl : Int32) (tx : (Nat → Int32)) (mn : Int32) (sd : (Nat → Int64)) (e0 : Int32) (e1 : Int32) (e2 : Int32) (e3 : Int32) (e4 : Int32) (e5 : Int32) (e6 : Int32) (e7 : Int32) (e8 : Int32) (e9 : Int32) (e10 : Int32) (fr : Int32) (hd : Int32) (nw : (Nat → Int32)) (kp : (Nat → Int32)) (pt : (Nat → Int32)) (hr : (Nat → Nat → Int32)) (lr : (Nat → Nat → Int32)) (Q : Int64 → Prop) (below : List Frame) (args : Array Value) (s : State) : State → Prop := MQ below (QC_X4_at D A ad cA tl tx mn sd e0 e1 e2 e3 e4 e5 e6 e7 e8 e9 e10 fr hd nw kp pt hr lr Q) args s 0 0 A
def B_X4_at_20  (Q : Int64 → Prop) (sd : (Nat → Int64)) (s0 : Int64)  : Prop := (Q s0)
def B_X4_at_19  (Q : Int64 → Prop) (sd : (Nat → Int64))   : Prop := (B_X4_at_20  Q sd (0 : Int64))
def B_X4_at_0  (Q : Int64 → Prop) (sd : (Nat → Int64)) (v1 : Int32)  : Prop := ((v1 < 0 → (B_X4_at_19  Q sd )) ∧ (¬ v1 < 0 → (((16 : Int32) ≤ v1 → (B_X4_at_19  Q sd )) ∧ (¬ (16 : Int32) ≤ v1 → (vp_in v1 16 ∧ (B_X4_at_20  Q sd (sd v1.toNatClampNeg)))))))
def F_X4_at (v1 : Int32) (sd : (Nat → Int64))  (Q : Int64 → Prop) : Prop := B_X4_at_0 Q sd v1 
theorem lkX4_at_9 : Cond.fieldLink RX4 9 (TX4 0).1 (TX4 0).2.1 (TX4 0).2.2.1 ∈ wsX4_at := by decide +kernel
theorem inX4_at_4 : ∀ q ∈ u_ws RX4 TX4 2, q ∈ wsX4_at := by decide +kernel
set_option maxHeartbeats 4000000 in
set_option maxRecDepth 100000 in
theorem t_B_X4_at_20  {Q : Int64 → Prop} (C : CxX p s m args c D (tysX cA) RX4 cX4_at 2 wsX4_at) (hrt9 : meth.sig.returnType = (some .long)) (hlk : meth.locks = false) (s0 : Int64)   (h : B_X4_at_20  Q sd s0) : GoX p l e rmX4_at s m args below meth c D A 2 0 0 (QP_X4_at D A ad cA tl tx mn sd e0 e1 e2 e3 e4 e5 e6 e7 e8 e9 e10 fr hd nw kp pt hr lr Q below args s) 20 [] [.long s0] (WX ad cA tl tx mn sd e0 e1 e2 e3 e4 e5 e6 e7 e8 e9 e10 fr hd nw kp pt hr lr) := by
  replace h : (Q s0) := h
  exact g_lret C hrt9 hlk (u := ()) rfl h dX4_at_20
set_option maxHeartbeats 4000000 in
set_option maxRecDepth 100000 in
theorem t_B_X4_at_19  {Q : Int64 → Prop} (C : CxX p s m args c D (tysX cA) RX4 cX4_at 2 wsX4_at) (hrt9 : meth.sig.returnType = (some .long)) (hlk : meth.locks = false)    (h : B_X4_at_19  Q sd ) : GoX p l e rmX4_at s m args below meth c D A 2 0 0 (QP_X4_at D A ad cA tl tx mn sd e0 e1 e2 e3 e4 e5 e6 e7 e8 e9 e10 fr hd nw kp pt hr lr Q below args s) 19 [] [] (WX ad cA tl tx mn sd e0 e1 e2 e3 e4 e5 e6 e7 e8 e9 e10 fr hd nw kp pt hr lr) := by
  replace h : (B_X4_at_20  Q sd (0 : Int64)) := h
  refine g_lconst C (0 : Int64) dX4_at_19 (by decide) ?_
  exact g_sub [] rfl (t_B_X4_at_20 C hrt9 hlk  (0 : Int64)  h)
set_option maxHeartbeats 4000000 in
set_option maxRecDepth 100000 in
theorem t_B_X4_at_0  {Q : Int64 → Prop} (C : CxX p s m args c D (tysX cA) RX4 cX4_at 2 wsX4_at) (hrt9 : meth.sig.returnType = (some .long)) (hlk : meth.locks = false) (v1 : Int32)   (h : B_X4_at_0  Q sd v1) : GoX p l e rmX4_at s m args below meth c D A 2 0 0 (QP_X4_at D A ad cA tl tx mn sd e0 e1 e2 e3 e4 e5 e6 e7 e8 e9 e10 fr hd nw kp pt hr lr Q below args s) 0 [(0, .ref (ad 2)), (1, .int v1)] [] (WX ad cA tl tx mn sd e0 e1 e2 e3 e4 e5 e6 e7 e8 e9 e10 fr hd nw kp pt hr lr) := by
  replace h : ((v1 < 0 → (B_X4_at_19  Q sd )) ∧ (¬ v1 < 0 → (((16 : Int32) ≤ v1 → (B_X4_at_19  Q sd )) ∧ (¬ (16 : Int32) ≤ v1 → (vp_in v1 16 ∧ (B_X4_at_20  Q sd (sd v1.toNatClampNeg))))))) := h
  refine g_iload_n C 1 dX4_at_0 rfl rfl ?_
  refine g_if_lt C 19 dX4_at_1 (by decide) (fun c_1 => ?_) (fun c_1 => ?_)
  · replace h := h.1 c_1
    exact g_sub [] rfl (t_B_X4_at_19 C hrt9 hlk    h)
  · replace h := h.2 c_1
    refine g_iload_n C 1 dX4_at_4 rfl rfl ?_
    refine g_bipush C (16 : Int32) dX4_at_5 (by decide) ?_
    refine g_icmp_ge C 19 dX4_at_7 (by decide) (fun c_2 => ?_) (fun c_2 => ?_)
    · replace h := h.1 c_2
      exact g_sub [] rfl (t_B_X4_at_19 C hrt9 hlk    h)
    · replace h := h.2 c_2
      refine g_aload_n C 0 dX4_at_10 rfl rfl ?_
      refine g_get C inX4_at_4 2 WXg2 rfl 0 (by decide) lkX4_at_9 rfl dX4_at_11 ?_
      refine g_iload_n C 1 dX4_at_14 rfl rfl ?_
      refine g_lald C 3 2 WXg3 rfl h.1 dX4_at_15 ?_
      replace h := h.2
      refine g_goto C 20 dX4_at_16 (by decide) ?_
      exact g_sub [] rfl (t_B_X4_at_20 C hrt9 hlk  (sd v1.toNatClampNeg)  h)
theorem c_X4_at (l : Launch) (D : va_G) (A : Nat → Prop) (ad : Nat → Nat) (cA : Nat → ClassId) (v1 : Int32) {tl : Int32} {tx : (Nat → Int32)} {mn : Int32} {sd : (Nat → Int64)} {e0 : Int32} {e1 : Int32} {e2 : Int32} {e3 : Int32} {e4 : Int32} {e5 : Int32} {e6 : Int32} {e7 : Int32} {e8 : Int32} {e9 : Int32} {e10 : Int32} {fr : Int32} {hd : Int32} {nw : (Nat → Int32)} {kp : (Nat → Int32)} {pt : (Nat → Int32)} {hr : (Nat → Nat → Int32)} {lr : (Nat → Nat → Int32)}  (Q : Int64 → Prop) (h : F_X4_at v1 sd Q) : Met l yX4_at wsX4_at rmX4_at (va_Pc [.ref (ad 2), .int v1] (OKX D (tysX cA) (WX ad cA tl tx mn sd e0 e1 e2 e3 e4 e5 e6 e7 e8 e9 e10 fr hd nw kp pt hr lr) A)) (QC_X4_at D A ad cA tl tx mn sd e0 e1 e2 e3 e4 e5 e6 e7 e8 e9 e10 fr hd nw kp pt hr lr Q) 0 0 A :=
  g_met (own := RX4) (by decide) rfl rfl (Nat.le_of_ble_eq_true rfl) (fun p e s m below meth c C hrt9 hlk _ => g_sub [0, 1] rfl (t_B_X4_at_0 C hrt9 hlk v1   h))
theorem k_X4_at {ws : List Cond} {own : String} {cc : ByteArray} {nL pc index kc ks : Nat} {lv : List (Nat × Value)} {st : List Value} {Q : State → Prop} {R : Room} {K : Int64 → Prop} {v1 : Int32} (C : CxX p s m args c D (tysX cA) own cc nL ws) (hT : GoodIn ws (wsV own index RX4 yX4_at wsX4_at)) (hR : rmX4_at.frames + 1 ≤ R.frames ∧ 8 + (2 + 11) + rmX4_at.locals ≤ R.locals) (hk9 : kc ≤ R.cells ∧ ks ≤ R.slots) (hcat : (st.map fun v => v.category).sum ≤ 8) (hdg : decode cc pc = .ok (.invokevirtual index, 3))  (h : F_X4_at v1 sd K) (kk : ∀ (r : Int64) , K r → GoX p l e R s m args below meth c D A nL kc ks Q (pc + 3) lv (.long r :: st) (WX ad cA tl tx mn sd e0 e1 e2 e3 e4 e5 e6 e7 e8 e9 e10 fr hd nw kp pt hr lr)) : GoX p l e R s m args below meth c D A nL kc ks Q pc lv (.int v1 :: .ref (ad 2) :: st) (WX ad cA tl tx mn sd e0 e1 e2 e3 e4 e5 e6 e7 e8 e9 e10 fr hd nw kp pt hr lr) :=
  g_callVl C (As := [.int v1]) 1 (c_X4_at l D A ad cA v1  K h) hT rfl rfl rfl (by decide +kernel) hR hk9 2 WXg2 rfl rfl rfl hcat hdg (fun r u hu => kk r  hu)
/-! X4_placeOf -/
abbrev rmX4_placeOf : Room := { frames := 0, cells := 0, slots := 0, locals := 0 }
abbrev QC_X4_placeOf (D : va_G) (A : Nat → Prop) (ad : Nat → Nat) (cA : Nat → ClassId) (tl : Int32) (tx : (Nat → Int32)) (mn : Int32) (sd : (Nat → Int64)) (e0 : Int32) (e1 : Int32) (e2 : Int32) (e3 : Int32) (e4 : Int32) (e5 : Int32) (e6 : Int32) (e7 : Int32) (e8 : Int32) (e9 : Int32) (e10 : Int32) (fr : Int32) (hd : Int32) (nw : (Nat → Int32)) (kp : (Nat → Int32)) (pt : (Nat → Int32)) (hr : (Nat → Nat → Int32)) (lr : (Nat → Nat → Int32)) (Q : Int32 → Prop) : Array Value → State → Outcome → State → Prop := va_Qi (fun (r : Int32) (u : Unit) => Q r ) (fun u t => OKX D (tysX cA) ((fun u : Unit => WX ad cA tl tx mn sd e0 e1 e2 e3 e4 e5 e6 e7 e8 e9 e10 fr hd nw kp pt hr lr) u) A t) A
abbrev QP_X4_placeOf (D : va_G) (A : Nat → Prop) (ad : Nat → Nat) (cA : Nat → ClassId) (tl : Int32) (tx : (Nat → Int32)) (mn : Int32) (sd : (Nat → Int64)) (e0 : Int32) (e1 : Int32) (e2 : Int32) (e3 : Int32) (e4 : Int32) (e5 : Int32) (e6 : Int32) (e7 : Int32) (e8 : Int32) (e9 : Int32) (e10 : Int32) (fr : Int32) (hd : Int32) (nw : (Nat → Int32)) (kp : (Nat → Int32)) (pt : (Nat → Int32)) (hr : (Nat → Nat → Int32)) (lr : (Nat → Nat → Int32)) (Q : Int32 → Prop) (below : List Frame) (args : Array Value) (s : State) : State → Prop := MQ below (QC_X4_placeOf D A ad cA tl tx mn sd e0 e1 e2 e3 e4 e5 e6 e7 e8 e9 e10 fr hd nw kp pt hr lr Q) args s 0 0 A
def B_X4_placeOf_35  (Q : Int32 → Prop) (mn : Int32) (sd : (Nat → Int64))   : Prop := (Q (0 : Int32))
noncomputable def L_X4_placeOf_2  (Q : Int32 → Prop) (mn : Int32) (sd : (Nat → Int64)) (n9 : Nat) : Int64 → Int32 → Prop := Nat.rec (motive := fun _ => Int64 → Int32 → Prop) (fun _ _ => False) (fun _ kh2 => fun v1 v3 => ((mn ≤ v3 → (B_X4_placeOf_35  Q mn sd )) ∧ (¬ mn ≤ v3 → (((16 : Int32) ≤ v3 → (B_X4_placeOf_35  Q mn sd )) ∧ (¬ (16 : Int32) ≤ v3 → (vp_in v3 16 ∧ (((lg_cmp (sd v3.toNatClampNeg) v1) = 0 → (Q v3)) ∧ (¬ (lg_cmp (sd v3.toNatClampNeg) v1) = 0 → (kh2 v1 (v3 + (1 : Int32))))))))))) n9
def B_X4_placeOf_0  (Q : Int32 → Prop) (mn : Int32) (sd : (Nat → Int64)) (v1 : Int64)  : Prop := (∃ n9 : Nat, L_X4_placeOf_2  Q mn sd n9 v1 (0 : Int32))
def F_X4_placeOf (v1 : Int64) (mn : Int32) (sd : (Nat → Int64))  (Q : Int32 → Prop) : Prop := B_X4_placeOf_0 Q mn sd v1 
theorem lkX4_placeOf_9 : Cond.fieldLink RX4 9 (TX4 0).1 (TX4 0).2.1 (TX4 0).2.2.1 ∈ wsX4_placeOf := by decide +kernel
theorem lkX4_placeOf_13 : Cond.fieldLink RX4 13 (TX4 1).1 (TX4 1).2.1 (TX4 1).2.2.1 ∈ wsX4_placeOf := by decide +kernel
theorem inX4_placeOf_4 : ∀ q ∈ u_ws RX4 TX4 2, q ∈ wsX4_placeOf := by decide +kernel
set_option maxHeartbeats 4000000 in
set_option maxRecDepth 100000 in
theorem t_B_X4_placeOf_35  {Q : Int32 → Prop} (C : CxX p s m args c D (tysX cA) RX4 cX4_placeOf 4 wsX4_placeOf) (hrt9 : meth.sig.returnType = (some .int)) (hlk : meth.locks = false)    (h : B_X4_placeOf_35  Q mn sd ) : GoX p l e rmX4_placeOf s m args below meth c D A 4 0 0 (QP_X4_placeOf D A ad cA tl tx mn sd e0 e1 e2 e3 e4 e5 e6 e7 e8 e9 e10 fr hd nw kp pt hr lr Q below args s) 35 [] [] (WX ad cA tl tx mn sd e0 e1 e2 e3 e4 e5 e6 e7 e8 e9 e10 fr hd nw kp pt hr lr) := by
  replace h : (Q (0 : Int32)) := h
  refine g_iconst C (0 : Int32) dX4_placeOf_35 (by decide) ?_
  exact g_iret C hrt9 hlk (u := ()) rfl h dX4_placeOf_36
set_option maxHeartbeats 4000000 in
set_option maxRecDepth 100000 in
theorem t_L_X4_placeOf_2  {Q : Int32 → Prop} (C : CxX p s m args c D (tysX cA) RX4 cX4_placeOf 4 wsX4_placeOf) (hrt9 : meth.sig.returnType = (some .int)) (hlk : meth.locks = false) (m9 : Nat) : ∀ (v1 : Int64) (v3 : Int32)  , L_X4_placeOf_2  Q mn sd m9 v1 v3 → GoX p l e rmX4_placeOf s m args below meth c D A 4 0 0 (QP_X4_placeOf D A ad cA tl tx mn sd e0 e1 e2 e3 e4 e5 e6 e7 e8 e9 e10 fr hd nw kp pt hr lr Q below args s) 2 [(0, .ref (ad 2)), (1, .long v1), (3, .int v3)] [] (WX ad cA tl tx mn sd e0 e1 e2 e3 e4 e5 e6 e7 e8 e9 e10 fr hd nw kp pt hr lr) := by
  induction m9 with
  | zero =>
    intro v1 v3 h
    exact False.elim h
  | succ m9 Hk2 =>
    intro v1 v3 h
    replace h : ((mn ≤ v3 → (B_X4_placeOf_35  Q mn sd )) ∧ (¬ mn ≤ v3 → (((16 : Int32) ≤ v3 → (B_X4_placeOf_35  Q mn sd )) ∧ (¬ (16 : Int32) ≤ v3 → (vp_in v3 16 ∧ (((lg_cmp (sd v3.toNatClampNeg) v1) = 0 → (Q v3)) ∧ (¬ (lg_cmp (sd v3.toNatClampNeg) v1) = 0 → ((L_X4_placeOf_2  Q mn sd m9) v1 (v3 + (1 : Int32)))))))))) := h
    refine g_iload_n C 2 dX4_placeOf_2 rfl rfl ?_
    refine g_aload_n C 0 dX4_placeOf_3 rfl rfl ?_
    refine g_get C inX4_placeOf_4 2 WXg2 rfl 1 (by decide) lkX4_placeOf_13 rfl dX4_placeOf_4 ?_
    refine g_icmp_ge C 35 dX4_placeOf_7 (by decide) (fun c_1 => ?_) (fun c_1 => ?_)
    · replace h := h.1 c_1
      exact g_sub [] rfl (t_B_X4_placeOf_35 C hrt9 hlk    h)
    · replace h := h.2 c_1
      refine g_iload_n C 2 dX4_placeOf_10 rfl rfl ?_
      refine g_bipush C (16 : Int32) dX4_placeOf_11 (by decide) ?_
      refine g_icmp_ge C 35 dX4_placeOf_13 (by decide) (fun c_2 => ?_) (fun c_2 => ?_)
      · replace h := h.1 c_2
        exact g_sub [] rfl (t_B_X4_placeOf_35 C hrt9 hlk    h)
      · replace h := h.2 c_2
        refine g_aload_n C 0 dX4_placeOf_16 rfl rfl ?_
        refine g_get C inX4_placeOf_4 2 WXg2 rfl 0 (by decide) lkX4_placeOf_9 rfl dX4_placeOf_17 ?_
        refine g_iload_n C 2 dX4_placeOf_20 rfl rfl ?_
        refine g_lald C 3 2 WXg3 rfl h.1 dX4_placeOf_21 ?_
        replace h := h.2
        refine g_lload_n C 1 dX4_placeOf_22 rfl rfl ?_
        refine g_lcmp C dX4_placeOf_23 ?_
        refine g_if_ne C 29 dX4_placeOf_24 (by decide) (fun c_3 => ?_) (fun c_3 => ?_)
        · replace h := h.2 c_3
          refine g_iinc C (v := (v3 + (1 : Int32))) (lv2 := [(3, .int (v3 + (1 : Int32))), (0, .ref (ad 2)), (1, .long v1)]) 2 dX4_placeOf_29 rfl rfl (by decide) rfl ?_
          refine g_goto C 2 dX4_placeOf_32 (by decide) ?_
          exact g_sub [1, 2, 0] rfl (Hk2 v1 (v3 + (1 : Int32))  h)
        · replace h := h.1 c_3
          refine g_iload_n C 2 dX4_placeOf_27 rfl rfl ?_
          exact g_iret C hrt9 hlk (u := ()) rfl h dX4_placeOf_28
set_option maxHeartbeats 4000000 in
set_option maxRecDepth 100000 in
theorem t_B_X4_placeOf_0  {Q : Int32 → Prop} (C : CxX p s m args c D (tysX cA) RX4 cX4_placeOf 4 wsX4_placeOf) (hrt9 : meth.sig.returnType = (some .int)) (hlk : meth.locks = false) (v1 : Int64)   (h : B_X4_placeOf_0  Q mn sd v1) : GoX p l e rmX4_placeOf s m args below meth c D A 4 0 0 (QP_X4_placeOf D A ad cA tl tx mn sd e0 e1 e2 e3 e4 e5 e6 e7 e8 e9 e10 fr hd nw kp pt hr lr Q below args s) 0 [(0, .ref (ad 2)), (1, .long v1)] [] (WX ad cA tl tx mn sd e0 e1 e2 e3 e4 e5 e6 e7 e8 e9 e10 fr hd nw kp pt hr lr) := by
  replace h : (∃ n9 : Nat, L_X4_placeOf_2  Q mn sd n9 v1 (0 : Int32)) := h
  refine g_iconst C (0 : Int32) dX4_placeOf_0 (by decide) ?_
  refine g_istore_n C (lv2 := [(3, .int (0 : Int32)), (0, .ref (ad 2)), (1, .long v1)]) dX4_placeOf_1 rfl (by decide) rfl ?_
  obtain ⟨n9, h⟩ := h
  exact g_sub [1, 2, 0] rfl (t_L_X4_placeOf_2 C hrt9 hlk  n9 v1 (0 : Int32)  h)
theorem c_X4_placeOf (l : Launch) (D : va_G) (A : Nat → Prop) (ad : Nat → Nat) (cA : Nat → ClassId) (v1 : Int64) {tl : Int32} {tx : (Nat → Int32)} {mn : Int32} {sd : (Nat → Int64)} {e0 : Int32} {e1 : Int32} {e2 : Int32} {e3 : Int32} {e4 : Int32} {e5 : Int32} {e6 : Int32} {e7 : Int32} {e8 : Int32} {e9 : Int32} {e10 : Int32} {fr : Int32} {hd : Int32} {nw : (Nat → Int32)} {kp : (Nat → Int32)} {pt : (Nat → Int32)} {hr : (Nat → Nat → Int32)} {lr : (Nat → Nat → Int32)}  (Q : Int32 → Prop) (h : F_X4_placeOf v1 mn sd Q) : Met l yX4_placeOf wsX4_placeOf rmX4_placeOf (va_Pc [.ref (ad 2), .long v1] (OKX D (tysX cA) (WX ad cA tl tx mn sd e0 e1 e2 e3 e4 e5 e6 e7 e8 e9 e10 fr hd nw kp pt hr lr) A)) (QC_X4_placeOf D A ad cA tl tx mn sd e0 e1 e2 e3 e4 e5 e6 e7 e8 e9 e10 fr hd nw kp pt hr lr Q) 0 0 A :=
  g_met (own := RX4) (by decide) rfl rfl (Nat.le_of_ble_eq_true rfl) (fun p e s m below meth c C hrt9 hlk _ => g_sub [0, 1] rfl (t_B_X4_placeOf_0 C hrt9 hlk v1   h))
theorem k_X4_placeOf {ws : List Cond} {own : String} {cc : ByteArray} {nL pc index kc ks : Nat} {lv : List (Nat × Value)} {st : List Value} {Q : State → Prop} {R : Room} {K : Int32 → Prop} {v1 : Int64} (C : CxX p s m args c D (tysX cA) own cc nL ws) (hT : GoodIn ws (wsV own index RX4 yX4_placeOf wsX4_placeOf)) (hR : rmX4_placeOf.frames + 1 ≤ R.frames ∧ 8 + (4 + 11) + rmX4_placeOf.locals ≤ R.locals) (hk9 : kc ≤ R.cells ∧ ks ≤ R.slots) (hcat : (st.map fun v => v.category).sum ≤ 8) (hdg : decode cc pc = .ok (.invokevirtual index, 3))  (h : F_X4_placeOf v1 mn sd K) (kk : ∀ (r : Int32) , K r → GoX p l e R s m args below meth c D A nL kc ks Q (pc + 3) lv (.int r :: st) (WX ad cA tl tx mn sd e0 e1 e2 e3 e4 e5 e6 e7 e8 e9 e10 fr hd nw kp pt hr lr)) : GoX p l e R s m args below meth c D A nL kc ks Q pc lv (.long v1 :: .ref (ad 2) :: st) (WX ad cA tl tx mn sd e0 e1 e2 e3 e4 e5 e6 e7 e8 e9 e10 fr hd nw kp pt hr lr) :=
  g_callVi C (As := [.long v1]) 1 (c_X4_placeOf l D A ad cA v1  K h) hT rfl rfl rfl (by decide +kernel) hR hk9 2 WXg2 rfl rfl rfl hcat hdg (fun r u hu => kk r  hu)
/-! X4_isOfStyle -/
abbrev rmX4_isOfStyle : Room := { frames := 2, cells := 0, slots := 0, locals := 45 }
abbrev QC_X4_isOfStyle (D : va_G) (A : Nat → Prop) (ad : Nat → Nat) (cA : Nat → ClassId) (tl : Int32) (tx : (Nat → Int32)) (mn : Int32) (sd : (Nat → Int64)) (e0 : Int32) (e1 : Int32) (e2 : Int32) (e3 : Int32) (e4 : Int32) (e5 : Int32) (e6 : Int32) (e7 : Int32) (e8 : Int32) (e9 : Int32) (e10 : Int32) (fr : Int32) (hd : Int32) (nw : (Nat → Int32)) (kp : (Nat → Int32)) (pt : (Nat → Int32)) (hr : (Nat → Nat → Int32)) (lr : (Nat → Nat → Int32)) (Q : Int32 → Prop) : Array Value → State → Outcome → State → Prop := va_Qi (fun (r : Int32) (u : Unit) => Q r ) (fun u t => OKX D (tysX cA) ((fun u : Unit => WX ad cA tl tx mn sd e0 e1 e2 e3 e4 e5 e6 e7 e8 e9 e10 fr hd nw kp pt hr lr) u) A t) A
abbrev QP_X4_isOfStyle (D : va_G) (A : Nat → Prop) (ad : Nat → Nat) (cA : Nat → ClassId) (tl : Int32) (tx : (Nat → Int32)) (mn : Int32) (sd : (Nat → Int64)) (e0 : Int32) (e1 : Int32) (e2 : Int32) (e3 : Int32) (e4 : Int32) (e5 : Int32) (e6 : Int32) (e7 : Int32) (e8 : Int32) (e9 : Int32) (e10 : Int32) (fr : Int32) (hd : Int32) (nw : (Nat → Int32)) (kp : (Nat → Int32)) (pt : (Nat → Int32)) (hr : (Nat → Nat → Int32)) (lr : (Nat → Nat → Int32)) (Q : Int32 → Prop) (below : List Frame) (args : Array Value) (s : State) : State → Prop := MQ below (QC_X4_isOfStyle D A ad cA tl tx mn sd e0 e1 e2 e3 e4 e5 e6 e7 e8 e9 e10 fr hd nw kp pt hr lr Q) args s 0 0 A
def B_X4_isOfStyle_65  (Q : Int32 → Prop)  (s0 : Int32)  : Prop := (isBo s0 ∧ (Q s0))
def B_X4_isOfStyle_64  (Q : Int32 → Prop)    : Prop := (B_X4_isOfStyle_65  Q  (0 : Int32))
def B_X4_isOfStyle_0  (Q : Int32 → Prop)  (v0 : Int64) (v2 : Int32)  : Prop := ((v2 = (1 : Int32) → (F_X2_has v0 (72 : Int32) (fun r_2 => (isBo r_2 ∧ (Q r_2))))) ∧ (¬ v2 = (1 : Int32) → ((v2 = (2 : Int32) → (F_X2_has v0 (45 : Int32) (fun r_4 => (isBo r_4 ∧ (Q r_4))))) ∧ (¬ v2 = (2 : Int32) → ((v2 = (3 : Int32) → (F_X2_has v0 (72 : Int32) (fun r_6 => ((r_6 = 0 → (F_X2_has v0 (45 : Int32) (fun r_8 => ((r_8 = 0 → (B_X4_isOfStyle_65  Q  (1 : Int32))) ∧ (¬ r_8 = 0 → (B_X4_isOfStyle_64  Q  )))))) ∧ (¬ r_6 = 0 → (B_X4_isOfStyle_64  Q  )))))) ∧ (¬ v2 = (3 : Int32) → (Q (1 : Int32))))))))
def F_X4_isOfStyle (v0 : Int64) (v2 : Int32)   (Q : Int32 → Prop) : Prop := B_X4_isOfStyle_0 Q  v0 v2 
set_option maxHeartbeats 4000000 in
set_option maxRecDepth 100000 in
theorem t_B_X4_isOfStyle_65  {Q : Int32 → Prop} (C : CxX p s m args c D (tysX cA) RX4 cX4_isOfStyle 3 wsX4_isOfStyle) (hrt9 : meth.sig.returnType = (some .boolean)) (hlk : meth.locks = false) (s0 : Int32)   (h : B_X4_isOfStyle_65  Q  s0) : GoX p l e rmX4_isOfStyle s m args below meth c D A 3 0 0 (QP_X4_isOfStyle D A ad cA tl tx mn sd e0 e1 e2 e3 e4 e5 e6 e7 e8 e9 e10 fr hd nw kp pt hr lr Q below args s) 65 [] [.int s0] (WX ad cA tl tx mn sd e0 e1 e2 e3 e4 e5 e6 e7 e8 e9 e10 fr hd nw kp pt hr lr) := by
  replace h : (isBo s0 ∧ (Q s0)) := h
  exact g_zret C hrt9 hlk h.1.n (u := ()) rfl h.2 dX4_isOfStyle_65
set_option maxHeartbeats 4000000 in
set_option maxRecDepth 100000 in
theorem t_B_X4_isOfStyle_64  {Q : Int32 → Prop} (C : CxX p s m args c D (tysX cA) RX4 cX4_isOfStyle 3 wsX4_isOfStyle) (hrt9 : meth.sig.returnType = (some .boolean)) (hlk : meth.locks = false)    (h : B_X4_isOfStyle_64  Q  ) : GoX p l e rmX4_isOfStyle s m args below meth c D A 3 0 0 (QP_X4_isOfStyle D A ad cA tl tx mn sd e0 e1 e2 e3 e4 e5 e6 e7 e8 e9 e10 fr hd nw kp pt hr lr Q below args s) 64 [] [] (WX ad cA tl tx mn sd e0 e1 e2 e3 e4 e5 e6 e7 e8 e9 e10 fr hd nw kp pt hr lr) := by
  replace h : (B_X4_isOfStyle_65  Q  (0 : Int32)) := h
  refine g_iconst C (0 : Int32) dX4_isOfStyle_64 (by decide) ?_
  exact g_sub [] rfl (t_B_X4_isOfStyle_65 C hrt9 hlk  (0 : Int32)  h)
set_option maxHeartbeats 4000000 in
set_option maxRecDepth 100000 in
theorem t_B_X4_isOfStyle_0  {Q : Int32 → Prop} (C : CxX p s m args c D (tysX cA) RX4 cX4_isOfStyle 3 wsX4_isOfStyle) (hrt9 : meth.sig.returnType = (some .boolean)) (hlk : meth.locks = false) (v0 : Int64) (v2 : Int32)   (h : B_X4_isOfStyle_0  Q  v0 v2) : GoX p l e rmX4_isOfStyle s m args below meth c D A 3 0 0 (QP_X4_isOfStyle D A ad cA tl tx mn sd e0 e1 e2 e3 e4 e5 e6 e7 e8 e9 e10 fr hd nw kp pt hr lr Q below args s) 0 [(0, .long v0), (2, .int v2)] [] (WX ad cA tl tx mn sd e0 e1 e2 e3 e4 e5 e6 e7 e8 e9 e10 fr hd nw kp pt hr lr) := by
  replace h : ((v2 = (1 : Int32) → (F_X2_has v0 (72 : Int32) (fun r_2 => (isBo r_2 ∧ (Q r_2))))) ∧ (¬ v2 = (1 : Int32) → ((v2 = (2 : Int32) → (F_X2_has v0 (45 : Int32) (fun r_4 => (isBo r_4 ∧ (Q r_4))))) ∧ (¬ v2 = (2 : Int32) → ((v2 = (3 : Int32) → (F_X2_has v0 (72 : Int32) (fun r_6 => ((r_6 = 0 → (F_X2_has v0 (45 : Int32) (fun r_8 => ((r_8 = 0 → (B_X4_isOfStyle_65  Q  (1 : Int32))) ∧ (¬ r_8 = 0 → (B_X4_isOfStyle_64  Q  )))))) ∧ (¬ r_6 = 0 → (B_X4_isOfStyle_64  Q  )))))) ∧ (¬ v2 = (3 : Int32) → (Q (1 : Int32)))))))) := h
  refine g_iload_n C 1 dX4_isOfStyle_0 rfl rfl ?_
  by_cases c_1 : v2 = (1 : Int32)
  · refine g_tableIn C 27 28 dX4_isOfStyle_1 (by rw [c_1]; decide) (by rw [c_1]; decide) (by rw [c_1]; decide) (by decide) ?_
    replace h := h.1 c_1
    refine g_lload_n C 0 dX4_isOfStyle_28 rfl rfl ?_
    refine g_bipush C (72 : Int32) dX4_isOfStyle_29 (by decide) ?_
    refine k_X2_has C gX4_isOfStyle_X2_has ⟨Nat.le_of_ble_eq_true rfl, Nat.le_of_ble_eq_true rfl⟩ ⟨Nat.zero_le _, Nat.zero_le _⟩ (Nat.le_of_ble_eq_true rfl) dX4_isOfStyle_31  h (fun r_2 h => ?_)
    exact g_zret C hrt9 hlk h.1.n (u := ()) rfl h.2 dX4_isOfStyle_34
  · replace h := h.2 c_1
    by_cases c_3 : v2 = (2 : Int32)
    · refine g_tableIn C 34 35 dX4_isOfStyle_1 (by rw [c_3]; decide) (by rw [c_3]; decide) (by rw [c_3]; decide) (by decide) ?_
      replace h := h.1 c_3
      refine g_lload_n C 0 dX4_isOfStyle_35 rfl rfl ?_
      refine g_bipush C (45 : Int32) dX4_isOfStyle_36 (by decide) ?_
      refine k_X2_has C gX4_isOfStyle_X2_has ⟨Nat.le_of_ble_eq_true rfl, Nat.le_of_ble_eq_true rfl⟩ ⟨Nat.zero_le _, Nat.zero_le _⟩ (Nat.le_of_ble_eq_true rfl) dX4_isOfStyle_38  h (fun r_4 h => ?_)
      exact g_zret C hrt9 hlk h.1.n (u := ()) rfl h.2 dX4_isOfStyle_41
    · replace h := h.2 c_3
      by_cases c_5 : v2 = (3 : Int32)
      · refine g_tableIn C 41 42 dX4_isOfStyle_1 (by rw [c_5]; decide) (by rw [c_5]; decide) (by rw [c_5]; decide) (by decide) ?_
        replace h := h.1 c_5
        refine g_lload_n C 0 dX4_isOfStyle_42 rfl rfl ?_
        refine g_bipush C (72 : Int32) dX4_isOfStyle_43 (by decide) ?_
        refine k_X2_has C gX4_isOfStyle_X2_has ⟨Nat.le_of_ble_eq_true rfl, Nat.le_of_ble_eq_true rfl⟩ ⟨Nat.zero_le _, Nat.zero_le _⟩ (Nat.le_of_ble_eq_true rfl) dX4_isOfStyle_45  h (fun r_6 h => ?_)
        refine g_if_ne C 64 dX4_isOfStyle_48 (by decide) (fun c_7 => ?_) (fun c_7 => ?_)
        · replace h := h.2 c_7
          exact g_sub [] rfl (t_B_X4_isOfStyle_64 C hrt9 hlk    h)
        · replace h := h.1 c_7
          refine g_lload_n C 0 dX4_isOfStyle_51 rfl rfl ?_
          refine g_bipush C (45 : Int32) dX4_isOfStyle_52 (by decide) ?_
          refine k_X2_has C gX4_isOfStyle_X2_has ⟨Nat.le_of_ble_eq_true rfl, Nat.le_of_ble_eq_true rfl⟩ ⟨Nat.zero_le _, Nat.zero_le _⟩ (Nat.le_of_ble_eq_true rfl) dX4_isOfStyle_54  h (fun r_8 h => ?_)
          refine g_if_ne C 64 dX4_isOfStyle_57 (by decide) (fun c_9 => ?_) (fun c_9 => ?_)
          · replace h := h.2 c_9
            exact g_sub [] rfl (t_B_X4_isOfStyle_64 C hrt9 hlk    h)
          · replace h := h.1 c_9
            refine g_iconst C (1 : Int32) dX4_isOfStyle_60 (by decide) ?_
            refine g_goto C 65 dX4_isOfStyle_61 (by decide) ?_
            exact g_sub [] rfl (t_B_X4_isOfStyle_65 C hrt9 hlk  (1 : Int32)  h)
      · replace h := h.2 c_5
        have c_1t := lv_neT (a := 1) c_1 (by decide)
        have c_3t := lv_neT (a := 2) c_3 (by decide)
        have c_5t := lv_neT (a := 3) c_5 (by decide)
        refine g_tableOut C 66 dX4_isOfStyle_1 (by omega) (by decide) ?_
        refine g_iconst C (1 : Int32) dX4_isOfStyle_66 (by decide) ?_
        exact g_zret C hrt9 hlk rfl (u := ()) rfl h dX4_isOfStyle_67
theorem c_X4_isOfStyle (l : Launch) (D : va_G) (A : Nat → Prop) (ad : Nat → Nat) (cA : Nat → ClassId) (v0 : Int64) (v2 : Int32) {tl : Int32} {tx : (Nat → Int32)} {mn : Int32} {sd : (Nat → Int64)} {e0 : Int32} {e1 : Int32} {e2 : Int32} {e3 : Int32} {e4 : Int32} {e5 : Int32} {e6 : Int32} {e7 : Int32} {e8 : Int32} {e9 : Int32} {e10 : Int32} {fr : Int32} {hd : Int32} {nw : (Nat → Int32)} {kp : (Nat → Int32)} {pt : (Nat → Int32)} {hr : (Nat → Nat → Int32)} {lr : (Nat → Nat → Int32)}  (Q : Int32 → Prop) (h : F_X4_isOfStyle v0 v2 Q) : Met l yX4_isOfStyle wsX4_isOfStyle rmX4_isOfStyle (va_Pc [.long v0, .int v2] (OKX D (tysX cA) (WX ad cA tl tx mn sd e0 e1 e2 e3 e4 e5 e6 e7 e8 e9 e10 fr hd nw kp pt hr lr) A)) (QC_X4_isOfStyle D A ad cA tl tx mn sd e0 e1 e2 e3 e4 e5 e6 e7 e8 e9 e10 fr hd nw kp pt hr lr Q) 0 0 A :=
  g_met (own := RX4) (by decide) rfl rfl (Nat.le_of_ble_eq_true rfl) (fun p e s m below meth c C hrt9 hlk _ => g_sub [0, 1] rfl (t_B_X4_isOfStyle_0 C hrt9 hlk v0 v2   h))
theorem k_X4_isOfStyle {ws : List Cond} {own : String} {cc : ByteArray} {nL pc index kc ks : Nat} {lv : List (Nat × Value)} {st : List Value} {Q : State → Prop} {R : Room} {K : Int32 → Prop} {v0 : Int64} {v2 : Int32} (C : CxX p s m args c D (tysX cA) own cc nL ws) (hT : GoodIn ws (va_wsS own index yX4_isOfStyle wsX4_isOfStyle)) (hR : rmX4_isOfStyle.frames + 1 ≤ R.frames ∧ 8 + (3 + 11) + rmX4_isOfStyle.locals ≤ R.locals) (hk9 : kc ≤ R.cells ∧ ks ≤ R.slots) (hcat : (st.map fun v => v.category).sum ≤ 8) (hdg : decode cc pc = .ok (.invokestatic index, 3))  (h : F_X4_isOfStyle v0 v2 K) (kk : ∀ (r : Int32) , K r → GoX p l e R s m args below meth c D A nL kc ks Q (pc + 3) lv (.int r :: st) (WX ad cA tl tx mn sd e0 e1 e2 e3 e4 e5 e6 e7 e8 e9 e10 fr hd nw kp pt hr lr)) : GoX p l e R s m args below meth c D A nL kc ks Q pc lv (.int v2 :: .long v0 :: st) (WX ad cA tl tx mn sd e0 e1 e2 e3 e4 e5 e6 e7 e8 e9 e10 fr hd nw kp pt hr lr) :=
  g_callSi C (As := [.long v0, .int v2]) 2 (c_X4_isOfStyle l D A ad cA v0 v2  K h) hT rfl rfl rfl (by decide +kernel) hR hk9 rfl rfl hcat hdg (fun r u hu => kk r  hu)
/-! X4_placeOfStyle -/
abbrev rmX4_placeOfStyle : Room := { frames := 3, cells := 0, slots := 0, locals := 67 }
abbrev QC_X4_placeOfStyle (D : va_G) (A : Nat → Prop) (ad : Nat → Nat) (cA : Nat → ClassId) (tl : Int32) (tx : (Nat → Int32)) (mn : Int32) (sd : (Nat → Int64)) (e0 : Int32) (e1 : Int32) (e2 : Int32) (e3 : Int32) (e4 : Int32) (e5 : Int32) (e6 : Int32) (e7 : Int32) (e8 : Int32) (e9 : Int32) (e10 : Int32) (fr : Int32) (hd : Int32) (nw : (Nat → Int32)) (kp : (Nat → Int32)) (pt : (Nat → Int32)) (hr : (Nat → Nat → Int32)) (lr : (Nat → Nat → Int32)) (Q : Int32 → Prop) : Array Value → State → Outcome → State → Prop := va_Qi (fun (r : Int32) (u : Unit) => Q r ) (fun u t => OKX D (tysX cA) ((fun u : Unit => WX ad cA tl tx mn sd e0 e1 e2 e3 e4 e5 e6 e7 e8 e9 e10 fr hd nw kp pt hr lr) u) A t) A
abbrev QP_X4_placeOfStyle (D : va_G) (A : Nat → Prop) (ad : Nat → Nat) (cA : Nat → ClassId) (tl : Int32) (tx : (Nat → Int32)) (mn : Int32) (sd : (Nat → Int64)) (e0 : Int32) (e1 : Int32) (e2 : Int32) (e3 : Int32) (e4 : Int32) (e5 : Int32) (e6 : Int32) (e7 : Int32) (e8 : Int32) (e9 : Int32) (e10 : Int32) (fr : Int32) (hd : Int32) (nw : (Nat → Int32)) (kp : (Nat → Int32)) (pt : (Nat → Int32)) (hr : (Nat → Nat → Int32)) (lr : (Nat → Nat → Int32)) (Q : Int32 → Prop) (below : List Frame) (args : Array Value) (s : State) : State → Prop := MQ below (QC_X4_placeOfStyle D A ad cA tl tx mn sd e0 e1 e2 e3 e4 e5 e6 e7 e8 e9 e10 fr hd nw kp pt hr lr Q) args s 0 0 A
noncomputable def L_X4_placeOfStyle_2  (Q : Int32 → Prop) (mn : Int32) (sd : (Nat → Int64)) (n9 : Nat) : Int32 → Int32 → Prop := Nat.rec (motive := fun _ => Int32 → Int32 → Prop) (fun _ _ => False) (fun _ kh2 => fun v1 v2 => ((mn ≤ v2 → (Q (0 : Int32))) ∧ (¬ mn ≤ v2 → (F_X4_at v2 sd (fun r_2 => (F_X4_isOfStyle r_2 v1 (fun r_3 => ((r_3 = 0 → (kh2 v1 (v2 + (1 : Int32)))) ∧ (¬ r_3 = 0 → (Q v2)))))))))) n9
def B_X4_placeOfStyle_0  (Q : Int32 → Prop) (mn : Int32) (sd : (Nat → Int64)) (v1 : Int32)  : Prop := (∃ n9 : Nat, L_X4_placeOfStyle_2  Q mn sd n9 v1 (0 : Int32))
def F_X4_placeOfStyle (v1 : Int32) (mn : Int32) (sd : (Nat → Int64))  (Q : Int32 → Prop) : Prop := B_X4_placeOfStyle_0 Q mn sd v1 
theorem lkX4_placeOfStyle_13 : Cond.fieldLink RX4 13 (TX4 1).1 (TX4 1).2.1 (TX4 1).2.2.1 ∈ wsX4_placeOfStyle := by decide +kernel
theorem inX4_placeOfStyle_4 : ∀ q ∈ u_ws RX4 TX4 2, q ∈ wsX4_placeOfStyle := by decide +kernel
set_option maxHeartbeats 4000000 in
set_option maxRecDepth 100000 in
theorem t_L_X4_placeOfStyle_2  {Q : Int32 → Prop} (C : CxX p s m args c D (tysX cA) RX4 cX4_placeOfStyle 3 wsX4_placeOfStyle) (hrt9 : meth.sig.returnType = (some .int)) (hlk : meth.locks = false) (m9 : Nat) : ∀ (v1 : Int32) (v2 : Int32)  , L_X4_placeOfStyle_2  Q mn sd m9 v1 v2 → GoX p l e rmX4_placeOfStyle s m args below meth c D A 3 0 0 (QP_X4_placeOfStyle D A ad cA tl tx mn sd e0 e1 e2 e3 e4 e5 e6 e7 e8 e9 e10 fr hd nw kp pt hr lr Q below args s) 2 [(0, .ref (ad 2)), (1, .int v1), (2, .int v2)] [] (WX ad cA tl tx mn sd e0 e1 e2 e3 e4 e5 e6 e7 e8 e9 e10 fr hd nw kp pt hr lr) := by
  induction m9 with
  | zero =>
    intro v1 v2 h
    exact False.elim h
  | succ m9 Hk2 =>
    intro v1 v2 h
    replace h : ((mn ≤ v2 → (Q (0 : Int32))) ∧ (¬ mn ≤ v2 → (F_X4_at v2 sd (fun r_2 => (F_X4_isOfStyle r_2 v1 (fun r_3 => ((r_3 = 0 → ((L_X4_placeOfStyle_2  Q mn sd m9) v1 (v2 + (1 : Int32)))) ∧ (¬ r_3 = 0 → (Q v2))))))))) := h
    refine g_iload_n C 2 dX4_placeOfStyle_2 rfl rfl ?_
    refine g_aload_n C 0 dX4_placeOfStyle_3 rfl rfl ?_
    refine g_get C inX4_placeOfStyle_4 2 WXg2 rfl 1 (by decide) lkX4_placeOfStyle_13 rfl dX4_placeOfStyle_4 ?_
    refine g_icmp_ge C 30 dX4_placeOfStyle_7 (by decide) (fun c_1 => ?_) (fun c_1 => ?_)
    · replace h := h.1 c_1
      refine g_iconst C (0 : Int32) dX4_placeOfStyle_30 (by decide) ?_
      exact g_iret C hrt9 hlk (u := ()) rfl h dX4_placeOfStyle_31
    · replace h := h.2 c_1
      refine g_aload_n C 0 dX4_placeOfStyle_10 rfl rfl ?_
      refine g_iload_n C 2 dX4_placeOfStyle_11 rfl rfl ?_
      refine k_X4_at C gX4_placeOfStyle_X4_at ⟨Nat.le_of_ble_eq_true rfl, Nat.le_of_ble_eq_true rfl⟩ ⟨Nat.zero_le _, Nat.zero_le _⟩ (Nat.le_of_ble_eq_true rfl) dX4_placeOfStyle_12  h (fun r_2 h => ?_)
      refine g_iload_n C 1 dX4_placeOfStyle_15 rfl rfl ?_
      refine k_X4_isOfStyle C gX4_placeOfStyle_X4_isOfStyle ⟨Nat.le_of_ble_eq_true rfl, Nat.le_of_ble_eq_true rfl⟩ ⟨Nat.zero_le _, Nat.zero_le _⟩ (Nat.le_of_ble_eq_true rfl) dX4_placeOfStyle_16  h (fun r_3 h => ?_)
      refine g_if_eq C 24 dX4_placeOfStyle_19 (by decide) (fun c_4 => ?_) (fun c_4 => ?_)
      · replace h := h.1 c_4
        refine g_iinc C (v := (v2 + (1 : Int32))) (lv2 := [(2, .int (v2 + (1 : Int32))), (0, .ref (ad 2)), (1, .int v1)]) 2 dX4_placeOfStyle_24 rfl rfl (by decide) rfl ?_
        refine g_goto C 2 dX4_placeOfStyle_27 (by decide) ?_
        exact g_sub [1, 2, 0] rfl (Hk2 v1 (v2 + (1 : Int32))  h)
      · replace h := h.2 c_4
        refine g_iload_n C 2 dX4_placeOfStyle_22 rfl rfl ?_
        exact g_iret C hrt9 hlk (u := ()) rfl h dX4_placeOfStyle_23
set_option maxHeartbeats 4000000 in
set_option maxRecDepth 100000 in
theorem t_B_X4_placeOfStyle_0  {Q : Int32 → Prop} (C : CxX p s m args c D (tysX cA) RX4 cX4_placeOfStyle 3 wsX4_placeOfStyle) (hrt9 : meth.sig.returnType = (some .int)) (hlk : meth.locks = false) (v1 : Int32)   (h : B_X4_placeOfStyle_0  Q mn sd v1) : GoX p l e rmX4_placeOfStyle s m args below meth c D A 3 0 0 (QP_X4_placeOfStyle D A ad cA tl tx mn sd e0 e1 e2 e3 e4 e5 e6 e7 e8 e9 e10 fr hd nw kp pt hr lr Q below args s) 0 [(0, .ref (ad 2)), (1, .int v1)] [] (WX ad cA tl tx mn sd e0 e1 e2 e3 e4 e5 e6 e7 e8 e9 e10 fr hd nw kp pt hr lr) := by
  replace h : (∃ n9 : Nat, L_X4_placeOfStyle_2  Q mn sd n9 v1 (0 : Int32)) := h
  refine g_iconst C (0 : Int32) dX4_placeOfStyle_0 (by decide) ?_
  refine g_istore_n C (lv2 := [(2, .int (0 : Int32)), (0, .ref (ad 2)), (1, .int v1)]) dX4_placeOfStyle_1 rfl (by decide) rfl ?_
  obtain ⟨n9, h⟩ := h
  exact g_sub [1, 2, 0] rfl (t_L_X4_placeOfStyle_2 C hrt9 hlk  n9 v1 (0 : Int32)  h)
theorem c_X4_placeOfStyle (l : Launch) (D : va_G) (A : Nat → Prop) (ad : Nat → Nat) (cA : Nat → ClassId) (v1 : Int32) {tl : Int32} {tx : (Nat → Int32)} {mn : Int32} {sd : (Nat → Int64)} {e0 : Int32} {e1 : Int32} {e2 : Int32} {e3 : Int32} {e4 : Int32} {e5 : Int32} {e6 : Int32} {e7 : Int32} {e8 : Int32} {e9 : Int32} {e10 : Int32} {fr : Int32} {hd : Int32} {nw : (Nat → Int32)} {kp : (Nat → Int32)} {pt : (Nat → Int32)} {hr : (Nat → Nat → Int32)} {lr : (Nat → Nat → Int32)}  (Q : Int32 → Prop) (h : F_X4_placeOfStyle v1 mn sd Q) : Met l yX4_placeOfStyle wsX4_placeOfStyle rmX4_placeOfStyle (va_Pc [.ref (ad 2), .int v1] (OKX D (tysX cA) (WX ad cA tl tx mn sd e0 e1 e2 e3 e4 e5 e6 e7 e8 e9 e10 fr hd nw kp pt hr lr) A)) (QC_X4_placeOfStyle D A ad cA tl tx mn sd e0 e1 e2 e3 e4 e5 e6 e7 e8 e9 e10 fr hd nw kp pt hr lr Q) 0 0 A :=
  g_met (own := RX4) (by decide) rfl rfl (Nat.le_of_ble_eq_true rfl) (fun p e s m below meth c C hrt9 hlk _ => g_sub [0, 1] rfl (t_B_X4_placeOfStyle_0 C hrt9 hlk v1   h))
theorem k_X4_placeOfStyle {ws : List Cond} {own : String} {cc : ByteArray} {nL pc index kc ks : Nat} {lv : List (Nat × Value)} {st : List Value} {Q : State → Prop} {R : Room} {K : Int32 → Prop} {v1 : Int32} (C : CxX p s m args c D (tysX cA) own cc nL ws) (hT : GoodIn ws (wsV own index RX4 yX4_placeOfStyle wsX4_placeOfStyle)) (hR : rmX4_placeOfStyle.frames + 1 ≤ R.frames ∧ 8 + (3 + 11) + rmX4_placeOfStyle.locals ≤ R.locals) (hk9 : kc ≤ R.cells ∧ ks ≤ R.slots) (hcat : (st.map fun v => v.category).sum ≤ 8) (hdg : decode cc pc = .ok (.invokevirtual index, 3))  (h : F_X4_placeOfStyle v1 mn sd K) (kk : ∀ (r : Int32) , K r → GoX p l e R s m args below meth c D A nL kc ks Q (pc + 3) lv (.int r :: st) (WX ad cA tl tx mn sd e0 e1 e2 e3 e4 e5 e6 e7 e8 e9 e10 fr hd nw kp pt hr lr)) : GoX p l e R s m args below meth c D A nL kc ks Q pc lv (.int v1 :: .ref (ad 2) :: st) (WX ad cA tl tx mn sd e0 e1 e2 e3 e4 e5 e6 e7 e8 e9 e10 fr hd nw kp pt hr lr) :=
  g_callVi C (As := [.int v1]) 1 (c_X4_placeOfStyle l D A ad cA v1  K h) hT rfl rfl rfl (by decide +kernel) hR hk9 2 WXg2 rfl rfl rfl hcat hdg (fun r u hu => kk r  hu)
/-! X4_unit -/
abbrev rmX4_unit : Room := { frames := 0, cells := 0, slots := 0, locals := 0 }
abbrev QC_X4_unit (D : va_G) (A : Nat → Prop) (ad : Nat → Nat) (cA : Nat → ClassId) (tl : Int32) (tx : (Nat → Int32)) (mn : Int32) (sd : (Nat → Int64)) (e0 : Int32) (e1 : Int32) (e2 : Int32) (e3 : Int32) (e4 : Int32) (e5 : Int32) (e6 : Int32) (e7 : Int32) (e8 : Int32) (e9 : Int32) (e10 : Int32) (fr : Int32) (hd : Int32) (nw : (Nat → Int32)) (kp : (Nat → Int32)) (pt : (Nat → Int32)) (hr : (Nat → Nat → Int32)) (lr : (Nat → Nat → Int32)) (Q : Int32 → Prop) : Array Value → State → Outcome → State → Prop := va_Qi (fun (r : Int32) (u : Unit) => Q r ) (fun u t => OKX D (tysX cA) ((fun u : Unit => WX ad cA tl tx mn sd e0 e1 e2 e3 e4 e5 e6 e7 e8 e9 e10 fr hd nw kp pt hr lr) u) A t) A
abbrev QP_X4_unit (D : va_G) (A : Nat → Prop) (ad : Nat → Nat) (cA : Nat → ClassId) (tl : Int32) (tx : (Nat → Int32)) (mn : Int32) (sd : (Nat → Int64)) (e0 : Int32) (e1 : Int32) (e2 : Int32) (e3 : Int32) (e4 : Int32) (e5 : Int32) (e6 : Int32) (e7 : Int32) (e8 : Int32) (e9 : Int32) (e10 : Int32) (fr : Int32) (hd : Int32) (nw : (Nat → Int32)) (kp : (Nat → Int32)) (pt : (Nat → Int32)) (hr : (Nat → Nat → Int32)) (lr : (Nat → Nat → Int32)) (Q : Int32 → Prop) (below : List Frame) (args : Array Value) (s : State) : State → Prop := MQ below (QC_X4_unit D A ad cA tl tx mn sd e0 e1 e2 e3 e4 e5 e6 e7 e8 e9 e10 fr hd nw kp pt hr lr Q) args s 0 0 A
def B_X4_unit_0  (Q : Int32 → Prop)  (v0 : Int32)  : Prop := (Q (((97 : Int32) + v0) - (1 : Int32)))
def F_X4_unit (v0 : Int32)   (Q : Int32 → Prop) : Prop := B_X4_unit_0 Q  v0 
set_option maxHeartbeats 4000000 in
set_option maxRecDepth 100000 in
theorem t_B_X4_unit_0  {Q : Int32 → Prop} (C : CxX p s m args c D (tysX cA) RX4 cX4_unit 1 wsX4_unit) (hrt9 : meth.sig.returnType = (some .int)) (hlk : meth.locks = false) (v0 : Int32)   (h : B_X4_unit_0  Q  v0) : GoX p l e rmX4_unit s m args below meth c D A 1 0 0 (QP_X4_unit D A ad cA tl tx mn sd e0 e1 e2 e3 e4 e5 e6 e7 e8 e9 e10 fr hd nw kp pt hr lr Q below args s) 0 [(0, .int v0)] [] (WX ad cA tl tx mn sd e0 e1 e2 e3 e4 e5 e6 e7 e8 e9 e10 fr hd nw kp pt hr lr) := by
  replace h : (Q (((97 : Int32) + v0) - (1 : Int32))) := h
  refine g_bipush C (97 : Int32) dX4_unit_0 (by decide) ?_
  refine g_iload_n C 0 dX4_unit_2 rfl rfl ?_
  refine g_iadd C dX4_unit_3 ?_
  refine g_iconst C (1 : Int32) dX4_unit_4 (by decide) ?_
  refine g_isub C dX4_unit_5 ?_
  exact g_iret C hrt9 hlk (u := ()) rfl h dX4_unit_6
theorem c_X4_unit (l : Launch) (D : va_G) (A : Nat → Prop) (ad : Nat → Nat) (cA : Nat → ClassId) (v0 : Int32) {tl : Int32} {tx : (Nat → Int32)} {mn : Int32} {sd : (Nat → Int64)} {e0 : Int32} {e1 : Int32} {e2 : Int32} {e3 : Int32} {e4 : Int32} {e5 : Int32} {e6 : Int32} {e7 : Int32} {e8 : Int32} {e9 : Int32} {e10 : Int32} {fr : Int32} {hd : Int32} {nw : (Nat → Int32)} {kp : (Nat → Int32)} {pt : (Nat → Int32)} {hr : (Nat → Nat → Int32)} {lr : (Nat → Nat → Int32)}  (Q : Int32 → Prop) (h : F_X4_unit v0 Q) : Met l yX4_unit wsX4_unit rmX4_unit (va_Pc [.int v0] (OKX D (tysX cA) (WX ad cA tl tx mn sd e0 e1 e2 e3 e4 e5 e6 e7 e8 e9 e10 fr hd nw kp pt hr lr) A)) (QC_X4_unit D A ad cA tl tx mn sd e0 e1 e2 e3 e4 e5 e6 e7 e8 e9 e10 fr hd nw kp pt hr lr Q) 0 0 A :=
  g_met (own := RX4) (by decide) rfl rfl (Nat.le_of_ble_eq_true rfl) (fun p e s m below meth c C hrt9 hlk _ => g_sub [0] rfl (t_B_X4_unit_0 C hrt9 hlk v0   h))
theorem k_X4_unit {ws : List Cond} {own : String} {cc : ByteArray} {nL pc index kc ks : Nat} {lv : List (Nat × Value)} {st : List Value} {Q : State → Prop} {R : Room} {K : Int32 → Prop} {v0 : Int32} (C : CxX p s m args c D (tysX cA) own cc nL ws) (hT : GoodIn ws (va_wsS own index yX4_unit wsX4_unit)) (hR : rmX4_unit.frames + 1 ≤ R.frames ∧ 8 + (1 + 11) + rmX4_unit.locals ≤ R.locals) (hk9 : kc ≤ R.cells ∧ ks ≤ R.slots) (hcat : (st.map fun v => v.category).sum ≤ 8) (hdg : decode cc pc = .ok (.invokestatic index, 3))  (h : F_X4_unit v0 K) (kk : ∀ (r : Int32) , K r → GoX p l e R s m args below meth c D A nL kc ks Q (pc + 3) lv (.int r :: st) (WX ad cA tl tx mn sd e0 e1 e2 e3 e4 e5 e6 e7 e8 e9 e10 fr hd nw kp pt hr lr)) : GoX p l e R s m args below meth c D A nL kc ks Q pc lv (.int v0 :: st) (WX ad cA tl tx mn sd e0 e1 e2 e3 e4 e5 e6 e7 e8 e9 e10 fr hd nw kp pt hr lr) :=
  g_callSi C (As := [.int v0]) 1 (c_X4_unit l D A ad cA v0  K h) hT rfl rfl rfl (by decide +kernel) hR hk9 rfl rfl hcat hdg (fun r u hu => kk r  hu)
/-! X4_counted -/
abbrev rmX4_counted : Room := { frames := 1, cells := 0, slots := 0, locals := 22 }
abbrev QC_X4_counted (D : va_G) (A : Nat → Prop) (ad : Nat → Nat) (cA : Nat → ClassId) (tl : Int32) (tx : (Nat → Int32)) (mn : Int32) (sd : (Nat → Int64)) (e0 : Int32) (e1 : Int32) (e2 : Int32) (e3 : Int32) (e4 : Int32) (e5 : Int32) (e6 : Int32) (e7 : Int32) (e8 : Int32) (e9 : Int32) (e10 : Int32) (fr : Int32) (hd : Int32) (nw : (Nat → Int32)) (kp : (Nat → Int32)) (pt : (Nat → Int32)) (hr : (Nat → Nat → Int32)) (lr : (Nat → Nat → Int32)) (Q : Int64 → Prop) : Array Value → State → Outcome → State → Prop := va_Ql (fun (r : Int64) (u : Unit) => Q r ) (fun u t => OKX D (tysX cA) ((fun u : Unit => WX ad cA tl tx mn sd e0 e1 e2 e3 e4 e5 e6 e7 e8 e9 e10 fr hd nw kp pt hr lr) u) A t) A
abbrev QP_X4_counted (D : va_G) (A : Nat → Prop) (ad : Nat → Nat) (cA : Nat → ClassId) (tl : Int32) (tx : (Nat → Int32)) (mn : Int32) (sd : (Nat → Int64)) (e0 : Int32) (e1 : Int32) (e2 : Int32) (e3 : Int32) (e4 : Int32) (e5 : Int32) (e6 : Int32) (e7 : Int32) (e8 : Int32) (e9 : Int32) (e10 : Int32) (fr : Int32) (hd : Int32) (nw : (Nat → Int32)) (kp : (Nat → Int32)) (pt : (Nat → Int32)) (hr : (Nat → Nat → Int32)) (lr : (Nat → Nat → Int32)) (Q : Int64 → Prop) (below : List Frame) (args : Array Value) (s : State) : State → Prop := MQ below (QC_X4_counted D A ad cA tl tx mn sd e0 e1 e2 e3 e4 e5 e6 e7 e8 e9 e10 fr hd nw kp pt hr lr Q) args s 0 0 A
def B_X4_counted_39  (Q : Int64 → Prop)  (v3 : Int32) (v4 : Int64)  : Prop := (F_X2_then v4 v3 (fun r_1 => (Q r_1)))
def B_X4_counted_19  (Q : Int64 → Prop)  (v2 : Int32) (v3 : Int32) (v4 : Int64)  : Prop := ((v2 ≤ (2 : Int32) → (B_X4_counted_39  Q  v3 v4)) ∧ (¬ v2 ≤ (2 : Int32) → (F_X4_unit ((v2 + (1 : Int32)) / (2 : Int32)) (fun r_3 => (F_X2_then v4 r_3 (fun r_4 => (B_X4_counted_39  Q  v3 r_4)))))))
def B_X4_counted_0  (Q : Int64 → Prop)  (v0 : Int64) (v2 : Int32) (v3 : Int32)  : Prop := (((v2 - v2 / (2 : Int32) * (2 : Int32)) = (1 : Int32) → (F_X2_then v0 (72 : Int32) (fun r_6 => (B_X4_counted_19  Q  v2 v3 r_6)))) ∧ (¬ (v2 - v2 / (2 : Int32) * (2 : Int32)) = (1 : Int32) → (B_X4_counted_19  Q  v2 v3 v0)))
def F_X4_counted (v0 : Int64) (v2 : Int32) (v3 : Int32)   (Q : Int64 → Prop) : Prop := B_X4_counted_0 Q  v0 v2 v3 
set_option maxHeartbeats 4000000 in
set_option maxRecDepth 100000 in
theorem t_B_X4_counted_39  {Q : Int64 → Prop} (C : CxX p s m args c D (tysX cA) RX4 cX4_counted 6 wsX4_counted) (hrt9 : meth.sig.returnType = (some .long)) (hlk : meth.locks = false) (v3 : Int32) (v4 : Int64)   (h : B_X4_counted_39  Q  v3 v4) : GoX p l e rmX4_counted s m args below meth c D A 6 0 0 (QP_X4_counted D A ad cA tl tx mn sd e0 e1 e2 e3 e4 e5 e6 e7 e8 e9 e10 fr hd nw kp pt hr lr Q below args s) 39 [(3, .int v3), (4, .long v4)] [] (WX ad cA tl tx mn sd e0 e1 e2 e3 e4 e5 e6 e7 e8 e9 e10 fr hd nw kp pt hr lr) := by
  replace h : (F_X2_then v4 v3 (fun r_1 => (Q r_1))) := h
  refine g_lload C 1 dX4_counted_39 rfl ?_
  refine g_iload_n C 0 dX4_counted_41 rfl rfl ?_
  refine k_X2_then C gX4_counted_X2_then ⟨Nat.le_of_ble_eq_true rfl, Nat.le_of_ble_eq_true rfl⟩ ⟨Nat.zero_le _, Nat.zero_le _⟩ (Nat.le_of_ble_eq_true rfl) dX4_counted_42  h (fun r_1 h => ?_)
  exact g_lret C hrt9 hlk (u := ()) rfl h dX4_counted_45
set_option maxHeartbeats 4000000 in
set_option maxRecDepth 100000 in
theorem t_B_X4_counted_19  {Q : Int64 → Prop} (C : CxX p s m args c D (tysX cA) RX4 cX4_counted 6 wsX4_counted) (hrt9 : meth.sig.returnType = (some .long)) (hlk : meth.locks = false) (v2 : Int32) (v3 : Int32) (v4 : Int64)   (h : B_X4_counted_19  Q  v2 v3 v4) : GoX p l e rmX4_counted s m args below meth c D A 6 0 0 (QP_X4_counted D A ad cA tl tx mn sd e0 e1 e2 e3 e4 e5 e6 e7 e8 e9 e10 fr hd nw kp pt hr lr Q below args s) 19 [(2, .int v2), (3, .int v3), (4, .long v4)] [] (WX ad cA tl tx mn sd e0 e1 e2 e3 e4 e5 e6 e7 e8 e9 e10 fr hd nw kp pt hr lr) := by
  replace h : ((v2 ≤ (2 : Int32) → (B_X4_counted_39  Q  v3 v4)) ∧ (¬ v2 ≤ (2 : Int32) → (F_X4_unit ((v2 + (1 : Int32)) / (2 : Int32)) (fun r_3 => (F_X2_then v4 r_3 (fun r_4 => (B_X4_counted_39  Q  v3 r_4))))))) := h
  refine g_iload_n C 0 dX4_counted_19 rfl rfl ?_
  refine g_iconst C (2 : Int32) dX4_counted_20 (by decide) ?_
  refine g_icmp_le C 39 dX4_counted_21 (by decide) (fun c_2 => ?_) (fun c_2 => ?_)
  · replace h := h.1 c_2
    exact g_sub [1, 2] rfl (t_B_X4_counted_39 C hrt9 hlk  v3 v4  h)
  · replace h := h.2 c_2
    refine g_lload C 2 dX4_counted_24 rfl ?_
    refine g_iload_n C 0 dX4_counted_26 rfl rfl ?_
    refine g_iconst C (1 : Int32) dX4_counted_27 (by decide) ?_
    refine g_iadd C dX4_counted_28 ?_
    refine g_iconst C (2 : Int32) dX4_counted_29 (by decide) ?_
    refine g_idiv C dX4_counted_30 (by decide) ?_
    refine k_X4_unit C gX4_counted_X4_unit ⟨Nat.le_of_ble_eq_true rfl, Nat.le_of_ble_eq_true rfl⟩ ⟨Nat.zero_le _, Nat.zero_le _⟩ (Nat.le_of_ble_eq_true rfl) dX4_counted_31  h (fun r_3 h => ?_)
    refine k_X2_then C gX4_counted_X2_then ⟨Nat.le_of_ble_eq_true rfl, Nat.le_of_ble_eq_true rfl⟩ ⟨Nat.zero_le _, Nat.zero_le _⟩ (Nat.le_of_ble_eq_true rfl) dX4_counted_34  h (fun r_4 h => ?_)
    refine g_lstore C (lv2 := [(4, .long r_4), (2, .int v2), (3, .int v3)]) dX4_counted_37 (by decide) rfl ?_
    exact g_sub [2, 0] rfl (t_B_X4_counted_39 C hrt9 hlk  v3 r_4  h)
set_option maxHeartbeats 4000000 in
set_option maxRecDepth 100000 in
theorem t_B_X4_counted_0  {Q : Int64 → Prop} (C : CxX p s m args c D (tysX cA) RX4 cX4_counted 6 wsX4_counted) (hrt9 : meth.sig.returnType = (some .long)) (hlk : meth.locks = false) (v0 : Int64) (v2 : Int32) (v3 : Int32)   (h : B_X4_counted_0  Q  v0 v2 v3) : GoX p l e rmX4_counted s m args below meth c D A 6 0 0 (QP_X4_counted D A ad cA tl tx mn sd e0 e1 e2 e3 e4 e5 e6 e7 e8 e9 e10 fr hd nw kp pt hr lr Q below args s) 0 [(0, .long v0), (2, .int v2), (3, .int v3)] [] (WX ad cA tl tx mn sd e0 e1 e2 e3 e4 e5 e6 e7 e8 e9 e10 fr hd nw kp pt hr lr) := by
  replace h : (((v2 - v2 / (2 : Int32) * (2 : Int32)) = (1 : Int32) → (F_X2_then v0 (72 : Int32) (fun r_6 => (B_X4_counted_19  Q  v2 v3 r_6)))) ∧ (¬ (v2 - v2 / (2 : Int32) * (2 : Int32)) = (1 : Int32) → (B_X4_counted_19  Q  v2 v3 v0))) := h
  refine g_lload_n C 0 dX4_counted_0 rfl rfl ?_
  refine g_lstore C (lv2 := [(4, .long v0), (0, .long v0), (2, .int v2), (3, .int v3)]) dX4_counted_1 (by decide) rfl ?_
  refine g_iload_n C 2 dX4_counted_3 rfl rfl ?_
  refine g_iconst C (2 : Int32) dX4_counted_4 (by decide) ?_
  refine g_irem C dX4_counted_5 (by decide) ?_
  refine g_iconst C (1 : Int32) dX4_counted_6 (by decide) ?_
  refine g_icmp_ne C 19 dX4_counted_7 (by decide) (fun c_5 => ?_) (fun c_5 => ?_)
  · replace h := h.2 c_5
    exact g_sub [2, 3, 0] rfl (t_B_X4_counted_19 C hrt9 hlk  v2 v3 v0  h)
  · replace h := h.1 c_5
    refine g_lload C 0 dX4_counted_10 rfl ?_
    refine g_bipush C (72 : Int32) dX4_counted_12 (by decide) ?_
    refine k_X2_then C gX4_counted_X2_then ⟨Nat.le_of_ble_eq_true rfl, Nat.le_of_ble_eq_true rfl⟩ ⟨Nat.zero_le _, Nat.zero_le _⟩ (Nat.le_of_ble_eq_true rfl) dX4_counted_14  h (fun r_6 h => ?_)
    refine g_lstore C (lv2 := [(4, .long r_6), (0, .long v0), (2, .int v2), (3, .int v3)]) dX4_counted_17 (by decide) rfl ?_
    exact g_sub [2, 3, 0] rfl (t_B_X4_counted_19 C hrt9 hlk  v2 v3 r_6  h)
theorem c_X4_counted (l : Launch) (D : va_G) (A : Nat → Prop) (ad : Nat → Nat) (cA : Nat → ClassId) (v0 : Int64) (v2 : Int32) (v3 : Int32) {tl : Int32} {tx : (Nat → Int32)} {mn : Int32} {sd : (Nat → Int64)} {e0 : Int32} {e1 : Int32} {e2 : Int32} {e3 : Int32} {e4 : Int32} {e5 : Int32} {e6 : Int32} {e7 : Int32} {e8 : Int32} {e9 : Int32} {e10 : Int32} {fr : Int32} {hd : Int32} {nw : (Nat → Int32)} {kp : (Nat → Int32)} {pt : (Nat → Int32)} {hr : (Nat → Nat → Int32)} {lr : (Nat → Nat → Int32)}  (Q : Int64 → Prop) (h : F_X4_counted v0 v2 v3 Q) : Met l yX4_counted wsX4_counted rmX4_counted (va_Pc [.long v0, .int v2, .int v3] (OKX D (tysX cA) (WX ad cA tl tx mn sd e0 e1 e2 e3 e4 e5 e6 e7 e8 e9 e10 fr hd nw kp pt hr lr) A)) (QC_X4_counted D A ad cA tl tx mn sd e0 e1 e2 e3 e4 e5 e6 e7 e8 e9 e10 fr hd nw kp pt hr lr Q) 0 0 A :=
  g_met (own := RX4) (by decide) rfl rfl (Nat.le_of_ble_eq_true rfl) (fun p e s m below meth c C hrt9 hlk _ => g_sub [0, 1, 2] rfl (t_B_X4_counted_0 C hrt9 hlk v0 v2 v3   h))
theorem k_X4_counted {ws : List Cond} {own : String} {cc : ByteArray} {nL pc index kc ks : Nat} {lv : List (Nat × Value)} {st : List Value} {Q : State → Prop} {R : Room} {K : Int64 → Prop} {v0 : Int64} {v2 : Int32} {v3 : Int32} (C : CxX p s m args c D (tysX cA) own cc nL ws) (hT : GoodIn ws (va_wsS own index yX4_counted wsX4_counted)) (hR : rmX4_counted.frames + 1 ≤ R.frames ∧ 8 + (6 + 11) + rmX4_counted.locals ≤ R.locals) (hk9 : kc ≤ R.cells ∧ ks ≤ R.slots) (hcat : (st.map fun v => v.category).sum ≤ 8) (hdg : decode cc pc = .ok (.invokestatic index, 3))  (h : F_X4_counted v0 v2 v3 K) (kk : ∀ (r : Int64) , K r → GoX p l e R s m args below meth c D A nL kc ks Q (pc + 3) lv (.long r :: st) (WX ad cA tl tx mn sd e0 e1 e2 e3 e4 e5 e6 e7 e8 e9 e10 fr hd nw kp pt hr lr)) : GoX p l e R s m args below meth c D A nL kc ks Q pc lv (.int v3 :: .int v2 :: .long v0 :: st) (WX ad cA tl tx mn sd e0 e1 e2 e3 e4 e5 e6 e7 e8 e9 e10 fr hd nw kp pt hr lr) :=
  g_callSl C (As := [.long v0, .int v2, .int v3]) 3 (c_X4_counted l D A ad cA v0 v2 v3  K h) hT rfl rfl rfl (by decide +kernel) hR hk9 rfl rfl hcat hdg (fun r u hu => kk r  hu)
/-! X4_add -/
abbrev rmX4_add : Room := { frames := 0, cells := 0, slots := 0, locals := 0 }
abbrev QC_X4_add (D : va_G) (A : Nat → Prop) (ad : Nat → Nat) (cA : Nat → ClassId) (tl : Int32) (tx : (Nat → Int32)) (e0 : Int32) (e1 : Int32) (e2 : Int32) (e3 : Int32) (e4 : Int32) (e5 : Int32) (e6 : Int32) (e7 : Int32) (e8 : Int32) (e9 : Int32) (e10 : Int32) (fr : Int32) (hd : Int32) (nw : (Nat → Int32)) (kp : (Nat → Int32)) (pt : (Nat → Int32)) (hr : (Nat → Nat → Int32)) (lr : (Nat → Nat → Int32)) (Q : Int32 → (Nat → Int64) → Prop) : Array Value → State → Outcome → State → Prop := va_Qv (fun u : Int32 × (Nat → Int64) => Q u.1 u.2) (fun u t => OKX D (tysX cA) ((fun u : Int32 × (Nat → Int64) => WX ad cA tl tx u.1 u.2 e0 e1 e2 e3 e4 e5 e6 e7 e8 e9 e10 fr hd nw kp pt hr lr) u) A t) A
abbrev QP_X4_add (D : va_G) (A : Nat → Prop) (ad : Nat → Nat) (cA : Nat → ClassId) (tl : Int32) (tx : (Nat → Int32)) (e0 : Int32) (e1 : Int32) (e2 : Int32) (e3 : Int32) (e4 : Int32) (e5 : Int32) (e6 : Int32) (e7 : Int32) (e8 : Int32) (e9 : Int32) (e10 : Int32) (fr : Int32) (hd : Int32) (nw : (Nat → Int32)) (kp : (Nat → Int32)) (pt : (Nat → Int32)) (hr : (Nat → Nat → Int32)) (lr : (Nat → Nat → Int32)) (Q : Int32 → (Nat → Int64) → Prop) (below : List Frame) (args : Array Value) (s : State) : State → Prop := MQ below (QC_X4_add D A ad cA tl tx e0 e1 e2 e3 e4 e5 e6 e7 e8 e9 e10 fr hd nw kp pt hr lr Q) args s 0 0 A
def B_X4_add_16  (Q : Int32 → (Nat → Int64) → Prop)   (mn : Int32) (sd : (Nat → Int64)) : Prop := (Q mn sd)
def B_X4_add_59  (Q : Int32 → (Nat → Int64) → Prop)  (v1 : Int64) (v3 : Int32) (mn : Int32) (sd : (Nat → Int64)) : Prop := (vp_in v3 16 ∧ (Q (mn + (1 : Int32)) (vp_updL sd v3.toNatClampNeg v1)))
noncomputable def L_X4_add_22  (Q : Int32 → (Nat → Int64) → Prop)  (n9 : Nat) : Int64 → Int32 → Int32 → (Nat → Int64) → Prop := Nat.rec (motive := fun _ => Int64 → Int32 → Int32 → (Nat → Int64) → Prop) (fun _ _ _ _ => False) (fun _ kh22 => fun v1 v3 mn sd => ((v3 ≤ 0 → (B_X4_add_59  Q  v1 v3 mn sd)) ∧ (¬ v3 ≤ 0 → (vp_in (v3 - (1 : Int32)) 16 ∧ (((lg_cmp (sd (v3 - (1 : Int32)).toNatClampNeg) v1) ≤ 0 → (B_X4_add_59  Q  v1 v3 mn sd)) ∧ (¬ (lg_cmp (sd (v3 - (1 : Int32)).toNatClampNeg) v1) ≤ 0 → (vp_in (v3 - (1 : Int32)) 16 ∧ (vp_in v3 16 ∧ (kh22 v1 (v3 + (-1 : Int32)) mn (vp_updL sd v3.toNatClampNeg (sd (v3 - (1 : Int32)).toNatClampNeg))))))))))) n9
def B_X4_add_0  (Q : Int32 → (Nat → Int64) → Prop)  (v1 : Int64) (mn : Int32) (sd : (Nat → Int64)) : Prop := ((mn < 0 → (B_X4_add_16  Q  mn sd)) ∧ (¬ mn < 0 → ((mn < (16 : Int32) → (∃ n9 : Nat, L_X4_add_22  Q  n9 v1 mn mn sd)) ∧ (¬ mn < (16 : Int32) → (B_X4_add_16  Q  mn sd)))))
def F_X4_add (v1 : Int64)  (mn : Int32) (sd : (Nat → Int64)) (Q : Int32 → (Nat → Int64) → Prop) : Prop := B_X4_add_0 Q  v1 mn sd
theorem lkX4_add_13 : Cond.fieldLink RX4 13 (TX4 1).1 (TX4 1).2.1 (TX4 1).2.2.1 ∈ wsX4_add := by decide +kernel
theorem lkX4_add_9 : Cond.fieldLink RX4 9 (TX4 0).1 (TX4 0).2.1 (TX4 0).2.2.1 ∈ wsX4_add := by decide +kernel
theorem inX4_add_4 : ∀ q ∈ u_ws RX4 TX4 2, q ∈ wsX4_add := by decide +kernel
set_option maxHeartbeats 4000000 in
set_option maxRecDepth 100000 in
theorem t_B_X4_add_16  {Q : Int32 → (Nat → Int64) → Prop} (C : CxX p s m args c D (tysX cA) RX4 cX4_add 4 wsX4_add) (hrt9 : meth.sig.returnType = none) (hlk : meth.locks = false)  (mn : Int32) (sd : (Nat → Int64))  (h : B_X4_add_16  Q  mn sd) : GoX p l e rmX4_add s m args below meth c D A 4 0 0 (QP_X4_add D A ad cA tl tx e0 e1 e2 e3 e4 e5 e6 e7 e8 e9 e10 fr hd nw kp pt hr lr Q below args s) 16 [] [] (WX ad cA tl tx mn sd e0 e1 e2 e3 e4 e5 e6 e7 e8 e9 e10 fr hd nw kp pt hr lr) := by
  replace h : (Q mn sd) := h
  exact g_vret C hrt9 hlk (u := (mn, sd)) rfl h dX4_add_16
set_option maxHeartbeats 4000000 in
set_option maxRecDepth 100000 in
theorem t_B_X4_add_59  {Q : Int32 → (Nat → Int64) → Prop} (C : CxX p s m args c D (tysX cA) RX4 cX4_add 4 wsX4_add) (hrt9 : meth.sig.returnType = none) (hlk : meth.locks = false) (v1 : Int64) (v3 : Int32) (mn : Int32) (sd : (Nat → Int64))  (h : B_X4_add_59  Q  v1 v3 mn sd) : GoX p l e rmX4_add s m args below meth c D A 4 0 0 (QP_X4_add D A ad cA tl tx e0 e1 e2 e3 e4 e5 e6 e7 e8 e9 e10 fr hd nw kp pt hr lr Q below args s) 59 [(0, .ref (ad 2)), (1, .long v1), (3, .int v3)] [] (WX ad cA tl tx mn sd e0 e1 e2 e3 e4 e5 e6 e7 e8 e9 e10 fr hd nw kp pt hr lr) := by
  replace h : (vp_in v3 16 ∧ (Q (mn + (1 : Int32)) (vp_updL sd v3.toNatClampNeg v1))) := h
  refine g_aload_n C 0 dX4_add_59 rfl rfl ?_
  refine g_get C inX4_add_4 2 WXg2 rfl 0 (by decide) lkX4_add_9 rfl dX4_add_60 ?_
  refine g_iload_n C 2 dX4_add_63 rfl rfl ?_
  refine g_lload_n C 1 dX4_add_64 rfl rfl ?_
  refine g_last C 3 2 WXg3 rfl h.1 WXs_sd dX4_add_65 ?_
  replace h := h.2
  refine g_aload_n C 0 dX4_add_66 rfl rfl ?_
  refine g_dup C dX4_add_67 rfl ?_
  refine g_get C inX4_add_4 2 WXg2 rfl 1 (by decide) lkX4_add_13 rfl dX4_add_68 ?_
  refine g_iconst C (1 : Int32) dX4_add_71 (by decide) ?_
  refine g_iadd C dX4_add_72 ?_
  refine g_put C inX4_add_4 tyX4 tyX4_ok nmX4 2 WXg2 rfl 1 (by decide) lkX4_add_13 rfl rfl rfl (Nat.le_of_ble_eq_true rfl) (WXs_mn) dX4_add_73 ?_
  exact g_vret C hrt9 hlk (u := ((mn + (1 : Int32)), (vp_updL sd v3.toNatClampNeg v1))) rfl h dX4_add_76
set_option maxHeartbeats 4000000 in
set_option maxRecDepth 100000 in
theorem t_L_X4_add_22  {Q : Int32 → (Nat → Int64) → Prop} (C : CxX p s m args c D (tysX cA) RX4 cX4_add 4 wsX4_add) (hrt9 : meth.sig.returnType = none) (hlk : meth.locks = false) (m9 : Nat) : ∀ (v1 : Int64) (v3 : Int32) (mn : Int32) (sd : (Nat → Int64)) , L_X4_add_22  Q  m9 v1 v3 mn sd → GoX p l e rmX4_add s m args below meth c D A 4 0 0 (QP_X4_add D A ad cA tl tx e0 e1 e2 e3 e4 e5 e6 e7 e8 e9 e10 fr hd nw kp pt hr lr Q below args s) 22 [(0, .ref (ad 2)), (1, .long v1), (3, .int v3)] [] (WX ad cA tl tx mn sd e0 e1 e2 e3 e4 e5 e6 e7 e8 e9 e10 fr hd nw kp pt hr lr) := by
  induction m9 with
  | zero =>
    intro v1 v3 mn sd h
    exact False.elim h
  | succ m9 Hk22 =>
    intro v1 v3 mn sd h
    replace h : ((v3 ≤ 0 → (B_X4_add_59  Q  v1 v3 mn sd)) ∧ (¬ v3 ≤ 0 → (vp_in (v3 - (1 : Int32)) 16 ∧ (((lg_cmp (sd (v3 - (1 : Int32)).toNatClampNeg) v1) ≤ 0 → (B_X4_add_59  Q  v1 v3 mn sd)) ∧ (¬ (lg_cmp (sd (v3 - (1 : Int32)).toNatClampNeg) v1) ≤ 0 → (vp_in (v3 - (1 : Int32)) 16 ∧ (vp_in v3 16 ∧ ((L_X4_add_22  Q  m9) v1 (v3 + (-1 : Int32)) mn (vp_updL sd v3.toNatClampNeg (sd (v3 - (1 : Int32)).toNatClampNeg)))))))))) := h
    refine g_iload_n C 2 dX4_add_22 rfl rfl ?_
    refine g_if_le C 59 dX4_add_23 (by decide) (fun c_1 => ?_) (fun c_1 => ?_)
    · replace h := h.1 c_1
      exact g_sub [0, 1, 2] rfl (t_B_X4_add_59 C hrt9 hlk  v1 v3 mn sd  h)
    · replace h := h.2 c_1
      refine g_aload_n C 0 dX4_add_26 rfl rfl ?_
      refine g_get C inX4_add_4 2 WXg2 rfl 0 (by decide) lkX4_add_9 rfl dX4_add_27 ?_
      refine g_iload_n C 2 dX4_add_30 rfl rfl ?_
      refine g_iconst C (1 : Int32) dX4_add_31 (by decide) ?_
      refine g_isub C dX4_add_32 ?_
      refine g_lald C 3 2 WXg3 rfl h.1 dX4_add_33 ?_
      replace h := h.2
      refine g_lload_n C 1 dX4_add_34 rfl rfl ?_
      refine g_lcmp C dX4_add_35 ?_
      refine g_if_le C 59 dX4_add_36 (by decide) (fun c_2 => ?_) (fun c_2 => ?_)
      · replace h := h.1 c_2
        exact g_sub [0, 1, 2] rfl (t_B_X4_add_59 C hrt9 hlk  v1 v3 mn sd  h)
      · replace h := h.2 c_2
        refine g_aload_n C 0 dX4_add_39 rfl rfl ?_
        refine g_get C inX4_add_4 2 WXg2 rfl 0 (by decide) lkX4_add_9 rfl dX4_add_40 ?_
        refine g_iload_n C 2 dX4_add_43 rfl rfl ?_
        refine g_aload_n C 0 dX4_add_44 rfl rfl ?_
        refine g_get C inX4_add_4 2 WXg2 rfl 0 (by decide) lkX4_add_9 rfl dX4_add_45 ?_
        refine g_iload_n C 2 dX4_add_48 rfl rfl ?_
        refine g_iconst C (1 : Int32) dX4_add_49 (by decide) ?_
        refine g_isub C dX4_add_50 ?_
        refine g_lald C 3 2 WXg3 rfl h.1 dX4_add_51 ?_
        replace h := h.2
        refine g_last C 3 2 WXg3 rfl h.1 WXs_sd dX4_add_52 ?_
        replace h := h.2
        refine g_iinc C (v := (v3 + (-1 : Int32))) (lv2 := [(3, .int (v3 + (-1 : Int32))), (0, .ref (ad 2)), (1, .long v1)]) 2 dX4_add_53 rfl rfl (by decide) rfl ?_
        refine g_goto C 22 dX4_add_56 (by decide) ?_
        exact g_sub [1, 2, 0] rfl (Hk22 v1 (v3 + (-1 : Int32)) mn (vp_updL sd v3.toNatClampNeg (sd (v3 - (1 : Int32)).toNatClampNeg))  h)
set_option maxHeartbeats 4000000 in
set_option maxRecDepth 100000 in
theorem t_B_X4_add_0  {Q : Int32 → (Nat → Int64) → Prop} (C : CxX p s m args c D (tysX cA) RX4 cX4_add 4 wsX4_add) (hrt9 : meth.sig.returnType = none) (hlk : meth.locks = false) (v1 : Int64) (mn : Int32) (sd : (Nat → Int64))  (h : B_X4_add_0  Q  v1 mn sd) : GoX p l e rmX4_add s m args below meth c D A 4 0 0 (QP_X4_add D A ad cA tl tx e0 e1 e2 e3 e4 e5 e6 e7 e8 e9 e10 fr hd nw kp pt hr lr Q below args s) 0 [(0, .ref (ad 2)), (1, .long v1)] [] (WX ad cA tl tx mn sd e0 e1 e2 e3 e4 e5 e6 e7 e8 e9 e10 fr hd nw kp pt hr lr) := by
  replace h : ((mn < 0 → (B_X4_add_16  Q  mn sd)) ∧ (¬ mn < 0 → ((mn < (16 : Int32) → (∃ n9 : Nat, L_X4_add_22  Q  n9 v1 mn mn sd)) ∧ (¬ mn < (16 : Int32) → (B_X4_add_16  Q  mn sd))))) := h
  refine g_aload_n C 0 dX4_add_0 rfl rfl ?_
  refine g_get C inX4_add_4 2 WXg2 rfl 1 (by decide) lkX4_add_13 rfl dX4_add_1 ?_
  refine g_if_lt C 16 dX4_add_4 (by decide) (fun c_3 => ?_) (fun c_3 => ?_)
  · replace h := h.1 c_3
    exact g_sub [] rfl (t_B_X4_add_16 C hrt9 hlk  mn sd  h)
  · replace h := h.2 c_3
    refine g_aload_n C 0 dX4_add_7 rfl rfl ?_
    refine g_get C inX4_add_4 2 WXg2 rfl 1 (by decide) lkX4_add_13 rfl dX4_add_8 ?_
    refine g_bipush C (16 : Int32) dX4_add_11 (by decide) ?_
    refine g_icmp_lt C 17 dX4_add_13 (by decide) (fun c_4 => ?_) (fun c_4 => ?_)
    · replace h := h.1 c_4
      refine g_aload_n C 0 dX4_add_17 rfl rfl ?_
      refine g_get C inX4_add_4 2 WXg2 rfl 1 (by decide) lkX4_add_13 rfl dX4_add_18 ?_
      refine g_istore_n C (lv2 := [(3, .int mn), (0, .ref (ad 2)), (1, .long v1)]) dX4_add_21 rfl (by decide) rfl ?_
      obtain ⟨n9, h⟩ := h
      exact g_sub [1, 2, 0] rfl (t_L_X4_add_22 C hrt9 hlk  n9 v1 mn mn sd  h)
    · replace h := h.2 c_4
      exact g_sub [] rfl (t_B_X4_add_16 C hrt9 hlk  mn sd  h)
theorem c_X4_add (l : Launch) (D : va_G) (A : Nat → Prop) (ad : Nat → Nat) (cA : Nat → ClassId) (v1 : Int64) {tl : Int32} {tx : (Nat → Int32)} {mn : Int32} {sd : (Nat → Int64)} {e0 : Int32} {e1 : Int32} {e2 : Int32} {e3 : Int32} {e4 : Int32} {e5 : Int32} {e6 : Int32} {e7 : Int32} {e8 : Int32} {e9 : Int32} {e10 : Int32} {fr : Int32} {hd : Int32} {nw : (Nat → Int32)} {kp : (Nat → Int32)} {pt : (Nat → Int32)} {hr : (Nat → Nat → Int32)} {lr : (Nat → Nat → Int32)}  (Q : Int32 → (Nat → Int64) → Prop) (h : F_X4_add v1 mn sd Q) : Met l yX4_add wsX4_add rmX4_add (va_Pc [.ref (ad 2), .long v1] (OKX D (tysX cA) (WX ad cA tl tx mn sd e0 e1 e2 e3 e4 e5 e6 e7 e8 e9 e10 fr hd nw kp pt hr lr) A)) (QC_X4_add D A ad cA tl tx e0 e1 e2 e3 e4 e5 e6 e7 e8 e9 e10 fr hd nw kp pt hr lr Q) 0 0 A :=
  g_met (own := RX4) (by decide) rfl rfl (Nat.le_of_ble_eq_true rfl) (fun p e s m below meth c C hrt9 hlk _ => g_sub [0, 1] rfl (t_B_X4_add_0 C hrt9 hlk v1 mn sd  h))
theorem k_X4_add {ws : List Cond} {own : String} {cc : ByteArray} {nL pc index kc ks : Nat} {lv : List (Nat × Value)} {st : List Value} {Q : State → Prop} {R : Room} {K : Int32 → (Nat → Int64) → Prop} {v1 : Int64} (C : CxX p s m args c D (tysX cA) own cc nL ws) (hT : GoodIn ws (wsV own index RX4 yX4_add wsX4_add)) (hR : rmX4_add.frames + 1 ≤ R.frames ∧ 8 + (4 + 11) + rmX4_add.locals ≤ R.locals) (hk9 : kc ≤ R.cells ∧ ks ≤ R.slots) (hcat : (st.map fun v => v.category).sum ≤ 8) (hdg : decode cc pc = .ok (.invokevirtual index, 3))  (h : F_X4_add v1 mn sd K) (kk : ∀ (mnq : Int32) (sdq : (Nat → Int64)), K mnq sdq → GoX p l e R s m args below meth c D A nL kc ks Q (pc + 3) lv (st) (WX ad cA tl tx mnq sdq e0 e1 e2 e3 e4 e5 e6 e7 e8 e9 e10 fr hd nw kp pt hr lr)) : GoX p l e R s m args below meth c D A nL kc ks Q pc lv (.long v1 :: .ref (ad 2) :: st) (WX ad cA tl tx mn sd e0 e1 e2 e3 e4 e5 e6 e7 e8 e9 e10 fr hd nw kp pt hr lr) :=
  g_callVv C (As := [.long v1]) 1 (c_X4_add l D A ad cA v1  K h) hT rfl rfl rfl (by decide +kernel) hR hk9 2 WXg2 rfl rfl rfl hcat hdg (fun u hu => kk u.1 u.2 hu)
/-! X4_addWithBase -/
abbrev rmX4_addWithBase : Room := { frames := 2, cells := 0, slots := 0, locals := 47 }
abbrev QC_X4_addWithBase (D : va_G) (A : Nat → Prop) (ad : Nat → Nat) (cA : Nat → ClassId) (tl : Int32) (tx : (Nat → Int32)) (e0 : Int32) (e1 : Int32) (e2 : Int32) (e3 : Int32) (e4 : Int32) (e5 : Int32) (e6 : Int32) (e7 : Int32) (e8 : Int32) (e9 : Int32) (e10 : Int32) (fr : Int32) (hd : Int32) (nw : (Nat → Int32)) (kp : (Nat → Int32)) (pt : (Nat → Int32)) (hr : (Nat → Nat → Int32)) (lr : (Nat → Nat → Int32)) (Q : Int32 → (Nat → Int64) → Prop) : Array Value → State → Outcome → State → Prop := va_Qv (fun u : Int32 × (Nat → Int64) => Q u.1 u.2) (fun u t => OKX D (tysX cA) ((fun u : Int32 × (Nat → Int64) => WX ad cA tl tx u.1 u.2 e0 e1 e2 e3 e4 e5 e6 e7 e8 e9 e10 fr hd nw kp pt hr lr) u) A t) A
abbrev QP_X4_addWithBase (D : va_G) (A : Nat → Prop) (ad : Nat → Nat) (cA : Nat → ClassId) (tl : Int32) (tx : (Nat → Int32)) (e0 : Int32) (e1 : Int32) (e2 : Int32) (e3 : Int32) (e4 : Int32) (e5 : Int32) (e6 : Int32) (e7 : Int32) (e8 : Int32) (e9 : Int32) (e10 : Int32) (fr : Int32) (hd : Int32) (nw : (Nat → Int32)) (kp : (Nat → Int32)) (pt : (Nat → Int32)) (hr : (Nat → Nat → Int32)) (lr : (Nat → Nat → Int32)) (Q : Int32 → (Nat → Int64) → Prop) (below : List Frame) (args : Array Value) (s : State) : State → Prop := MQ below (QC_X4_addWithBase D A ad cA tl tx e0 e1 e2 e3 e4 e5 e6 e7 e8 e9 e10 fr hd nw kp pt hr lr Q) args s 0 0 A
def B_X4_addWithBase_114  (Q : Int32 → (Nat → Int64) → Prop)   (mn : Int32) (sd : (Nat → Int64)) : Prop := (Q mn sd)
def B_X4_addWithBase_71  (Q : Int32 → (Nat → Int64) → Prop)  (v1 : Int64) (v4 : Int32) (v5 : Int32) (mn : Int32) (sd : (Nat → Int64)) : Prop := ((v4 < (-19 : Int32) → (B_X4_addWithBase_114  Q  mn sd)) ∧ (¬ v4 < (-19 : Int32) → (((-1 : Int32) < v4 → (B_X4_addWithBase_114  Q  mn sd)) ∧ (¬ (-1 : Int32) < v4 → (F_X4_unit (-v4) (fun r_3 => (F_X2_then v1 r_3 (fun r_4 => (F_X2_then r_4 (45 : Int32) (fun r_5 => (F_X4_counted r_5 v5 (83 : Int32) (fun r_6 => (F_X4_add r_6 mn sd (fun mn_7 sd_8 => (B_X4_addWithBase_114  Q  mn_7 sd_8)))))))))))))))
def B_X4_addWithBase_0  (Q : Int32 → (Nat → Int64) → Prop)  (v1 : Int64) (v3 : Int32) (v4 : Int32) (mn : Int32) (sd : (Nat → Int64)) : Prop := ((v4 = 0 → (F_X4_counted v1 (v3 / (10 : Int32)) (83 : Int32) (fun r_18 => (F_X4_add r_18 mn sd (fun mn_19 sd_20 => (B_X4_addWithBase_114  Q  mn_19 sd_20)))))) ∧ (¬ v4 = 0 → ((v4 < (1 : Int32) → (B_X4_addWithBase_71  Q  v1 v4 (v3 / (10 : Int32)) mn sd)) ∧ (¬ v4 < (1 : Int32) → (((19 : Int32) < v4 → (B_X4_addWithBase_71  Q  v1 v4 (v3 / (10 : Int32)) mn sd)) ∧ (¬ (19 : Int32) < v4 → (F_X4_counted v1 (v3 / (10 : Int32)) (83 : Int32) (fun r_12 => (F_X2_then r_12 (43 : Int32) (fun r_13 => (F_X4_unit v4 (fun r_14 => (F_X2_then r_13 r_14 (fun r_15 => (F_X4_add r_15 mn sd (fun mn_16 sd_17 => (B_X4_addWithBase_114  Q  mn_16 sd_17)))))))))))))))))
def F_X4_addWithBase (v1 : Int64) (v3 : Int32) (v4 : Int32)  (mn : Int32) (sd : (Nat → Int64)) (Q : Int32 → (Nat → Int64) → Prop) : Prop := B_X4_addWithBase_0 Q  v1 v3 v4 mn sd
set_option maxHeartbeats 4000000 in
set_option maxRecDepth 100000 in
theorem t_B_X4_addWithBase_114  {Q : Int32 → (Nat → Int64) → Prop} (C : CxX p s m args c D (tysX cA) RX4 cX4_addWithBase 8 wsX4_addWithBase) (hrt9 : meth.sig.returnType = none) (hlk : meth.locks = false)  (mn : Int32) (sd : (Nat → Int64))  (h : B_X4_addWithBase_114  Q  mn sd) : GoX p l e rmX4_addWithBase s m args below meth c D A 8 0 0 (QP_X4_addWithBase D A ad cA tl tx e0 e1 e2 e3 e4 e5 e6 e7 e8 e9 e10 fr hd nw kp pt hr lr Q below args s) 114 [] [] (WX ad cA tl tx mn sd e0 e1 e2 e3 e4 e5 e6 e7 e8 e9 e10 fr hd nw kp pt hr lr) := by
  replace h : (Q mn sd) := h
  exact g_vret C hrt9 hlk (u := (mn, sd)) rfl h dX4_addWithBase_114
set_option maxHeartbeats 4000000 in
set_option maxRecDepth 100000 in
theorem t_B_X4_addWithBase_71  {Q : Int32 → (Nat → Int64) → Prop} (C : CxX p s m args c D (tysX cA) RX4 cX4_addWithBase 8 wsX4_addWithBase) (hrt9 : meth.sig.returnType = none) (hlk : meth.locks = false) (v1 : Int64) (v4 : Int32) (v5 : Int32) (mn : Int32) (sd : (Nat → Int64))  (h : B_X4_addWithBase_71  Q  v1 v4 v5 mn sd) : GoX p l e rmX4_addWithBase s m args below meth c D A 8 0 0 (QP_X4_addWithBase D A ad cA tl tx e0 e1 e2 e3 e4 e5 e6 e7 e8 e9 e10 fr hd nw kp pt hr lr Q below args s) 71 [(0, .ref (ad 2)), (1, .long v1), (4, .int v4), (5, .int v5)] [] (WX ad cA tl tx mn sd e0 e1 e2 e3 e4 e5 e6 e7 e8 e9 e10 fr hd nw kp pt hr lr) := by
  replace h : ((v4 < (-19 : Int32) → (B_X4_addWithBase_114  Q  mn sd)) ∧ (¬ v4 < (-19 : Int32) → (((-1 : Int32) < v4 → (B_X4_addWithBase_114  Q  mn sd)) ∧ (¬ (-1 : Int32) < v4 → (F_X4_unit (-v4) (fun r_3 => (F_X2_then v1 r_3 (fun r_4 => (F_X2_then r_4 (45 : Int32) (fun r_5 => (F_X4_counted r_5 v5 (83 : Int32) (fun r_6 => (F_X4_add r_6 mn sd (fun mn_7 sd_8 => (B_X4_addWithBase_114  Q  mn_7 sd_8))))))))))))))) := h
  refine g_iload C 2 dX4_addWithBase_71 rfl ?_
  refine g_bipush C (-19 : Int32) dX4_addWithBase_73 (by decide) ?_
  refine g_icmp_lt C 114 dX4_addWithBase_75 (by decide) (fun c_1 => ?_) (fun c_1 => ?_)
  · replace h := h.1 c_1
    exact g_sub [] rfl (t_B_X4_addWithBase_114 C hrt9 hlk  mn sd  h)
  · replace h := h.2 c_1
    refine g_iload C 2 dX4_addWithBase_78 rfl ?_
    refine g_iconst C (-1 : Int32) dX4_addWithBase_80 (by decide) ?_
    refine g_icmp_gt C 114 dX4_addWithBase_81 (by decide) (fun c_2 => ?_) (fun c_2 => ?_)
    · replace h := h.1 c_2
      exact g_sub [] rfl (t_B_X4_addWithBase_114 C hrt9 hlk  mn sd  h)
    · replace h := h.2 c_2
      refine g_lload_n C 1 dX4_addWithBase_84 rfl rfl ?_
      refine g_iload C 2 dX4_addWithBase_85 rfl ?_
      refine g_ineg C dX4_addWithBase_87 ?_
      refine k_X4_unit C gX4_addWithBase_X4_unit ⟨Nat.le_of_ble_eq_true rfl, Nat.le_of_ble_eq_true rfl⟩ ⟨Nat.zero_le _, Nat.zero_le _⟩ (Nat.le_of_ble_eq_true rfl) dX4_addWithBase_88  h (fun r_3 h => ?_)
      refine k_X2_then C gX4_addWithBase_X2_then ⟨Nat.le_of_ble_eq_true rfl, Nat.le_of_ble_eq_true rfl⟩ ⟨Nat.zero_le _, Nat.zero_le _⟩ (Nat.le_of_ble_eq_true rfl) dX4_addWithBase_91  h (fun r_4 h => ?_)
      refine g_bipush C (45 : Int32) dX4_addWithBase_94 (by decide) ?_
      refine k_X2_then C gX4_addWithBase_X2_then ⟨Nat.le_of_ble_eq_true rfl, Nat.le_of_ble_eq_true rfl⟩ ⟨Nat.zero_le _, Nat.zero_le _⟩ (Nat.le_of_ble_eq_true rfl) dX4_addWithBase_96  h (fun r_5 h => ?_)
      refine g_lstore C (lv2 := [(6, .long r_5), (0, .ref (ad 2)), (1, .long v1), (4, .int v4), (5, .int v5)]) dX4_addWithBase_99 (by decide) rfl ?_
      refine g_aload_n C 1 dX4_addWithBase_101 rfl rfl ?_
      refine g_lload C 0 dX4_addWithBase_102 rfl ?_
      refine g_iload C 4 dX4_addWithBase_104 rfl ?_
      refine g_bipush C (83 : Int32) dX4_addWithBase_106 (by decide) ?_
      refine k_X4_counted C gX4_addWithBase_X4_counted ⟨Nat.le_of_ble_eq_true rfl, Nat.le_of_ble_eq_true rfl⟩ ⟨Nat.zero_le _, Nat.zero_le _⟩ (Nat.le_of_ble_eq_true rfl) dX4_addWithBase_108  h (fun r_6 h => ?_)
      refine k_X4_add C gX4_addWithBase_X4_add ⟨Nat.le_of_ble_eq_true rfl, Nat.le_of_ble_eq_true rfl⟩ ⟨Nat.zero_le _, Nat.zero_le _⟩ (Nat.le_of_ble_eq_true rfl) dX4_addWithBase_111  h (fun mn_7 sd_8 h => ?_)
      exact g_sub [] rfl (t_B_X4_addWithBase_114 C hrt9 hlk  mn_7 sd_8  h)
set_option maxHeartbeats 4000000 in
set_option maxRecDepth 100000 in
theorem t_B_X4_addWithBase_0  {Q : Int32 → (Nat → Int64) → Prop} (C : CxX p s m args c D (tysX cA) RX4 cX4_addWithBase 8 wsX4_addWithBase) (hrt9 : meth.sig.returnType = none) (hlk : meth.locks = false) (v1 : Int64) (v3 : Int32) (v4 : Int32) (mn : Int32) (sd : (Nat → Int64))  (h : B_X4_addWithBase_0  Q  v1 v3 v4 mn sd) : GoX p l e rmX4_addWithBase s m args below meth c D A 8 0 0 (QP_X4_addWithBase D A ad cA tl tx e0 e1 e2 e3 e4 e5 e6 e7 e8 e9 e10 fr hd nw kp pt hr lr Q below args s) 0 [(0, .ref (ad 2)), (1, .long v1), (3, .int v3), (4, .int v4)] [] (WX ad cA tl tx mn sd e0 e1 e2 e3 e4 e5 e6 e7 e8 e9 e10 fr hd nw kp pt hr lr) := by
  replace h : ((v4 = 0 → (F_X4_counted v1 (v3 / (10 : Int32)) (83 : Int32) (fun r_18 => (F_X4_add r_18 mn sd (fun mn_19 sd_20 => (B_X4_addWithBase_114  Q  mn_19 sd_20)))))) ∧ (¬ v4 = 0 → ((v4 < (1 : Int32) → (B_X4_addWithBase_71  Q  v1 v4 (v3 / (10 : Int32)) mn sd)) ∧ (¬ v4 < (1 : Int32) → (((19 : Int32) < v4 → (B_X4_addWithBase_71  Q  v1 v4 (v3 / (10 : Int32)) mn sd)) ∧ (¬ (19 : Int32) < v4 → (F_X4_counted v1 (v3 / (10 : Int32)) (83 : Int32) (fun r_12 => (F_X2_then r_12 (43 : Int32) (fun r_13 => (F_X4_unit v4 (fun r_14 => (F_X2_then r_13 r_14 (fun r_15 => (F_X4_add r_15 mn sd (fun mn_16 sd_17 => (B_X4_addWithBase_114  Q  mn_16 sd_17))))))))))))))))) := h
  refine g_iload_n C 2 dX4_addWithBase_0 rfl rfl ?_
  refine g_bipush C (10 : Int32) dX4_addWithBase_1 (by decide) ?_
  refine g_idiv C dX4_addWithBase_3 (by decide) ?_
  refine g_istore C (lv2 := [(5, .int (v3 / (10 : Int32))), (0, .ref (ad 2)), (1, .long v1), (3, .int v3), (4, .int v4)]) dX4_addWithBase_4 (by decide) rfl ?_
  refine g_iload C 4 dX4_addWithBase_6 rfl ?_
  refine g_if_ne C 26 dX4_addWithBase_8 (by decide) (fun c_9 => ?_) (fun c_9 => ?_)
  · replace h := h.2 c_9
    refine g_iload C 4 dX4_addWithBase_26 rfl ?_
    refine g_iconst C (1 : Int32) dX4_addWithBase_28 (by decide) ?_
    refine g_icmp_lt C 71 dX4_addWithBase_29 (by decide) (fun c_10 => ?_) (fun c_10 => ?_)
    · replace h := h.1 c_10
      exact g_sub [1, 2, 4, 0] rfl (t_B_X4_addWithBase_71 C hrt9 hlk  v1 v4 (v3 / (10 : Int32)) mn sd  h)
    · replace h := h.2 c_10
      refine g_iload C 4 dX4_addWithBase_32 rfl ?_
      refine g_bipush C (19 : Int32) dX4_addWithBase_34 (by decide) ?_
      refine g_icmp_gt C 71 dX4_addWithBase_36 (by decide) (fun c_11 => ?_) (fun c_11 => ?_)
      · replace h := h.1 c_11
        exact g_sub [1, 2, 4, 0] rfl (t_B_X4_addWithBase_71 C hrt9 hlk  v1 v4 (v3 / (10 : Int32)) mn sd  h)
      · replace h := h.2 c_11
        refine g_lload_n C 2 dX4_addWithBase_39 rfl rfl ?_
        refine g_iload C 0 dX4_addWithBase_40 rfl ?_
        refine g_bipush C (83 : Int32) dX4_addWithBase_42 (by decide) ?_
        refine k_X4_counted C gX4_addWithBase_X4_counted ⟨Nat.le_of_ble_eq_true rfl, Nat.le_of_ble_eq_true rfl⟩ ⟨Nat.zero_le _, Nat.zero_le _⟩ (Nat.le_of_ble_eq_true rfl) dX4_addWithBase_44  h (fun r_12 h => ?_)
        refine g_bipush C (43 : Int32) dX4_addWithBase_47 (by decide) ?_
        refine k_X2_then C gX4_addWithBase_X2_then ⟨Nat.le_of_ble_eq_true rfl, Nat.le_of_ble_eq_true rfl⟩ ⟨Nat.zero_le _, Nat.zero_le _⟩ (Nat.le_of_ble_eq_true rfl) dX4_addWithBase_49  h (fun r_13 h => ?_)
        refine g_lstore C (lv2 := [(6, .long r_13), (5, .int (v3 / (10 : Int32))), (0, .ref (ad 2)), (1, .long v1), (3, .int v3), (4, .int v4)]) dX4_addWithBase_52 (by decide) rfl ?_
        refine g_aload_n C 2 dX4_addWithBase_54 rfl rfl ?_
        refine g_lload C 0 dX4_addWithBase_55 rfl ?_
        refine g_iload C 5 dX4_addWithBase_57 rfl ?_
        refine k_X4_unit C gX4_addWithBase_X4_unit ⟨Nat.le_of_ble_eq_true rfl, Nat.le_of_ble_eq_true rfl⟩ ⟨Nat.zero_le _, Nat.zero_le _⟩ (Nat.le_of_ble_eq_true rfl) dX4_addWithBase_59  h (fun r_14 h => ?_)
        refine k_X2_then C gX4_addWithBase_X2_then ⟨Nat.le_of_ble_eq_true rfl, Nat.le_of_ble_eq_true rfl⟩ ⟨Nat.zero_le _, Nat.zero_le _⟩ (Nat.le_of_ble_eq_true rfl) dX4_addWithBase_62  h (fun r_15 h => ?_)
        refine k_X4_add C gX4_addWithBase_X4_add ⟨Nat.le_of_ble_eq_true rfl, Nat.le_of_ble_eq_true rfl⟩ ⟨Nat.zero_le _, Nat.zero_le _⟩ (Nat.le_of_ble_eq_true rfl) dX4_addWithBase_65  h (fun mn_16 sd_17 h => ?_)
        refine g_goto C 114 dX4_addWithBase_68 (by decide) ?_
        exact g_sub [] rfl (t_B_X4_addWithBase_114 C hrt9 hlk  mn_16 sd_17  h)
  · replace h := h.1 c_9
    refine g_aload_n C 1 dX4_addWithBase_11 rfl rfl ?_
    refine g_lload_n C 2 dX4_addWithBase_12 rfl rfl ?_
    refine g_iload C 0 dX4_addWithBase_13 rfl ?_
    refine g_bipush C (83 : Int32) dX4_addWithBase_15 (by decide) ?_
    refine k_X4_counted C gX4_addWithBase_X4_counted ⟨Nat.le_of_ble_eq_true rfl, Nat.le_of_ble_eq_true rfl⟩ ⟨Nat.zero_le _, Nat.zero_le _⟩ (Nat.le_of_ble_eq_true rfl) dX4_addWithBase_17  h (fun r_18 h => ?_)
    refine k_X4_add C gX4_addWithBase_X4_add ⟨Nat.le_of_ble_eq_true rfl, Nat.le_of_ble_eq_true rfl⟩ ⟨Nat.zero_le _, Nat.zero_le _⟩ (Nat.le_of_ble_eq_true rfl) dX4_addWithBase_20  h (fun mn_19 sd_20 h => ?_)
    refine g_goto C 114 dX4_addWithBase_23 (by decide) ?_
    exact g_sub [] rfl (t_B_X4_addWithBase_114 C hrt9 hlk  mn_19 sd_20  h)
theorem c_X4_addWithBase (l : Launch) (D : va_G) (A : Nat → Prop) (ad : Nat → Nat) (cA : Nat → ClassId) (v1 : Int64) (v3 : Int32) (v4 : Int32) {tl : Int32} {tx : (Nat → Int32)} {mn : Int32} {sd : (Nat → Int64)} {e0 : Int32} {e1 : Int32} {e2 : Int32} {e3 : Int32} {e4 : Int32} {e5 : Int32} {e6 : Int32} {e7 : Int32} {e8 : Int32} {e9 : Int32} {e10 : Int32} {fr : Int32} {hd : Int32} {nw : (Nat → Int32)} {kp : (Nat → Int32)} {pt : (Nat → Int32)} {hr : (Nat → Nat → Int32)} {lr : (Nat → Nat → Int32)}  (Q : Int32 → (Nat → Int64) → Prop) (h : F_X4_addWithBase v1 v3 v4 mn sd Q) : Met l yX4_addWithBase wsX4_addWithBase rmX4_addWithBase (va_Pc [.ref (ad 2), .long v1, .int v3, .int v4] (OKX D (tysX cA) (WX ad cA tl tx mn sd e0 e1 e2 e3 e4 e5 e6 e7 e8 e9 e10 fr hd nw kp pt hr lr) A)) (QC_X4_addWithBase D A ad cA tl tx e0 e1 e2 e3 e4 e5 e6 e7 e8 e9 e10 fr hd nw kp pt hr lr Q) 0 0 A :=
  g_met (own := RX4) (by decide) rfl rfl (Nat.le_of_ble_eq_true rfl) (fun p e s m below meth c C hrt9 hlk _ => g_sub [0, 1, 2, 3] rfl (t_B_X4_addWithBase_0 C hrt9 hlk v1 v3 v4 mn sd  h))
theorem k_X4_addWithBase {ws : List Cond} {own : String} {cc : ByteArray} {nL pc index kc ks : Nat} {lv : List (Nat × Value)} {st : List Value} {Q : State → Prop} {R : Room} {K : Int32 → (Nat → Int64) → Prop} {v1 : Int64} {v3 : Int32} {v4 : Int32} (C : CxX p s m args c D (tysX cA) own cc nL ws) (hT : GoodIn ws (wsV own index RX4 yX4_addWithBase wsX4_addWithBase)) (hR : rmX4_addWithBase.frames + 1 ≤ R.frames ∧ 8 + (8 + 11) + rmX4_addWithBase.locals ≤ R.locals) (hk9 : kc ≤ R.cells ∧ ks ≤ R.slots) (hcat : (st.map fun v => v.category).sum ≤ 8) (hdg : decode cc pc = .ok (.invokevirtual index, 3))  (h : F_X4_addWithBase v1 v3 v4 mn sd K) (kk : ∀ (mnq : Int32) (sdq : (Nat → Int64)), K mnq sdq → GoX p l e R s m args below meth c D A nL kc ks Q (pc + 3) lv (st) (WX ad cA tl tx mnq sdq e0 e1 e2 e3 e4 e5 e6 e7 e8 e9 e10 fr hd nw kp pt hr lr)) : GoX p l e R s m args below meth c D A nL kc ks Q pc lv (.int v4 :: .int v3 :: .long v1 :: .ref (ad 2) :: st) (WX ad cA tl tx mn sd e0 e1 e2 e3 e4 e5 e6 e7 e8 e9 e10 fr hd nw kp pt hr lr) :=
  g_callVv C (As := [.long v1, .int v3, .int v4]) 3 (c_X4_addWithBase l D A ad cA v1 v3 v4  K h) hT rfl rfl rfl (by decide +kernel) hR hk9 2 WXg2 rfl rfl rfl hcat hdg (fun u hu => kk u.1 u.2 hu)
/-! X4_addSmalls -/
abbrev rmX4_addSmalls : Room := { frames := 3, cells := 0, slots := 0, locals := 74 }
abbrev QC_X4_addSmalls (D : va_G) (A : Nat → Prop) (ad : Nat → Nat) (cA : Nat → ClassId) (tl : Int32) (tx : (Nat → Int32)) (e0 : Int32) (e1 : Int32) (e2 : Int32) (e3 : Int32) (e4 : Int32) (e5 : Int32) (e6 : Int32) (e7 : Int32) (e8 : Int32) (e9 : Int32) (e10 : Int32) (fr : Int32) (hd : Int32) (nw : (Nat → Int32)) (kp : (Nat → Int32)) (pt : (Nat → Int32)) (hr : (Nat → Nat → Int32)) (lr : (Nat → Nat → Int32)) (Q : Int32 → (Nat → Int64) → Prop) : Array Value → State → Outcome → State → Prop := va_Qv (fun u : Int32 × (Nat → Int64) => Q u.1 u.2) (fun u t => OKX D (tysX cA) ((fun u : Int32 × (Nat → Int64) => WX ad cA tl tx u.1 u.2 e0 e1 e2 e3 e4 e5 e6 e7 e8 e9 e10 fr hd nw kp pt hr lr) u) A t) A
abbrev QP_X4_addSmalls (D : va_G) (A : Nat → Prop) (ad : Nat → Nat) (cA : Nat → ClassId) (tl : Int32) (tx : (Nat → Int32)) (e0 : Int32) (e1 : Int32) (e2 : Int32) (e3 : Int32) (e4 : Int32) (e5 : Int32) (e6 : Int32) (e7 : Int32) (e8 : Int32) (e9 : Int32) (e10 : Int32) (fr : Int32) (hd : Int32) (nw : (Nat → Int32)) (kp : (Nat → Int32)) (pt : (Nat → Int32)) (hr : (Nat → Nat → Int32)) (lr : (Nat → Nat → Int32)) (Q : Int32 → (Nat → Int64) → Prop) (below : List Frame) (args : Array Value) (s : State) : State → Prop := MQ below (QC_X4_addSmalls D A ad cA tl tx e0 e1 e2 e3 e4 e5 e6 e7 e8 e9 e10 fr hd nw kp pt hr lr Q) args s 0 0 A
def B_X4_addSmalls_12  (Q : Int32 → (Nat → Int64) → Prop)   (mn : Int32) (sd : (Nat → Int64)) : Prop := (Q mn sd)
noncomputable def L_X4_addSmalls_64  (Q : Int32 → (Nat → Int64) → Prop)  (n9 : Nat) : Int64 → Int32 → Int32 → Int32 → Int32 → (Nat → Int64) → Prop := Nat.rec (motive := fun _ => Int64 → Int32 → Int32 → Int32 → Int32 → (Nat → Int64) → Prop) (fun _ _ _ _ _ _ => False) (fun _ kh64 => fun v1 v3 v5 v6 mn sd => ((v5 < v6 → (Q mn sd)) ∧ (¬ v5 < v6 → (F_X4_addWithBase v1 v6 (v3 - v6) mn sd (fun mn_2 sd_3 => (kh64 v1 v3 v5 (v6 + (10 : Int32)) mn_2 sd_3)))))) n9
def B_X4_addSmalls_31  (Q : Int32 → (Nat → Int64) → Prop)  (v1 : Int64) (v3 : Int32) (mn : Int32) (sd : (Nat → Int64)) : Prop := (∃ n9 : Nat, L_X4_addSmalls_64  Q  n9 v1 v3 (if (v3 + (19 : Int32)) < (380 : Int32) then (v3 + (19 : Int32)) else (380 : Int32)) (if (20 : Int32) < (((v3 - (10 : Int32)) / (10 : Int32)) * (10 : Int32)) then (((v3 - (10 : Int32)) / (10 : Int32)) * (10 : Int32)) else (20 : Int32)) mn sd)
def B_X4_addSmalls_0  (Q : Int32 → (Nat → Int64) → Prop)  (v1 : Int64) (v3 : Int32) (mn : Int32) (sd : (Nat → Int64)) : Prop := ((v3 < (1 : Int32) → (B_X4_addSmalls_12  Q  mn sd)) ∧ (¬ v3 < (1 : Int32) → ((v3 ≤ (399 : Int32) → (((19 : Int32) < v3 → (B_X4_addSmalls_31  Q  v1 v3 mn sd)) ∧ (¬ (19 : Int32) < v3 → (F_X4_unit v3 (fun r_7 => (F_X2_then v1 r_7 (fun r_8 => (F_X4_add r_8 mn sd (fun mn_9 sd_10 => (B_X4_addSmalls_31  Q  v1 v3 mn_9 sd_10)))))))))) ∧ (¬ v3 ≤ (399 : Int32) → (B_X4_addSmalls_12  Q  mn sd)))))
def F_X4_addSmalls (v1 : Int64) (v3 : Int32)  (mn : Int32) (sd : (Nat → Int64)) (Q : Int32 → (Nat → Int64) → Prop) : Prop := B_X4_addSmalls_0 Q  v1 v3 mn sd
set_option maxHeartbeats 4000000 in
set_option maxRecDepth 100000 in
theorem t_B_X4_addSmalls_12  {Q : Int32 → (Nat → Int64) → Prop} (C : CxX p s m args c D (tysX cA) RX4 cX4_addSmalls 7 wsX4_addSmalls) (hrt9 : meth.sig.returnType = none) (hlk : meth.locks = false)  (mn : Int32) (sd : (Nat → Int64))  (h : B_X4_addSmalls_12  Q  mn sd) : GoX p l e rmX4_addSmalls s m args below meth c D A 7 0 0 (QP_X4_addSmalls D A ad cA tl tx e0 e1 e2 e3 e4 e5 e6 e7 e8 e9 e10 fr hd nw kp pt hr lr Q below args s) 12 [] [] (WX ad cA tl tx mn sd e0 e1 e2 e3 e4 e5 e6 e7 e8 e9 e10 fr hd nw kp pt hr lr) := by
  replace h : (Q mn sd) := h
  exact g_vret C hrt9 hlk (u := (mn, sd)) rfl h dX4_addSmalls_12
set_option maxHeartbeats 4000000 in
set_option maxRecDepth 100000 in
theorem t_L_X4_addSmalls_64  {Q : Int32 → (Nat → Int64) → Prop} (C : CxX p s m args c D (tysX cA) RX4 cX4_addSmalls 7 wsX4_addSmalls) (hrt9 : meth.sig.returnType = none) (hlk : meth.locks = false) (m9 : Nat) : ∀ (v1 : Int64) (v3 : Int32) (v5 : Int32) (v6 : Int32) (mn : Int32) (sd : (Nat → Int64)) , L_X4_addSmalls_64  Q  m9 v1 v3 v5 v6 mn sd → GoX p l e rmX4_addSmalls s m args below meth c D A 7 0 0 (QP_X4_addSmalls D A ad cA tl tx e0 e1 e2 e3 e4 e5 e6 e7 e8 e9 e10 fr hd nw kp pt hr lr Q below args s) 64 [(0, .ref (ad 2)), (1, .long v1), (3, .int v3), (5, .int v5), (6, .int v6)] [] (WX ad cA tl tx mn sd e0 e1 e2 e3 e4 e5 e6 e7 e8 e9 e10 fr hd nw kp pt hr lr) := by
  induction m9 with
  | zero =>
    intro v1 v3 v5 v6 mn sd h
    exact False.elim h
  | succ m9 Hk64 =>
    intro v1 v3 v5 v6 mn sd h
    replace h : ((v5 < v6 → (Q mn sd)) ∧ (¬ v5 < v6 → (F_X4_addWithBase v1 v6 (v3 - v6) mn sd (fun mn_2 sd_3 => ((L_X4_addSmalls_64  Q  m9) v1 v3 v5 (v6 + (10 : Int32)) mn_2 sd_3))))) := h
    refine g_iload C 4 dX4_addSmalls_64 rfl ?_
    refine g_iload C 3 dX4_addSmalls_66 rfl ?_
    refine g_icmp_gt C 88 dX4_addSmalls_68 (by decide) (fun c_1 => ?_) (fun c_1 => ?_)
    · replace h := h.1 c_1
      exact g_vret C hrt9 hlk (u := (mn, sd)) rfl h dX4_addSmalls_88
    · replace h := h.2 c_1
      refine g_aload_n C 0 dX4_addSmalls_71 rfl rfl ?_
      refine g_lload_n C 1 dX4_addSmalls_72 rfl rfl ?_
      refine g_iload C 4 dX4_addSmalls_73 rfl ?_
      refine g_iload_n C 2 dX4_addSmalls_75 rfl rfl ?_
      refine g_iload C 4 dX4_addSmalls_76 rfl ?_
      refine g_isub C dX4_addSmalls_78 ?_
      refine k_X4_addWithBase C gX4_addSmalls_X4_addWithBase ⟨Nat.le_of_ble_eq_true rfl, Nat.le_of_ble_eq_true rfl⟩ ⟨Nat.zero_le _, Nat.zero_le _⟩ (Nat.le_of_ble_eq_true rfl) dX4_addSmalls_79  h (fun mn_2 sd_3 h => ?_)
      refine g_iinc C (v := (v6 + (10 : Int32))) (lv2 := [(6, .int (v6 + (10 : Int32))), (0, .ref (ad 2)), (1, .long v1), (3, .int v3), (5, .int v5)]) 4 dX4_addSmalls_82 rfl rfl (by decide) rfl ?_
      refine g_goto C 64 dX4_addSmalls_85 (by decide) ?_
      exact g_sub [1, 2, 3, 4, 0] rfl (Hk64 v1 v3 v5 (v6 + (10 : Int32)) mn_2 sd_3  h)
set_option maxHeartbeats 4000000 in
set_option maxRecDepth 100000 in
theorem t_B_X4_addSmalls_31  {Q : Int32 → (Nat → Int64) → Prop} (C : CxX p s m args c D (tysX cA) RX4 cX4_addSmalls 7 wsX4_addSmalls) (hrt9 : meth.sig.returnType = none) (hlk : meth.locks = false) (v1 : Int64) (v3 : Int32) (mn : Int32) (sd : (Nat → Int64))  (h : B_X4_addSmalls_31  Q  v1 v3 mn sd) : GoX p l e rmX4_addSmalls s m args below meth c D A 7 0 0 (QP_X4_addSmalls D A ad cA tl tx e0 e1 e2 e3 e4 e5 e6 e7 e8 e9 e10 fr hd nw kp pt hr lr Q below args s) 31 [(0, .ref (ad 2)), (1, .long v1), (3, .int v3)] [] (WX ad cA tl tx mn sd e0 e1 e2 e3 e4 e5 e6 e7 e8 e9 e10 fr hd nw kp pt hr lr) := by
  replace h : (∃ n9 : Nat, L_X4_addSmalls_64  Q  n9 v1 v3 (if (v3 + (19 : Int32)) < (380 : Int32) then (v3 + (19 : Int32)) else (380 : Int32)) (if (20 : Int32) < (((v3 - (10 : Int32)) / (10 : Int32)) * (10 : Int32)) then (((v3 - (10 : Int32)) / (10 : Int32)) * (10 : Int32)) else (20 : Int32)) mn sd) := h
  refine g_bipush C (20 : Int32) dX4_addSmalls_31 (by decide) ?_
  refine g_iload_n C 2 dX4_addSmalls_33 rfl rfl ?_
  refine g_bipush C (10 : Int32) dX4_addSmalls_34 (by decide) ?_
  refine g_isub C dX4_addSmalls_36 ?_
  refine g_bipush C (10 : Int32) dX4_addSmalls_37 (by decide) ?_
  refine g_idiv C dX4_addSmalls_39 (by decide) ?_
  refine g_bipush C (10 : Int32) dX4_addSmalls_40 (by decide) ?_
  refine g_imul C dX4_addSmalls_42 ?_
  refine g_mmax C (by decide +kernel) (by decide +kernel) (by decide +kernel) (by decide +kernel) (Nat.le_of_ble_eq_true rfl) (Nat.le_of_ble_eq_true rfl) (Nat.zero_le _) (Nat.zero_le _) dX4_addSmalls_43 ?_
  refine g_istore C (lv2 := [(4, .int (if (20 : Int32) < (((v3 - (10 : Int32)) / (10 : Int32)) * (10 : Int32)) then (((v3 - (10 : Int32)) / (10 : Int32)) * (10 : Int32)) else (20 : Int32))), (0, .ref (ad 2)), (1, .long v1), (3, .int v3)]) dX4_addSmalls_46 (by decide) rfl ?_
  refine g_sipush C (380 : Int32) dX4_addSmalls_48 (by decide) ?_
  refine g_iload_n C 3 dX4_addSmalls_51 rfl rfl ?_
  refine g_bipush C (19 : Int32) dX4_addSmalls_52 (by decide) ?_
  refine g_iadd C dX4_addSmalls_54 ?_
  refine g_mmin C (by decide +kernel) (by decide +kernel) (by decide +kernel) (by decide +kernel) (Nat.le_of_ble_eq_true rfl) (Nat.le_of_ble_eq_true rfl) (Nat.zero_le _) (Nat.zero_le _) dX4_addSmalls_55 ?_
  refine g_istore C (lv2 := [(5, .int (if (v3 + (19 : Int32)) < (380 : Int32) then (v3 + (19 : Int32)) else (380 : Int32))), (4, .int (if (20 : Int32) < (((v3 - (10 : Int32)) / (10 : Int32)) * (10 : Int32)) then (((v3 - (10 : Int32)) / (10 : Int32)) * (10 : Int32)) else (20 : Int32))), (0, .ref (ad 2)), (1, .long v1), (3, .int v3)]) dX4_addSmalls_58 (by decide) rfl ?_
  refine g_iload C 1 dX4_addSmalls_60 rfl ?_
  refine g_istore C (lv2 := [(6, .int (if (20 : Int32) < (((v3 - (10 : Int32)) / (10 : Int32)) * (10 : Int32)) then (((v3 - (10 : Int32)) / (10 : Int32)) * (10 : Int32)) else (20 : Int32))), (5, .int (if (v3 + (19 : Int32)) < (380 : Int32) then (v3 + (19 : Int32)) else (380 : Int32))), (4, .int (if (20 : Int32) < (((v3 - (10 : Int32)) / (10 : Int32)) * (10 : Int32)) then (((v3 - (10 : Int32)) / (10 : Int32)) * (10 : Int32)) else (20 : Int32))), (0, .ref (ad 2)), (1, .long v1), (3, .int v3)]) dX4_addSmalls_62 (by decide) rfl ?_
  obtain ⟨n9, h⟩ := h
  exact g_sub [3, 4, 5, 1, 0] rfl (t_L_X4_addSmalls_64 C hrt9 hlk  n9 v1 v3 (if (v3 + (19 : Int32)) < (380 : Int32) then (v3 + (19 : Int32)) else (380 : Int32)) (if (20 : Int32) < (((v3 - (10 : Int32)) / (10 : Int32)) * (10 : Int32)) then (((v3 - (10 : Int32)) / (10 : Int32)) * (10 : Int32)) else (20 : Int32)) mn sd  h)
set_option maxHeartbeats 4000000 in
set_option maxRecDepth 100000 in
theorem t_B_X4_addSmalls_0  {Q : Int32 → (Nat → Int64) → Prop} (C : CxX p s m args c D (tysX cA) RX4 cX4_addSmalls 7 wsX4_addSmalls) (hrt9 : meth.sig.returnType = none) (hlk : meth.locks = false) (v1 : Int64) (v3 : Int32) (mn : Int32) (sd : (Nat → Int64))  (h : B_X4_addSmalls_0  Q  v1 v3 mn sd) : GoX p l e rmX4_addSmalls s m args below meth c D A 7 0 0 (QP_X4_addSmalls D A ad cA tl tx e0 e1 e2 e3 e4 e5 e6 e7 e8 e9 e10 fr hd nw kp pt hr lr Q below args s) 0 [(0, .ref (ad 2)), (1, .long v1), (3, .int v3)] [] (WX ad cA tl tx mn sd e0 e1 e2 e3 e4 e5 e6 e7 e8 e9 e10 fr hd nw kp pt hr lr) := by
  replace h : ((v3 < (1 : Int32) → (B_X4_addSmalls_12  Q  mn sd)) ∧ (¬ v3 < (1 : Int32) → ((v3 ≤ (399 : Int32) → (((19 : Int32) < v3 → (B_X4_addSmalls_31  Q  v1 v3 mn sd)) ∧ (¬ (19 : Int32) < v3 → (F_X4_unit v3 (fun r_7 => (F_X2_then v1 r_7 (fun r_8 => (F_X4_add r_8 mn sd (fun mn_9 sd_10 => (B_X4_addSmalls_31  Q  v1 v3 mn_9 sd_10)))))))))) ∧ (¬ v3 ≤ (399 : Int32) → (B_X4_addSmalls_12  Q  mn sd))))) := h
  refine g_iload_n C 2 dX4_addSmalls_0 rfl rfl ?_
  refine g_iconst C (1 : Int32) dX4_addSmalls_1 (by decide) ?_
  refine g_icmp_lt C 12 dX4_addSmalls_2 (by decide) (fun c_4 => ?_) (fun c_4 => ?_)
  · replace h := h.1 c_4
    exact g_sub [] rfl (t_B_X4_addSmalls_12 C hrt9 hlk  mn sd  h)
  · replace h := h.2 c_4
    refine g_iload_n C 2 dX4_addSmalls_5 rfl rfl ?_
    refine g_sipush C (399 : Int32) dX4_addSmalls_6 (by decide) ?_
    refine g_icmp_le C 13 dX4_addSmalls_9 (by decide) (fun c_5 => ?_) (fun c_5 => ?_)
    · replace h := h.1 c_5
      refine g_iload_n C 2 dX4_addSmalls_13 rfl rfl ?_
      refine g_bipush C (19 : Int32) dX4_addSmalls_14 (by decide) ?_
      refine g_icmp_gt C 31 dX4_addSmalls_16 (by decide) (fun c_6 => ?_) (fun c_6 => ?_)
      · replace h := h.1 c_6
        exact g_sub [0, 1, 2] rfl (t_B_X4_addSmalls_31 C hrt9 hlk  v1 v3 mn sd  h)
      · replace h := h.2 c_6
        refine g_aload_n C 0 dX4_addSmalls_19 rfl rfl ?_
        refine g_lload_n C 1 dX4_addSmalls_20 rfl rfl ?_
        refine g_iload_n C 2 dX4_addSmalls_21 rfl rfl ?_
        refine k_X4_unit C gX4_addSmalls_X4_unit ⟨Nat.le_of_ble_eq_true rfl, Nat.le_of_ble_eq_true rfl⟩ ⟨Nat.zero_le _, Nat.zero_le _⟩ (Nat.le_of_ble_eq_true rfl) dX4_addSmalls_22  h (fun r_7 h => ?_)
        refine k_X2_then C gX4_addSmalls_X2_then ⟨Nat.le_of_ble_eq_true rfl, Nat.le_of_ble_eq_true rfl⟩ ⟨Nat.zero_le _, Nat.zero_le _⟩ (Nat.le_of_ble_eq_true rfl) dX4_addSmalls_25  h (fun r_8 h => ?_)
        refine k_X4_add C gX4_addSmalls_X4_add ⟨Nat.le_of_ble_eq_true rfl, Nat.le_of_ble_eq_true rfl⟩ ⟨Nat.zero_le _, Nat.zero_le _⟩ (Nat.le_of_ble_eq_true rfl) dX4_addSmalls_28  h (fun mn_9 sd_10 h => ?_)
        exact g_sub [0, 1, 2] rfl (t_B_X4_addSmalls_31 C hrt9 hlk  v1 v3 mn_9 sd_10  h)
    · replace h := h.2 c_5
      exact g_sub [] rfl (t_B_X4_addSmalls_12 C hrt9 hlk  mn sd  h)
theorem c_X4_addSmalls (l : Launch) (D : va_G) (A : Nat → Prop) (ad : Nat → Nat) (cA : Nat → ClassId) (v1 : Int64) (v3 : Int32) {tl : Int32} {tx : (Nat → Int32)} {mn : Int32} {sd : (Nat → Int64)} {e0 : Int32} {e1 : Int32} {e2 : Int32} {e3 : Int32} {e4 : Int32} {e5 : Int32} {e6 : Int32} {e7 : Int32} {e8 : Int32} {e9 : Int32} {e10 : Int32} {fr : Int32} {hd : Int32} {nw : (Nat → Int32)} {kp : (Nat → Int32)} {pt : (Nat → Int32)} {hr : (Nat → Nat → Int32)} {lr : (Nat → Nat → Int32)}  (Q : Int32 → (Nat → Int64) → Prop) (h : F_X4_addSmalls v1 v3 mn sd Q) : Met l yX4_addSmalls wsX4_addSmalls rmX4_addSmalls (va_Pc [.ref (ad 2), .long v1, .int v3] (OKX D (tysX cA) (WX ad cA tl tx mn sd e0 e1 e2 e3 e4 e5 e6 e7 e8 e9 e10 fr hd nw kp pt hr lr) A)) (QC_X4_addSmalls D A ad cA tl tx e0 e1 e2 e3 e4 e5 e6 e7 e8 e9 e10 fr hd nw kp pt hr lr Q) 0 0 A :=
  g_met (own := RX4) (by decide) rfl rfl (Nat.le_of_ble_eq_true rfl) (fun p e s m below meth c C hrt9 hlk _ => g_sub [0, 1, 2] rfl (t_B_X4_addSmalls_0 C hrt9 hlk v1 v3 mn sd  h))
theorem k_X4_addSmalls {ws : List Cond} {own : String} {cc : ByteArray} {nL pc index kc ks : Nat} {lv : List (Nat × Value)} {st : List Value} {Q : State → Prop} {R : Room} {K : Int32 → (Nat → Int64) → Prop} {v1 : Int64} {v3 : Int32} (C : CxX p s m args c D (tysX cA) own cc nL ws) (hT : GoodIn ws (wsV own index RX4 yX4_addSmalls wsX4_addSmalls)) (hR : rmX4_addSmalls.frames + 1 ≤ R.frames ∧ 8 + (7 + 11) + rmX4_addSmalls.locals ≤ R.locals) (hk9 : kc ≤ R.cells ∧ ks ≤ R.slots) (hcat : (st.map fun v => v.category).sum ≤ 8) (hdg : decode cc pc = .ok (.invokevirtual index, 3))  (h : F_X4_addSmalls v1 v3 mn sd K) (kk : ∀ (mnq : Int32) (sdq : (Nat → Int64)), K mnq sdq → GoX p l e R s m args below meth c D A nL kc ks Q (pc + 3) lv (st) (WX ad cA tl tx mnq sdq e0 e1 e2 e3 e4 e5 e6 e7 e8 e9 e10 fr hd nw kp pt hr lr)) : GoX p l e R s m args below meth c D A nL kc ks Q pc lv (.int v3 :: .long v1 :: .ref (ad 2) :: st) (WX ad cA tl tx mn sd e0 e1 e2 e3 e4 e5 e6 e7 e8 e9 e10 fr hd nw kp pt hr lr) :=
  g_callVv C (As := [.long v1, .int v3]) 2 (c_X4_addSmalls l D A ad cA v1 v3  K h) hT rfl rfl rfl (by decide +kernel) hR hk9 2 WXg2 rfl rfl rfl hcat hdg (fun u hu => kk u.1 u.2 hu)
/-! X4_addGreat -/
abbrev rmX4_addGreat : Room := { frames := 4, cells := 0, slots := 0, locals := 100 }
abbrev QC_X4_addGreat (D : va_G) (A : Nat → Prop) (ad : Nat → Nat) (cA : Nat → ClassId) (tl : Int32) (tx : (Nat → Int32)) (e0 : Int32) (e1 : Int32) (e2 : Int32) (e3 : Int32) (e4 : Int32) (e5 : Int32) (e6 : Int32) (e7 : Int32) (e8 : Int32) (e9 : Int32) (e10 : Int32) (fr : Int32) (hd : Int32) (nw : (Nat → Int32)) (kp : (Nat → Int32)) (pt : (Nat → Int32)) (hr : (Nat → Nat → Int32)) (lr : (Nat → Nat → Int32)) (Q : Int32 → (Nat → Int64) → Prop) : Array Value → State → Outcome → State → Prop := va_Qv (fun u : Int32 × (Nat → Int64) => Q u.1 u.2) (fun u t => OKX D (tysX cA) ((fun u : Int32 × (Nat → Int64) => WX ad cA tl tx u.1 u.2 e0 e1 e2 e3 e4 e5 e6 e7 e8 e9 e10 fr hd nw kp pt hr lr) u) A t) A
abbrev QP_X4_addGreat (D : va_G) (A : Nat → Prop) (ad : Nat → Nat) (cA : Nat → ClassId) (tl : Int32) (tx : (Nat → Int32)) (e0 : Int32) (e1 : Int32) (e2 : Int32) (e3 : Int32) (e4 : Int32) (e5 : Int32) (e6 : Int32) (e7 : Int32) (e8 : Int32) (e9 : Int32) (e10 : Int32) (fr : Int32) (hd : Int32) (nw : (Nat → Int32)) (kp : (Nat → Int32)) (pt : (Nat → Int32)) (hr : (Nat → Nat → Int32)) (lr : (Nat → Nat → Int32)) (Q : Int32 → (Nat → Int64) → Prop) (below : List Frame) (args : Array Value) (s : State) : State → Prop := MQ below (QC_X4_addGreat D A ad cA tl tx e0 e1 e2 e3 e4 e5 e6 e7 e8 e9 e10 fr hd nw kp pt hr lr Q) args s 0 0 A
def B_X4_addGreat_35  (Q : Int32 → (Nat → Int64) → Prop)   (mn : Int32) (sd : (Nat → Int64)) : Prop := (Q mn sd)
def B_X4_addGreat_0  (Q : Int32 → (Nat → Int64) → Prop)  (v1 : Int32) (v2 : Int32) (mn : Int32) (sd : (Nat → Int64)) : Prop := (F_X4_counted (0 : Int64) (v1 / (200 : Int32)) (71 : Int32) (fun r_1 => ((v2 = 0 → (F_X4_add r_1 mn sd (fun mn_6 sd_7 => (B_X4_addGreat_35  Q  mn_6 sd_7)))) ∧ (¬ v2 = 0 → (F_X2_then r_1 (38 : Int32) (fun r_3 => (F_X4_addSmalls r_3 v2 mn sd (fun mn_4 sd_5 => (B_X4_addGreat_35  Q  mn_4 sd_5)))))))))
def F_X4_addGreat (v1 : Int32) (v2 : Int32)  (mn : Int32) (sd : (Nat → Int64)) (Q : Int32 → (Nat → Int64) → Prop) : Prop := B_X4_addGreat_0 Q  v1 v2 mn sd
set_option maxHeartbeats 4000000 in
set_option maxRecDepth 100000 in
theorem t_B_X4_addGreat_35  {Q : Int32 → (Nat → Int64) → Prop} (C : CxX p s m args c D (tysX cA) RX4 cX4_addGreat 5 wsX4_addGreat) (hrt9 : meth.sig.returnType = none) (hlk : meth.locks = false)  (mn : Int32) (sd : (Nat → Int64))  (h : B_X4_addGreat_35  Q  mn sd) : GoX p l e rmX4_addGreat s m args below meth c D A 5 0 0 (QP_X4_addGreat D A ad cA tl tx e0 e1 e2 e3 e4 e5 e6 e7 e8 e9 e10 fr hd nw kp pt hr lr Q below args s) 35 [] [] (WX ad cA tl tx mn sd e0 e1 e2 e3 e4 e5 e6 e7 e8 e9 e10 fr hd nw kp pt hr lr) := by
  replace h : (Q mn sd) := h
  exact g_vret C hrt9 hlk (u := (mn, sd)) rfl h dX4_addGreat_35
set_option maxHeartbeats 4000000 in
set_option maxRecDepth 100000 in
theorem t_B_X4_addGreat_0  {Q : Int32 → (Nat → Int64) → Prop} (C : CxX p s m args c D (tysX cA) RX4 cX4_addGreat 5 wsX4_addGreat) (hrt9 : meth.sig.returnType = none) (hlk : meth.locks = false) (v1 : Int32) (v2 : Int32) (mn : Int32) (sd : (Nat → Int64))  (h : B_X4_addGreat_0  Q  v1 v2 mn sd) : GoX p l e rmX4_addGreat s m args below meth c D A 5 0 0 (QP_X4_addGreat D A ad cA tl tx e0 e1 e2 e3 e4 e5 e6 e7 e8 e9 e10 fr hd nw kp pt hr lr Q below args s) 0 [(0, .ref (ad 2)), (1, .int v1), (2, .int v2)] [] (WX ad cA tl tx mn sd e0 e1 e2 e3 e4 e5 e6 e7 e8 e9 e10 fr hd nw kp pt hr lr) := by
  replace h : (F_X4_counted (0 : Int64) (v1 / (200 : Int32)) (71 : Int32) (fun r_1 => ((v2 = 0 → (F_X4_add r_1 mn sd (fun mn_6 sd_7 => (B_X4_addGreat_35  Q  mn_6 sd_7)))) ∧ (¬ v2 = 0 → (F_X2_then r_1 (38 : Int32) (fun r_3 => (F_X4_addSmalls r_3 v2 mn sd (fun mn_4 sd_5 => (B_X4_addGreat_35  Q  mn_4 sd_5))))))))) := h
  refine g_lconst C (0 : Int64) dX4_addGreat_0 (by decide) ?_
  refine g_iload_n C 1 dX4_addGreat_1 rfl rfl ?_
  refine g_sipush C (200 : Int32) dX4_addGreat_2 (by decide) ?_
  refine g_idiv C dX4_addGreat_5 (by decide) ?_
  refine g_bipush C (71 : Int32) dX4_addGreat_6 (by decide) ?_
  refine k_X4_counted C gX4_addGreat_X4_counted ⟨Nat.le_of_ble_eq_true rfl, Nat.le_of_ble_eq_true rfl⟩ ⟨Nat.zero_le _, Nat.zero_le _⟩ (Nat.le_of_ble_eq_true rfl) dX4_addGreat_8  h (fun r_1 h => ?_)
  refine g_lstore_n C (lv2 := [(3, .long r_1), (0, .ref (ad 2)), (1, .int v1), (2, .int v2)]) dX4_addGreat_11 rfl (by decide) rfl ?_
  refine g_iload_n C 3 dX4_addGreat_12 rfl rfl ?_
  refine g_if_ne C 24 dX4_addGreat_13 (by decide) (fun c_2 => ?_) (fun c_2 => ?_)
  · replace h := h.2 c_2
    refine g_aload_n C 1 dX4_addGreat_24 rfl rfl ?_
    refine g_lload_n C 0 dX4_addGreat_25 rfl rfl ?_
    refine g_bipush C (38 : Int32) dX4_addGreat_26 (by decide) ?_
    refine k_X2_then C gX4_addGreat_X2_then ⟨Nat.le_of_ble_eq_true rfl, Nat.le_of_ble_eq_true rfl⟩ ⟨Nat.zero_le _, Nat.zero_le _⟩ (Nat.le_of_ble_eq_true rfl) dX4_addGreat_28  h (fun r_3 h => ?_)
    refine g_iload_n C 3 dX4_addGreat_31 rfl rfl ?_
    refine k_X4_addSmalls C gX4_addGreat_X4_addSmalls ⟨Nat.le_of_ble_eq_true rfl, Nat.le_of_ble_eq_true rfl⟩ ⟨Nat.zero_le _, Nat.zero_le _⟩ (Nat.le_of_ble_eq_true rfl) dX4_addGreat_32  h (fun mn_4 sd_5 h => ?_)
    exact g_sub [] rfl (t_B_X4_addGreat_35 C hrt9 hlk  mn_4 sd_5  h)
  · replace h := h.1 c_2
    refine g_aload_n C 1 dX4_addGreat_16 rfl rfl ?_
    refine g_lload_n C 0 dX4_addGreat_17 rfl rfl ?_
    refine k_X4_add C gX4_addGreat_X4_add ⟨Nat.le_of_ble_eq_true rfl, Nat.le_of_ble_eq_true rfl⟩ ⟨Nat.zero_le _, Nat.zero_le _⟩ (Nat.le_of_ble_eq_true rfl) dX4_addGreat_18  h (fun mn_6 sd_7 h => ?_)
    refine g_goto C 35 dX4_addGreat_21 (by decide) ?_
    exact g_sub [] rfl (t_B_X4_addGreat_35 C hrt9 hlk  mn_6 sd_7  h)
theorem c_X4_addGreat (l : Launch) (D : va_G) (A : Nat → Prop) (ad : Nat → Nat) (cA : Nat → ClassId) (v1 : Int32) (v2 : Int32) {tl : Int32} {tx : (Nat → Int32)} {mn : Int32} {sd : (Nat → Int64)} {e0 : Int32} {e1 : Int32} {e2 : Int32} {e3 : Int32} {e4 : Int32} {e5 : Int32} {e6 : Int32} {e7 : Int32} {e8 : Int32} {e9 : Int32} {e10 : Int32} {fr : Int32} {hd : Int32} {nw : (Nat → Int32)} {kp : (Nat → Int32)} {pt : (Nat → Int32)} {hr : (Nat → Nat → Int32)} {lr : (Nat → Nat → Int32)}  (Q : Int32 → (Nat → Int64) → Prop) (h : F_X4_addGreat v1 v2 mn sd Q) : Met l yX4_addGreat wsX4_addGreat rmX4_addGreat (va_Pc [.ref (ad 2), .int v1, .int v2] (OKX D (tysX cA) (WX ad cA tl tx mn sd e0 e1 e2 e3 e4 e5 e6 e7 e8 e9 e10 fr hd nw kp pt hr lr) A)) (QC_X4_addGreat D A ad cA tl tx e0 e1 e2 e3 e4 e5 e6 e7 e8 e9 e10 fr hd nw kp pt hr lr Q) 0 0 A :=
  g_met (own := RX4) (by decide) rfl rfl (Nat.le_of_ble_eq_true rfl) (fun p e s m below meth c C hrt9 hlk _ => g_sub [0, 1, 2] rfl (t_B_X4_addGreat_0 C hrt9 hlk v1 v2 mn sd  h))
theorem k_X4_addGreat {ws : List Cond} {own : String} {cc : ByteArray} {nL pc index kc ks : Nat} {lv : List (Nat × Value)} {st : List Value} {Q : State → Prop} {R : Room} {K : Int32 → (Nat → Int64) → Prop} {v1 : Int32} {v2 : Int32} (C : CxX p s m args c D (tysX cA) own cc nL ws) (hT : GoodIn ws (wsV own index RX4 yX4_addGreat wsX4_addGreat)) (hR : rmX4_addGreat.frames + 1 ≤ R.frames ∧ 8 + (5 + 11) + rmX4_addGreat.locals ≤ R.locals) (hk9 : kc ≤ R.cells ∧ ks ≤ R.slots) (hcat : (st.map fun v => v.category).sum ≤ 8) (hdg : decode cc pc = .ok (.invokevirtual index, 3))  (h : F_X4_addGreat v1 v2 mn sd K) (kk : ∀ (mnq : Int32) (sdq : (Nat → Int64)), K mnq sdq → GoX p l e R s m args below meth c D A nL kc ks Q (pc + 3) lv (st) (WX ad cA tl tx mnq sdq e0 e1 e2 e3 e4 e5 e6 e7 e8 e9 e10 fr hd nw kp pt hr lr)) : GoX p l e R s m args below meth c D A nL kc ks Q pc lv (.int v2 :: .int v1 :: .ref (ad 2) :: st) (WX ad cA tl tx mn sd e0 e1 e2 e3 e4 e5 e6 e7 e8 e9 e10 fr hd nw kp pt hr lr) :=
  g_callVv C (As := [.int v1, .int v2]) 2 (c_X4_addGreat l D A ad cA v1 v2  K h) hT rfl rfl rfl (by decide +kernel) hR hk9 2 WXg2 rfl rfl rfl hcat hdg (fun u hu => kk u.1 u.2 hu)
/-! X4_find -/
abbrev rmX4_find : Room := { frames := 5, cells := 0, slots := 0, locals := 124 }
abbrev QC_X4_find (D : va_G) (A : Nat → Prop) (ad : Nat → Nat) (cA : Nat → ClassId) (tl : Int32) (tx : (Nat → Int32)) (e0 : Int32) (e1 : Int32) (e2 : Int32) (e3 : Int32) (e4 : Int32) (e5 : Int32) (e6 : Int32) (e7 : Int32) (e8 : Int32) (e9 : Int32) (e10 : Int32) (fr : Int32) (hd : Int32) (nw : (Nat → Int32)) (kp : (Nat → Int32)) (pt : (Nat → Int32)) (hr : (Nat → Nat → Int32)) (lr : (Nat → Nat → Int32)) (Q : Int32 → (Nat → Int64) → Prop) : Array Value → State → Outcome → State → Prop := va_Qv (fun u : Int32 × (Nat → Int64) => Q u.1 u.2) (fun u t => OKX D (tysX cA) ((fun u : Int32 × (Nat → Int64) => WX ad cA tl tx u.1 u.2 e0 e1 e2 e3 e4 e5 e6 e7 e8 e9 e10 fr hd nw kp pt hr lr) u) A t) A
abbrev QP_X4_find (D : va_G) (A : Nat → Prop) (ad : Nat → Nat) (cA : Nat → ClassId) (tl : Int32) (tx : (Nat → Int32)) (e0 : Int32) (e1 : Int32) (e2 : Int32) (e3 : Int32) (e4 : Int32) (e5 : Int32) (e6 : Int32) (e7 : Int32) (e8 : Int32) (e9 : Int32) (e10 : Int32) (fr : Int32) (hd : Int32) (nw : (Nat → Int32)) (kp : (Nat → Int32)) (pt : (Nat → Int32)) (hr : (Nat → Nat → Int32)) (lr : (Nat → Nat → Int32)) (Q : Int32 → (Nat → Int64) → Prop) (below : List Frame) (args : Array Value) (s : State) : State → Prop := MQ below (QC_X4_find D A ad cA tl tx e0 e1 e2 e3 e4 e5 e6 e7 e8 e9 e10 fr hd nw kp pt hr lr Q) args s 0 0 A
noncomputable def L_X4_find_42  (Q : Int32 → (Nat → Int64) → Prop)  (n9 : Nat) : Int32 → Int32 → Int32 → Int32 → (Nat → Int64) → Prop := Nat.rec (motive := fun _ => Int32 → Int32 → Int32 → Int32 → (Nat → Int64) → Prop) (fun _ _ _ _ _ => False) (fun _ kh42 => fun v1 v3 v4 mn sd => ((v3 < v4 → (Q mn sd)) ∧ (¬ v3 < v4 → (F_X4_addGreat v4 (v1 - v4) mn sd (fun mn_2 sd_3 => (kh42 v1 v3 (v4 + (200 : Int32)) mn_2 sd_3)))))) n9
def B_X4_find_0  (Q : Int32 → (Nat → Int64) → Prop)  (v1 : Int32) (mn : Int32) (sd : (Nat → Int64)) : Prop := (F_X4_addSmalls (0 : Int64) v1 (0 : Int32) sd (fun mn_4 sd_5 => (∃ n9 : Nat, L_X4_find_42  Q  n9 v1 (if v1 < (7600 : Int32) then v1 else (7600 : Int32)) (if (400 : Int32) < (((v1 - (200 : Int32)) / (200 : Int32)) * (200 : Int32)) then (((v1 - (200 : Int32)) / (200 : Int32)) * (200 : Int32)) else (400 : Int32)) mn_4 sd_5)))
def F_X4_find (v1 : Int32)  (mn : Int32) (sd : (Nat → Int64)) (Q : Int32 → (Nat → Int64) → Prop) : Prop := B_X4_find_0 Q  v1 mn sd
theorem lkX4_find_13 : Cond.fieldLink RX4 13 (TX4 1).1 (TX4 1).2.1 (TX4 1).2.2.1 ∈ wsX4_find := by decide +kernel
theorem inX4_find_4 : ∀ q ∈ u_ws RX4 TX4 2, q ∈ wsX4_find := by decide +kernel
set_option maxHeartbeats 4000000 in
set_option maxRecDepth 100000 in
theorem t_L_X4_find_42  {Q : Int32 → (Nat → Int64) → Prop} (C : CxX p s m args c D (tysX cA) RX4 cX4_find 5 wsX4_find) (hrt9 : meth.sig.returnType = none) (hlk : meth.locks = false) (m9 : Nat) : ∀ (v1 : Int32) (v3 : Int32) (v4 : Int32) (mn : Int32) (sd : (Nat → Int64)) , L_X4_find_42  Q  m9 v1 v3 v4 mn sd → GoX p l e rmX4_find s m args below meth c D A 5 0 0 (QP_X4_find D A ad cA tl tx e0 e1 e2 e3 e4 e5 e6 e7 e8 e9 e10 fr hd nw kp pt hr lr Q below args s) 42 [(0, .ref (ad 2)), (1, .int v1), (3, .int v3), (4, .int v4)] [] (WX ad cA tl tx mn sd e0 e1 e2 e3 e4 e5 e6 e7 e8 e9 e10 fr hd nw kp pt hr lr) := by
  induction m9 with
  | zero =>
    intro v1 v3 v4 mn sd h
    exact False.elim h
  | succ m9 Hk42 =>
    intro v1 v3 v4 mn sd h
    replace h : ((v3 < v4 → (Q mn sd)) ∧ (¬ v3 < v4 → (F_X4_addGreat v4 (v1 - v4) mn sd (fun mn_2 sd_3 => ((L_X4_find_42  Q  m9) v1 v3 (v4 + (200 : Int32)) mn_2 sd_3))))) := h
    refine g_iload C 3 dX4_find_42 rfl ?_
    refine g_iload_n C 2 dX4_find_44 rfl rfl ?_
    refine g_icmp_gt C 67 dX4_find_45 (by decide) (fun c_1 => ?_) (fun c_1 => ?_)
    · replace h := h.1 c_1
      exact g_vret C hrt9 hlk (u := (mn, sd)) rfl h dX4_find_67
    · replace h := h.2 c_1
      refine g_aload_n C 0 dX4_find_48 rfl rfl ?_
      refine g_iload C 3 dX4_find_49 rfl ?_
      refine g_iload_n C 1 dX4_find_51 rfl rfl ?_
      refine g_iload C 3 dX4_find_52 rfl ?_
      refine g_isub C dX4_find_54 ?_
      refine k_X4_addGreat C gX4_find_X4_addGreat ⟨Nat.le_of_ble_eq_true rfl, Nat.le_of_ble_eq_true rfl⟩ ⟨Nat.zero_le _, Nat.zero_le _⟩ (Nat.le_of_ble_eq_true rfl) dX4_find_55  h (fun mn_2 sd_3 h => ?_)
      refine g_iincW C (v := (v4 + (200 : Int32))) (lv2 := [(4, .int (v4 + (200 : Int32))), (0, .ref (ad 2)), (1, .int v1), (3, .int v3)]) 3 dX4_find_58 rfl rfl (by decide) rfl ?_
      refine g_goto C 42 dX4_find_64 (by decide) ?_
      exact g_sub [1, 2, 3, 0] rfl (Hk42 v1 v3 (v4 + (200 : Int32)) mn_2 sd_3  h)
set_option maxHeartbeats 4000000 in
set_option maxRecDepth 100000 in
theorem t_B_X4_find_0  {Q : Int32 → (Nat → Int64) → Prop} (C : CxX p s m args c D (tysX cA) RX4 cX4_find 5 wsX4_find) (hrt9 : meth.sig.returnType = none) (hlk : meth.locks = false) (v1 : Int32) (mn : Int32) (sd : (Nat → Int64))  (h : B_X4_find_0  Q  v1 mn sd) : GoX p l e rmX4_find s m args below meth c D A 5 0 0 (QP_X4_find D A ad cA tl tx e0 e1 e2 e3 e4 e5 e6 e7 e8 e9 e10 fr hd nw kp pt hr lr Q below args s) 0 [(0, .ref (ad 2)), (1, .int v1)] [] (WX ad cA tl tx mn sd e0 e1 e2 e3 e4 e5 e6 e7 e8 e9 e10 fr hd nw kp pt hr lr) := by
  replace h : (F_X4_addSmalls (0 : Int64) v1 (0 : Int32) sd (fun mn_4 sd_5 => (∃ n9 : Nat, L_X4_find_42  Q  n9 v1 (if v1 < (7600 : Int32) then v1 else (7600 : Int32)) (if (400 : Int32) < (((v1 - (200 : Int32)) / (200 : Int32)) * (200 : Int32)) then (((v1 - (200 : Int32)) / (200 : Int32)) * (200 : Int32)) else (400 : Int32)) mn_4 sd_5))) := h
  refine g_aload_n C 0 dX4_find_0 rfl rfl ?_
  refine g_iconst C (0 : Int32) dX4_find_1 (by decide) ?_
  refine g_put C inX4_find_4 tyX4 tyX4_ok nmX4 2 WXg2 rfl 1 (by decide) lkX4_find_13 rfl rfl rfl (Nat.le_of_ble_eq_true rfl) (WXs_mn) dX4_find_2 ?_
  refine g_aload_n C 0 dX4_find_5 rfl rfl ?_
  refine g_lconst C (0 : Int64) dX4_find_6 (by decide) ?_
  refine g_iload_n C 1 dX4_find_7 rfl rfl ?_
  refine k_X4_addSmalls C gX4_find_X4_addSmalls ⟨Nat.le_of_ble_eq_true rfl, Nat.le_of_ble_eq_true rfl⟩ ⟨Nat.zero_le _, Nat.zero_le _⟩ (Nat.le_of_ble_eq_true rfl) dX4_find_8  h (fun mn_4 sd_5 h => ?_)
  refine g_sipush C (400 : Int32) dX4_find_11 (by decide) ?_
  refine g_iload_n C 1 dX4_find_14 rfl rfl ?_
  refine g_sipush C (200 : Int32) dX4_find_15 (by decide) ?_
  refine g_isub C dX4_find_18 ?_
  refine g_sipush C (200 : Int32) dX4_find_19 (by decide) ?_
  refine g_idiv C dX4_find_22 (by decide) ?_
  refine g_sipush C (200 : Int32) dX4_find_23 (by decide) ?_
  refine g_imul C dX4_find_26 ?_
  refine g_mmax C (by decide +kernel) (by decide +kernel) (by decide +kernel) (by decide +kernel) (Nat.le_of_ble_eq_true rfl) (Nat.le_of_ble_eq_true rfl) (Nat.zero_le _) (Nat.zero_le _) dX4_find_27 ?_
  refine g_istore_n C (lv2 := [(2, .int (if (400 : Int32) < (((v1 - (200 : Int32)) / (200 : Int32)) * (200 : Int32)) then (((v1 - (200 : Int32)) / (200 : Int32)) * (200 : Int32)) else (400 : Int32))), (0, .ref (ad 2)), (1, .int v1)]) dX4_find_30 rfl (by decide) rfl ?_
  refine g_sipush C (7600 : Int32) dX4_find_31 (by decide) ?_
  refine g_iload_n C 2 dX4_find_34 rfl rfl ?_
  refine g_mmin C (by decide +kernel) (by decide +kernel) (by decide +kernel) (by decide +kernel) (Nat.le_of_ble_eq_true rfl) (Nat.le_of_ble_eq_true rfl) (Nat.zero_le _) (Nat.zero_le _) dX4_find_35 ?_
  refine g_istore_n C (lv2 := [(3, .int (if v1 < (7600 : Int32) then v1 else (7600 : Int32))), (2, .int (if (400 : Int32) < (((v1 - (200 : Int32)) / (200 : Int32)) * (200 : Int32)) then (((v1 - (200 : Int32)) / (200 : Int32)) * (200 : Int32)) else (400 : Int32))), (0, .ref (ad 2)), (1, .int v1)]) dX4_find_38 rfl (by decide) rfl ?_
  refine g_iload_n C 1 dX4_find_39 rfl rfl ?_
  refine g_istore C (lv2 := [(4, .int (if (400 : Int32) < (((v1 - (200 : Int32)) / (200 : Int32)) * (200 : Int32)) then (((v1 - (200 : Int32)) / (200 : Int32)) * (200 : Int32)) else (400 : Int32))), (3, .int (if v1 < (7600 : Int32) then v1 else (7600 : Int32))), (2, .int (if (400 : Int32) < (((v1 - (200 : Int32)) / (200 : Int32)) * (200 : Int32)) then (((v1 - (200 : Int32)) / (200 : Int32)) * (200 : Int32)) else (400 : Int32))), (0, .ref (ad 2)), (1, .int v1)]) dX4_find_40 (by decide) rfl ?_
  obtain ⟨n9, h⟩ := h
  exact g_sub [3, 4, 1, 0] rfl (t_L_X4_find_42 C hrt9 hlk  n9 v1 (if v1 < (7600 : Int32) then v1 else (7600 : Int32)) (if (400 : Int32) < (((v1 - (200 : Int32)) / (200 : Int32)) * (200 : Int32)) then (((v1 - (200 : Int32)) / (200 : Int32)) * (200 : Int32)) else (400 : Int32)) mn_4 sd_5  h)
theorem c_X4_find (l : Launch) (D : va_G) (A : Nat → Prop) (ad : Nat → Nat) (cA : Nat → ClassId) (v1 : Int32) {tl : Int32} {tx : (Nat → Int32)} {mn : Int32} {sd : (Nat → Int64)} {e0 : Int32} {e1 : Int32} {e2 : Int32} {e3 : Int32} {e4 : Int32} {e5 : Int32} {e6 : Int32} {e7 : Int32} {e8 : Int32} {e9 : Int32} {e10 : Int32} {fr : Int32} {hd : Int32} {nw : (Nat → Int32)} {kp : (Nat → Int32)} {pt : (Nat → Int32)} {hr : (Nat → Nat → Int32)} {lr : (Nat → Nat → Int32)}  (Q : Int32 → (Nat → Int64) → Prop) (h : F_X4_find v1 mn sd Q) : Met l yX4_find wsX4_find rmX4_find (va_Pc [.ref (ad 2), .int v1] (OKX D (tysX cA) (WX ad cA tl tx mn sd e0 e1 e2 e3 e4 e5 e6 e7 e8 e9 e10 fr hd nw kp pt hr lr) A)) (QC_X4_find D A ad cA tl tx e0 e1 e2 e3 e4 e5 e6 e7 e8 e9 e10 fr hd nw kp pt hr lr Q) 0 0 A :=
  g_met (own := RX4) (by decide) rfl rfl (Nat.le_of_ble_eq_true rfl) (fun p e s m below meth c C hrt9 hlk _ => g_sub [0, 1] rfl (t_B_X4_find_0 C hrt9 hlk v1 mn sd  h))
theorem k_X4_find {ws : List Cond} {own : String} {cc : ByteArray} {nL pc index kc ks : Nat} {lv : List (Nat × Value)} {st : List Value} {Q : State → Prop} {R : Room} {K : Int32 → (Nat → Int64) → Prop} {v1 : Int32} (C : CxX p s m args c D (tysX cA) own cc nL ws) (hT : GoodIn ws (wsV own index RX4 yX4_find wsX4_find)) (hR : rmX4_find.frames + 1 ≤ R.frames ∧ 8 + (5 + 11) + rmX4_find.locals ≤ R.locals) (hk9 : kc ≤ R.cells ∧ ks ≤ R.slots) (hcat : (st.map fun v => v.category).sum ≤ 8) (hdg : decode cc pc = .ok (.invokevirtual index, 3))  (h : F_X4_find v1 mn sd K) (kk : ∀ (mnq : Int32) (sdq : (Nat → Int64)), K mnq sdq → GoX p l e R s m args below meth c D A nL kc ks Q (pc + 3) lv (st) (WX ad cA tl tx mnq sdq e0 e1 e2 e3 e4 e5 e6 e7 e8 e9 e10 fr hd nw kp pt hr lr)) : GoX p l e R s m args below meth c D A nL kc ks Q pc lv (.int v1 :: .ref (ad 2) :: st) (WX ad cA tl tx mn sd e0 e1 e2 e3 e4 e5 e6 e7 e8 e9 e10 fr hd nw kp pt hr lr) :=
  g_callVv C (As := [.int v1]) 1 (c_X4_find l D A ad cA v1  K h) hT rfl rfl rfl (by decide +kernel) hR hk9 2 WXg2 rfl rfl rfl hcat hdg (fun u hu => kk u.1 u.2 hu)
