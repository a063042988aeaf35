variable {p : Program} {l : Launch} {e : Env} {s : State} {m : MethodId} {args : Array Value} {below : List Frame} {meth : Method} {c : Code} {D : va_G} {A : Nat → Prop} {ad : Nat → Nat} {cA : Nat → ClassId}
variable {tl : Int32} {tx : (Nat → Int32)} {mn : Int32} {sd : (Nat → Int64)} {e0 : Int32} {e1 : Int32} {e2 : Int32} {e3 : Int32} {e4 : Int32} {e5 : Int32} {e6 : Int32} {e7 : Int32} {e8 : Int32} {e9 : Int32} {e10 : Int32} {fr : Int32} {hd : Int32} {nw : (Nat → Int32)} {kp : (Nat → Int32)} {pt : (Nat → Int32)} {hr : (Nat → Nat → Int32)} {lr : (Nat → Nat → Int32)}
/-! X5_isHearer -/
abbrev rmX5_isHearer : Room := { frames := 0, cells := 0, slots := 0, locals := 0 }
abbrev QC_X5_isHearer (D : va_G) (A : Nat → Prop) (ad : Nat → Nat) (cA : Nat → ClassId) (tl : Int32) (tx : (Nat → Int32)) (mn : Int32) (sd : (Nat → Int64)) (e0 : Int32) (e1 : Int32) (e2 : Int32) (e3 : Int32) (e4 : Int32) (e5 : Int32) (e6 : Int32) (e7 : Int32) (e8 : Int32) (e9 : Int32) (e10 : Int32) (fr : Int32) (hd : Int32) (nw : (Nat → Int32)) (kp : (Nat → Int32)) (pt : (Nat → Int32)) (hr : (Nat → Nat → Int32)) (lr : (Nat → Nat → Int32)) (Q : Int32 → Prop) : Array Value → State → Outcome → State → Prop := va_Qi (fun (r : Int32) (u : Unit) => Q r ) (fun u t => OKX D (tysX cA) ((fun u : Unit => WX ad cA tl tx mn sd e0 e1 e2 e3 e4 e5 e6 e7 e8 e9 e10 fr hd nw kp pt hr lr) u) A t) A
abbrev QP_X5_isHearer (D : va_G) (A : Nat → Prop) (ad : Nat → Nat) (cA : Nat → ClassId) (tl : Int32) (tx : (Nat → Int32)) (mn : Int32) (sd : (Nat → Int64)) (e0 : Int32) (e1 : Int32) (e2 : Int32) (e3 : Int32) (e4 : Int32) (e5 : Int32) (e6 : Int32) (e7 : Int32) (e8 : Int32) (e9 : Int32) (e10 : Int32) (fr : Int32) (hd : Int32) (nw : (Nat → Int32)) (kp : (Nat → Int32)) (pt : (Nat → Int32)) (hr : (Nat → Nat → Int32)) (lr : (Nat → Nat → Int32)) (Q : Int32 → Prop) (below : List Frame) (args : Array Value) (s : State) : State → Prop := MQ below (QC_X5_isHearer D A ad cA tl tx mn sd e0 e1 e2 e3 e4 e5 e6 e7 e8 e9 e10 fr hd nw kp pt hr lr Q) args s 0 0 A
def B_X5_isHearer_15  (Q : Int32 → Prop)  (s0 : Int32)  : Prop := (isBo s0 ∧ (Q s0))
def B_X5_isHearer_14  (Q : Int32 → Prop)    : Prop := (B_X5_isHearer_15  Q  (0 : Int32))
def B_X5_isHearer_0  (Q : Int32 → Prop)  (v0 : Int32)  : Prop := ((v0 < 0 → (B_X5_isHearer_14  Q  )) ∧ (¬ v0 < 0 → (((6 : Int32) ≤ v0 → (B_X5_isHearer_14  Q  )) ∧ (¬ (6 : Int32) ≤ v0 → (B_X5_isHearer_15  Q  (1 : Int32))))))
def F_X5_isHearer (v0 : Int32)   (Q : Int32 → Prop) : Prop := B_X5_isHearer_0 Q  v0 
set_option maxHeartbeats 4000000 in
set_option maxRecDepth 100000 in
theorem t_B_X5_isHearer_15  {Q : Int32 → Prop} (C : CxX p s m args c D (tysX cA) RX5 cX5_isHearer 1 wsX5_isHearer) (hrt9 : meth.sig.returnType = (some .boolean)) (hlk : meth.locks = false) (s0 : Int32)   (h : B_X5_isHearer_15  Q  s0) : GoX p l e rmX5_isHearer s m args below meth c D A 1 0 0 (QP_X5_isHearer D A ad cA tl tx mn sd e0 e1 e2 e3 e4 e5 e6 e7 e8 e9 e10 fr hd nw kp pt hr lr Q below args s) 15 [] [.int s0] (WX ad cA tl tx mn sd e0 e1 e2 e3 e4 e5 e6 e7 e8 e9 e10 fr hd nw kp pt hr lr) := by
  replace h : (isBo s0 ∧ (Q s0)) := h
  exact g_zret C hrt9 hlk h.1.n (u := ()) rfl h.2 dX5_isHearer_15
set_option maxHeartbeats 4000000 in
set_option maxRecDepth 100000 in
theorem t_B_X5_isHearer_14  {Q : Int32 → Prop} (C : CxX p s m args c D (tysX cA) RX5 cX5_isHearer 1 wsX5_isHearer) (hrt9 : meth.sig.returnType = (some .boolean)) (hlk : meth.locks = false)    (h : B_X5_isHearer_14  Q  ) : GoX p l e rmX5_isHearer s m args below meth c D A 1 0 0 (QP_X5_isHearer D A ad cA tl tx mn sd e0 e1 e2 e3 e4 e5 e6 e7 e8 e9 e10 fr hd nw kp pt hr lr Q below args s) 14 [] [] (WX ad cA tl tx mn sd e0 e1 e2 e3 e4 e5 e6 e7 e8 e9 e10 fr hd nw kp pt hr lr) := by
  replace h : (B_X5_isHearer_15  Q  (0 : Int32)) := h
  refine g_iconst C (0 : Int32) dX5_isHearer_14 (by decide) ?_
  exact g_sub [] rfl (t_B_X5_isHearer_15 C hrt9 hlk  (0 : Int32)  h)
set_option maxHeartbeats 4000000 in
set_option maxRecDepth 100000 in
theorem t_B_X5_isHearer_0  {Q : Int32 → Prop} (C : CxX p s m args c D (tysX cA) RX5 cX5_isHearer 1 wsX5_isHearer) (hrt9 : meth.sig.returnType = (some .boolean)) (hlk : meth.locks = false) (v0 : Int32)   (h : B_X5_isHearer_0  Q  v0) : GoX p l e rmX5_isHearer s m args below meth c D A 1 0 0 (QP_X5_isHearer D A ad cA tl tx mn sd e0 e1 e2 e3 e4 e5 e6 e7 e8 e9 e10 fr hd nw kp pt hr lr Q below args s) 0 [(0, .int v0)] [] (WX ad cA tl tx mn sd e0 e1 e2 e3 e4 e5 e6 e7 e8 e9 e10 fr hd nw kp pt hr lr) := by
  replace h : ((v0 < 0 → (B_X5_isHearer_14  Q  )) ∧ (¬ v0 < 0 → (((6 : Int32) ≤ v0 → (B_X5_isHearer_14  Q  )) ∧ (¬ (6 : Int32) ≤ v0 → (B_X5_isHearer_15  Q  (1 : Int32)))))) := h
  refine g_iload_n C 0 dX5_isHearer_0 rfl rfl ?_
  refine g_if_lt C 14 dX5_isHearer_1 (by decide) (fun c_1 => ?_) (fun c_1 => ?_)
  · replace h := h.1 c_1
    exact g_sub [] rfl (t_B_X5_isHearer_14 C hrt9 hlk    h)
  · replace h := h.2 c_1
    refine g_iload_n C 0 dX5_isHearer_4 rfl rfl ?_
    refine g_bipush C (6 : Int32) dX5_isHearer_5 (by decide) ?_
    refine g_icmp_ge C 14 dX5_isHearer_7 (by decide) (fun c_2 => ?_) (fun c_2 => ?_)
    · replace h := h.1 c_2
      exact g_sub [] rfl (t_B_X5_isHearer_14 C hrt9 hlk    h)
    · replace h := h.2 c_2
      refine g_iconst C (1 : Int32) dX5_isHearer_10 (by decide) ?_
      refine g_goto C 15 dX5_isHearer_11 (by decide) ?_
      exact g_sub [] rfl (t_B_X5_isHearer_15 C hrt9 hlk  (1 : Int32)  h)
theorem c_X5_isHearer (l : Launch) (D : va_G) (A : Nat → Prop) (ad : Nat → Nat) (cA : Nat → ClassId) (v0 : Int32) {tl : Int32} {tx : (Nat → Int32)} {mn : Int32} {sd : (Nat → Int64)} {e0 : Int32} {e1 : Int32} {e2 : Int32} {e3 : Int32} {e4 : Int32} {e5 : Int32} {e6 : Int32} {e7 : Int32} {e8 : Int32} {e9 : Int32} {e10 : Int32} {fr : Int32} {hd : Int32} {nw : (Nat → Int32)} {kp : (Nat → Int32)} {pt : (Nat → Int32)} {hr : (Nat → Nat → Int32)} {lr : (Nat → Nat → Int32)}  (Q : Int32 → Prop) (h : F_X5_isHearer v0 Q) : Met l yX5_isHearer wsX5_isHearer rmX5_isHearer (va_Pc [.int v0] (OKX D (tysX cA) (WX ad cA tl tx mn sd e0 e1 e2 e3 e4 e5 e6 e7 e8 e9 e10 fr hd nw kp pt hr lr) A)) (QC_X5_isHearer D A ad cA tl tx mn sd e0 e1 e2 e3 e4 e5 e6 e7 e8 e9 e10 fr hd nw kp pt hr lr Q) 0 0 A :=
  g_met (own := RX5) (by decide) rfl rfl (Nat.le_of_ble_eq_true rfl) (fun p e s m below meth c C hrt9 hlk _ => g_sub [0] rfl (t_B_X5_isHearer_0 C hrt9 hlk v0   h))
theorem k_X5_isHearer {ws : List Cond} {own : String} {cc : ByteArray} {nL pc index kc ks : Nat} {lv : List (Nat × Value)} {st : List Value} {Q : State → Prop} {R : Room} {K : Int32 → Prop} {v0 : Int32} (C : CxX p s m args c D (tysX cA) own cc nL ws) (hT : GoodIn ws (va_wsS own index yX5_isHearer wsX5_isHearer)) (hR : rmX5_isHearer.frames + 1 ≤ R.frames ∧ 8 + (1 + 11) + rmX5_isHearer.locals ≤ R.locals) (hk9 : kc ≤ R.cells ∧ ks ≤ R.slots) (hcat : (st.map fun v => v.category).sum ≤ 8) (hdg : decode cc pc = .ok (.invokestatic index, 3))  (h : F_X5_isHearer v0 K) (kk : ∀ (r : Int32) , K r → GoX p l e R s m args below meth c D A nL kc ks Q (pc + 3) lv (.int r :: st) (WX ad cA tl tx mn sd e0 e1 e2 e3 e4 e5 e6 e7 e8 e9 e10 fr hd nw kp pt hr lr)) : GoX p l e R s m args below meth c D A nL kc ks Q pc lv (.int v0 :: st) (WX ad cA tl tx mn sd e0 e1 e2 e3 e4 e5 e6 e7 e8 e9 e10 fr hd nw kp pt hr lr) :=
  g_callSi C (As := [.int v0]) 1 (c_X5_isHearer l D A ad cA v0  K h) hT rfl rfl rfl (by decide +kernel) hR hk9 rfl rfl hcat hdg (fun r u hu => kk r  hu)
/-! X5_isWord -/
abbrev rmX5_isWord : Room := { frames := 0, cells := 0, slots := 0, locals := 0 }
abbrev QC_X5_isWord (D : va_G) (A : Nat → Prop) (ad : Nat → Nat) (cA : Nat → ClassId) (tl : Int32) (tx : (Nat → Int32)) (mn : Int32) (sd : (Nat → Int64)) (e0 : Int32) (e1 : Int32) (e2 : Int32) (e3 : Int32) (e4 : Int32) (e5 : Int32) (e6 : Int32) (e7 : Int32) (e8 : Int32) (e9 : Int32) (e10 : Int32) (fr : Int32) (hd : Int32) (nw : (Nat → Int32)) (kp : (Nat → Int32)) (pt : (Nat → Int32)) (hr : (Nat → Nat → Int32)) (lr : (Nat → Nat → Int32)) (Q : Int32 → Prop) : Array Value → State → Outcome → State → Prop := va_Qi (fun (r : Int32) (u : Unit) => Q r ) (fun u t => OKX D (tysX cA) ((fun u : Unit => WX ad cA tl tx mn sd e0 e1 e2 e3 e4 e5 e6 e7 e8 e9 e10 fr hd nw kp pt hr lr) u) A t) A
abbrev QP_X5_isWord (D : va_G) (A : Nat → Prop) (ad : Nat → Nat) (cA : Nat → ClassId) (tl : Int32) (tx : (Nat → Int32)) (mn : Int32) (sd : (Nat → Int64)) (e0 : Int32) (e1 : Int32) (e2 : Int32) (e3 : Int32) (e4 : Int32) (e5 : Int32) (e6 : Int32) (e7 : Int32) (e8 : Int32) (e9 : Int32) (e10 : Int32) (fr : Int32) (hd : Int32) (nw : (Nat → Int32)) (kp : (Nat → Int32)) (pt : (Nat → Int32)) (hr : (Nat → Nat → Int32)) (lr : (Nat → Nat → Int32)) (Q : Int32 → Prop) (below : List Frame) (args : Array Value) (s : State) : State → Prop := MQ below (QC_X5_isWord D A ad cA tl tx mn sd e0 e1 e2 e3 e4 e5 e6 e7 e8 e9 e10 fr hd nw kp pt hr lr Q) args s 0 0 A
def B_X5_isWord_14  (Q : Int32 → Prop)  (s0 : Int32)  : Prop := (isBo s0 ∧ (Q s0))
def B_X5_isWord_13  (Q : Int32 → Prop)    : Prop := (B_X5_isWord_14  Q  (0 : Int32))
def B_X5_isWord_0  (Q : Int32 → Prop)  (v0 : Int32)  : Prop := ((v0 < 0 → (B_X5_isWord_13  Q  )) ∧ (¬ v0 < 0 → (((3 : Int32) ≤ v0 → (B_X5_isWord_13  Q  )) ∧ (¬ (3 : Int32) ≤ v0 → (B_X5_isWord_14  Q  (1 : Int32))))))
def F_X5_isWord (v0 : Int32)   (Q : Int32 → Prop) : Prop := B_X5_isWord_0 Q  v0 
set_option maxHeartbeats 4000000 in
set_option maxRecDepth 100000 in
theorem t_B_X5_isWord_14  {Q : Int32 → Prop} (C : CxX p s m args c D (tysX cA) RX5 cX5_isWord 1 wsX5_isWord) (hrt9 : meth.sig.returnType = (some .boolean)) (hlk : meth.locks = false) (s0 : Int32)   (h : B_X5_isWord_14  Q  s0) : GoX p l e rmX5_isWord s m args below meth c D A 1 0 0 (QP_X5_isWord D A ad cA tl tx mn sd e0 e1 e2 e3 e4 e5 e6 e7 e8 e9 e10 fr hd nw kp pt hr lr Q below args s) 14 [] [.int s0] (WX ad cA tl tx mn sd e0 e1 e2 e3 e4 e5 e6 e7 e8 e9 e10 fr hd nw kp pt hr lr) := by
  replace h : (isBo s0 ∧ (Q s0)) := h
  exact g_zret C hrt9 hlk h.1.n (u := ()) rfl h.2 dX5_isWord_14
set_option maxHeartbeats 4000000 in
set_option maxRecDepth 100000 in
theorem t_B_X5_isWord_13  {Q : Int32 → Prop} (C : CxX p s m args c D (tysX cA) RX5 cX5_isWord 1 wsX5_isWord) (hrt9 : meth.sig.returnType = (some .boolean)) (hlk : meth.locks = false)    (h : B_X5_isWord_13  Q  ) : GoX p l e rmX5_isWord s m args below meth c D A 1 0 0 (QP_X5_isWord D A ad cA tl tx mn sd e0 e1 e2 e3 e4 e5 e6 e7 e8 e9 e10 fr hd nw kp pt hr lr Q below args s) 13 [] [] (WX ad cA tl tx mn sd e0 e1 e2 e3 e4 e5 e6 e7 e8 e9 e10 fr hd nw kp pt hr lr) := by
  replace h : (B_X5_isWord_14  Q  (0 : Int32)) := h
  refine g_iconst C (0 : Int32) dX5_isWord_13 (by decide) ?_
  exact g_sub [] rfl (t_B_X5_isWord_14 C hrt9 hlk  (0 : Int32)  h)
set_option maxHeartbeats 4000000 in
set_option maxRecDepth 100000 in
theorem t_B_X5_isWord_0  {Q : Int32 → Prop} (C : CxX p s m args c D (tysX cA) RX5 cX5_isWord 1 wsX5_isWord) (hrt9 : meth.sig.returnType = (some .boolean)) (hlk : meth.locks = false) (v0 : Int32)   (h : B_X5_isWord_0  Q  v0) : GoX p l e rmX5_isWord s m args below meth c D A 1 0 0 (QP_X5_isWord D A ad cA tl tx mn sd e0 e1 e2 e3 e4 e5 e6 e7 e8 e9 e10 fr hd nw kp pt hr lr Q below args s) 0 [(0, .int v0)] [] (WX ad cA tl tx mn sd e0 e1 e2 e3 e4 e5 e6 e7 e8 e9 e10 fr hd nw kp pt hr lr) := by
  replace h : ((v0 < 0 → (B_X5_isWord_13  Q  )) ∧ (¬ v0 < 0 → (((3 : Int32) ≤ v0 → (B_X5_isWord_13  Q  )) ∧ (¬ (3 : Int32) ≤ v0 → (B_X5_isWord_14  Q  (1 : Int32)))))) := h
  refine g_iload_n C 0 dX5_isWord_0 rfl rfl ?_
  refine g_if_lt C 13 dX5_isWord_1 (by decide) (fun c_1 => ?_) (fun c_1 => ?_)
  · replace h := h.1 c_1
    exact g_sub [] rfl (t_B_X5_isWord_13 C hrt9 hlk    h)
  · replace h := h.2 c_1
    refine g_iload_n C 0 dX5_isWord_4 rfl rfl ?_
    refine g_iconst C (3 : Int32) dX5_isWord_5 (by decide) ?_
    refine g_icmp_ge C 13 dX5_isWord_6 (by decide) (fun c_2 => ?_) (fun c_2 => ?_)
    · replace h := h.1 c_2
      exact g_sub [] rfl (t_B_X5_isWord_13 C hrt9 hlk    h)
    · replace h := h.2 c_2
      refine g_iconst C (1 : Int32) dX5_isWord_9 (by decide) ?_
      refine g_goto C 14 dX5_isWord_10 (by decide) ?_
      exact g_sub [] rfl (t_B_X5_isWord_14 C hrt9 hlk  (1 : Int32)  h)
theorem c_X5_isWord (l : Launch) (D : va_G) (A : Nat → Prop) (ad : Nat → Nat) (cA : Nat → ClassId) (v0 : Int32) {tl : Int32} {tx : (Nat → Int32)} {mn : Int32} {sd : (Nat → Int64)} {e0 : Int32} {e1 : Int32} {e2 : Int32} {e3 : Int32} {e4 : Int32} {e5 : Int32} {e6 : Int32} {e7 : Int32} {e8 : Int32} {e9 : Int32} {e10 : Int32} {fr : Int32} {hd : Int32} {nw : (Nat → Int32)} {kp : (Nat → Int32)} {pt : (Nat → Int32)} {hr : (Nat → Nat → Int32)} {lr : (Nat → Nat → Int32)}  (Q : Int32 → Prop) (h : F_X5_isWord v0 Q) : Met l yX5_isWord wsX5_isWord rmX5_isWord (va_Pc [.int v0] (OKX D (tysX cA) (WX ad cA tl tx mn sd e0 e1 e2 e3 e4 e5 e6 e7 e8 e9 e10 fr hd nw kp pt hr lr) A)) (QC_X5_isWord D A ad cA tl tx mn sd e0 e1 e2 e3 e4 e5 e6 e7 e8 e9 e10 fr hd nw kp pt hr lr Q) 0 0 A :=
  g_met (own := RX5) (by decide) rfl rfl (Nat.le_of_ble_eq_true rfl) (fun p e s m below meth c C hrt9 hlk _ => g_sub [0] rfl (t_B_X5_isWord_0 C hrt9 hlk v0   h))
theorem k_X5_isWord {ws : List Cond} {own : String} {cc : ByteArray} {nL pc index kc ks : Nat} {lv : List (Nat × Value)} {st : List Value} {Q : State → Prop} {R : Room} {K : Int32 → Prop} {v0 : Int32} (C : CxX p s m args c D (tysX cA) own cc nL ws) (hT : GoodIn ws (va_wsS own index yX5_isWord wsX5_isWord)) (hR : rmX5_isWord.frames + 1 ≤ R.frames ∧ 8 + (1 + 11) + rmX5_isWord.locals ≤ R.locals) (hk9 : kc ≤ R.cells ∧ ks ≤ R.slots) (hcat : (st.map fun v => v.category).sum ≤ 8) (hdg : decode cc pc = .ok (.invokestatic index, 3))  (h : F_X5_isWord v0 K) (kk : ∀ (r : Int32) , K r → GoX p l e R s m args below meth c D A nL kc ks Q (pc + 3) lv (.int r :: st) (WX ad cA tl tx mn sd e0 e1 e2 e3 e4 e5 e6 e7 e8 e9 e10 fr hd nw kp pt hr lr)) : GoX p l e R s m args below meth c D A nL kc ks Q pc lv (.int v0 :: st) (WX ad cA tl tx mn sd e0 e1 e2 e3 e4 e5 e6 e7 e8 e9 e10 fr hd nw kp pt hr lr) :=
  g_callSi C (As := [.int v0]) 1 (c_X5_isWord l D A ad cA v0  K h) hT rfl rfl rfl (by decide +kernel) hR hk9 rfl rfl hcat hdg (fun r u hu => kk r  hu)
/-! X5_isStyle -/
abbrev rmX5_isStyle : Room := { frames := 0, cells := 0, slots := 0, locals := 0 }
abbrev QC_X5_isStyle (D : va_G) (A : Nat → Prop) (ad : Nat → Nat) (cA : Nat → ClassId) (tl : Int32) (tx : (Nat → Int32)) (mn : Int32) (sd : (Nat → Int64)) (e0 : Int32) (e1 : Int32) (e2 : Int32) (e3 : Int32) (e4 : Int32) (e5 : Int32) (e6 : Int32) (e7 : Int32) (e8 : Int32) (e9 : Int32) (e10 : Int32) (fr : Int32) (hd : Int32) (nw : (Nat → Int32)) (kp : (Nat → Int32)) (pt : (Nat → Int32)) (hr : (Nat → Nat → Int32)) (lr : (Nat → Nat → Int32)) (Q : Int32 → Prop) : Array Value → State → Outcome → State → Prop := va_Qi (fun (r : Int32) (u : Unit) => Q r ) (fun u t => OKX D (tysX cA) ((fun u : Unit => WX ad cA tl tx mn sd e0 e1 e2 e3 e4 e5 e6 e7 e8 e9 e10 fr hd nw kp pt hr lr) u) A t) A
abbrev QP_X5_isStyle (D : va_G) (A : Nat → Prop) (ad : Nat → Nat) (cA : Nat → ClassId) (tl : Int32) (tx : (Nat → Int32)) (mn : Int32) (sd : (Nat → Int64)) (e0 : Int32) (e1 : Int32) (e2 : Int32) (e3 : Int32) (e4 : Int32) (e5 : Int32) (e6 : Int32) (e7 : Int32) (e8 : Int32) (e9 : Int32) (e10 : Int32) (fr : Int32) (hd : Int32) (nw : (Nat → Int32)) (kp : (Nat → Int32)) (pt : (Nat → Int32)) (hr : (Nat → Nat → Int32)) (lr : (Nat → Nat → Int32)) (Q : Int32 → Prop) (below : List Frame) (args : Array Value) (s : State) : State → Prop := MQ below (QC_X5_isStyle D A ad cA tl tx mn sd e0 e1 e2 e3 e4 e5 e6 e7 e8 e9 e10 fr hd nw kp pt hr lr Q) args s 0 0 A
def B_X5_isStyle_14  (Q : Int32 → Prop)  (s0 : Int32)  : Prop := (isBo s0 ∧ (Q s0))
def B_X5_isStyle_13  (Q : Int32 → Prop)    : Prop := (B_X5_isStyle_14  Q  (0 : Int32))
def B_X5_isStyle_0  (Q : Int32 → Prop)  (v0 : Int32)  : Prop := ((v0 < 0 → (B_X5_isStyle_13  Q  )) ∧ (¬ v0 < 0 → (((4 : Int32) ≤ v0 → (B_X5_isStyle_13  Q  )) ∧ (¬ (4 : Int32) ≤ v0 → (B_X5_isStyle_14  Q  (1 : Int32))))))
def F_X5_isStyle (v0 : Int32)   (Q : Int32 → Prop) : Prop := B_X5_isStyle_0 Q  v0 
set_option maxHeartbeats 4000000 in
set_option maxRecDepth 100000 in
theorem t_B_X5_isStyle_14  {Q : Int32 → Prop} (C : CxX p s m args c D (tysX cA) RX5 cX5_isStyle 1 wsX5_isStyle) (hrt9 : meth.sig.returnType = (some .boolean)) (hlk : meth.locks = false) (s0 : Int32)   (h : B_X5_isStyle_14  Q  s0) : GoX p l e rmX5_isStyle s m args below meth c D A 1 0 0 (QP_X5_isStyle D A ad cA tl tx mn sd e0 e1 e2 e3 e4 e5 e6 e7 e8 e9 e10 fr hd nw kp pt hr lr Q below args s) 14 [] [.int s0] (WX ad cA tl tx mn sd e0 e1 e2 e3 e4 e5 e6 e7 e8 e9 e10 fr hd nw kp pt hr lr) := by
  replace h : (isBo s0 ∧ (Q s0)) := h
  exact g_zret C hrt9 hlk h.1.n (u := ()) rfl h.2 dX5_isStyle_14
set_option maxHeartbeats 4000000 in
set_option maxRecDepth 100000 in
theorem t_B_X5_isStyle_13  {Q : Int32 → Prop} (C : CxX p s m args c D (tysX cA) RX5 cX5_isStyle 1 wsX5_isStyle) (hrt9 : meth.sig.returnType = (some .boolean)) (hlk : meth.locks = false)    (h : B_X5_isStyle_13  Q  ) : GoX p l e rmX5_isStyle s m args below meth c D A 1 0 0 (QP_X5_isStyle D A ad cA tl tx mn sd e0 e1 e2 e3 e4 e5 e6 e7 e8 e9 e10 fr hd nw kp pt hr lr Q below args s) 13 [] [] (WX ad cA tl tx mn sd e0 e1 e2 e3 e4 e5 e6 e7 e8 e9 e10 fr hd nw kp pt hr lr) := by
  replace h : (B_X5_isStyle_14  Q  (0 : Int32)) := h
  refine g_iconst C (0 : Int32) dX5_isStyle_13 (by decide) ?_
  exact g_sub [] rfl (t_B_X5_isStyle_14 C hrt9 hlk  (0 : Int32)  h)
set_option maxHeartbeats 4000000 in
set_option maxRecDepth 100000 in
theorem t_B_X5_isStyle_0  {Q : Int32 → Prop} (C : CxX p s m args c D (tysX cA) RX5 cX5_isStyle 1 wsX5_isStyle) (hrt9 : meth.sig.returnType = (some .boolean)) (hlk : meth.locks = false) (v0 : Int32)   (h : B_X5_isStyle_0  Q  v0) : GoX p l e rmX5_isStyle s m args below meth c D A 1 0 0 (QP_X5_isStyle D A ad cA tl tx mn sd e0 e1 e2 e3 e4 e5 e6 e7 e8 e9 e10 fr hd nw kp pt hr lr Q below args s) 0 [(0, .int v0)] [] (WX ad cA tl tx mn sd e0 e1 e2 e3 e4 e5 e6 e7 e8 e9 e10 fr hd nw kp pt hr lr) := by
  replace h : ((v0 < 0 → (B_X5_isStyle_13  Q  )) ∧ (¬ v0 < 0 → (((4 : Int32) ≤ v0 → (B_X5_isStyle_13  Q  )) ∧ (¬ (4 : Int32) ≤ v0 → (B_X5_isStyle_14  Q  (1 : Int32)))))) := h
  refine g_iload_n C 0 dX5_isStyle_0 rfl rfl ?_
  refine g_if_lt C 13 dX5_isStyle_1 (by decide) (fun c_1 => ?_) (fun c_1 => ?_)
  · replace h := h.1 c_1
    exact g_sub [] rfl (t_B_X5_isStyle_13 C hrt9 hlk    h)
  · replace h := h.2 c_1
    refine g_iload_n C 0 dX5_isStyle_4 rfl rfl ?_
    refine g_iconst C (4 : Int32) dX5_isStyle_5 (by decide) ?_
    refine g_icmp_ge C 13 dX5_isStyle_6 (by decide) (fun c_2 => ?_) (fun c_2 => ?_)
    · replace h := h.1 c_2
      exact g_sub [] rfl (t_B_X5_isStyle_13 C hrt9 hlk    h)
    · replace h := h.2 c_2
      refine g_iconst C (1 : Int32) dX5_isStyle_9 (by decide) ?_
      refine g_goto C 14 dX5_isStyle_10 (by decide) ?_
      exact g_sub [] rfl (t_B_X5_isStyle_14 C hrt9 hlk  (1 : Int32)  h)
theorem c_X5_isStyle (l : Launch) (D : va_G) (A : Nat → Prop) (ad : Nat → Nat) (cA : Nat → ClassId) (v0 : Int32) {tl : Int32} {tx : (Nat → Int32)} {mn : Int32} {sd : (Nat → Int64)} {e0 : Int32} {e1 : Int32} {e2 : Int32} {e3 : Int32} {e4 : Int32} {e5 : Int32} {e6 : Int32} {e7 : Int32} {e8 : Int32} {e9 : Int32} {e10 : Int32} {fr : Int32} {hd : Int32} {nw : (Nat → Int32)} {kp : (Nat → Int32)} {pt : (Nat → Int32)} {hr : (Nat → Nat → Int32)} {lr : (Nat → Nat → Int32)}  (Q : Int32 → Prop) (h : F_X5_isStyle v0 Q) : Met l yX5_isStyle wsX5_isStyle rmX5_isStyle (va_Pc [.int v0] (OKX D (tysX cA) (WX ad cA tl tx mn sd e0 e1 e2 e3 e4 e5 e6 e7 e8 e9 e10 fr hd nw kp pt hr lr) A)) (QC_X5_isStyle D A ad cA tl tx mn sd e0 e1 e2 e3 e4 e5 e6 e7 e8 e9 e10 fr hd nw kp pt hr lr Q) 0 0 A :=
  g_met (own := RX5) (by decide) rfl rfl (Nat.le_of_ble_eq_true rfl) (fun p e s m below meth c C hrt9 hlk _ => g_sub [0] rfl (t_B_X5_isStyle_0 C hrt9 hlk v0   h))
theorem k_X5_isStyle {ws : List Cond} {own : String} {cc : ByteArray} {nL pc index kc ks : Nat} {lv : List (Nat × Value)} {st : List Value} {Q : State → Prop} {R : Room} {K : Int32 → Prop} {v0 : Int32} (C : CxX p s m args c D (tysX cA) own cc nL ws) (hT : GoodIn ws (va_wsS own index yX5_isStyle wsX5_isStyle)) (hR : rmX5_isStyle.frames + 1 ≤ R.frames ∧ 8 + (1 + 11) + rmX5_isStyle.locals ≤ R.locals) (hk9 : kc ≤ R.cells ∧ ks ≤ R.slots) (hcat : (st.map fun v => v.category).sum ≤ 8) (hdg : decode cc pc = .ok (.invokestatic index, 3))  (h : F_X5_isStyle v0 K) (kk : ∀ (r : Int32) , K r → GoX p l e R s m args below meth c D A nL kc ks Q (pc + 3) lv (.int r :: st) (WX ad cA tl tx mn sd e0 e1 e2 e3 e4 e5 e6 e7 e8 e9 e10 fr hd nw kp pt hr lr)) : GoX p l e R s m args below meth c D A nL kc ks Q pc lv (.int v0 :: st) (WX ad cA tl tx mn sd e0 e1 e2 e3 e4 e5 e6 e7 e8 e9 e10 fr hd nw kp pt hr lr) :=
  g_callSi C (As := [.int v0]) 1 (c_X5_isStyle l D A ad cA v0  K h) hT rfl rfl rfl (by decide +kernel) hR hk9 rfl rfl hcat hdg (fun r u hu => kk r  hu)
/-! X5_isNumber -/
abbrev rmX5_isNumber : Room := { frames := 0, cells := 0, slots := 0, locals := 0 }
abbrev QC_X5_isNumber (D : va_G) (A : Nat → Prop) (ad : Nat → Nat) (cA : Nat → ClassId) (tl : Int32) (tx : (Nat → Int32)) (mn : Int32) (sd : (Nat → Int64)) (e0 : Int32) (e1 : Int32) (e2 : Int32) (e3 : Int32) (e4 : Int32) (e5 : Int32) (e6 : Int32) (e7 : Int32) (e8 : Int32) (e9 : Int32) (e10 : Int32) (fr : Int32) (hd : Int32) (nw : (Nat → Int32)) (kp : (Nat → Int32)) (pt : (Nat → Int32)) (hr : (Nat → Nat → Int32)) (lr : (Nat → Nat → Int32)) (Q : Int32 → Prop) : Array Value → State → Outcome → State → Prop := va_Qi (fun (r : Int32) (u : Unit) => Q r ) (fun u t => OKX D (tysX cA) ((fun u : Unit => WX ad cA tl tx mn sd e0 e1 e2 e3 e4 e5 e6 e7 e8 e9 e10 fr hd nw kp pt hr lr) u) A t) A
abbrev QP_X5_isNumber (D : va_G) (A : Nat → Prop) (ad : Nat → Nat) (cA : Nat → ClassId) (tl : Int32) (tx : (Nat → Int32)) (mn : Int32) (sd : (Nat → Int64)) (e0 : Int32) (e1 : Int32) (e2 : Int32) (e3 : Int32) (e4 : Int32) (e5 : Int32) (e6 : Int32) (e7 : Int32) (e8 : Int32) (e9 : Int32) (e10 : Int32) (fr : Int32) (hd : Int32) (nw : (Nat → Int32)) (kp : (Nat → Int32)) (pt : (Nat → Int32)) (hr : (Nat → Nat → Int32)) (lr : (Nat → Nat → Int32)) (Q : Int32 → Prop) (below : List Frame) (args : Array Value) (s : State) : State → Prop := MQ below (QC_X5_isNumber D A ad cA tl tx mn sd e0 e1 e2 e3 e4 e5 e6 e7 e8 e9 e10 fr hd nw kp pt hr lr Q) args s 0 0 A
def B_X5_isNumber_17  (Q : Int32 → Prop)  (s0 : Int32)  : Prop := (isBo s0 ∧ (Q s0))
def B_X5_isNumber_16  (Q : Int32 → Prop)    : Prop := (B_X5_isNumber_17  Q  (0 : Int32))
def B_X5_isNumber_0  (Q : Int32 → Prop)  (v0 : Int32)  : Prop := ((v0 < (1 : Int32) → (B_X5_isNumber_16  Q  )) ∧ (¬ v0 < (1 : Int32) → (((7999 : Int32) < v0 → (B_X5_isNumber_16  Q  )) ∧ (¬ (7999 : Int32) < v0 → (B_X5_isNumber_17  Q  (1 : Int32))))))
def F_X5_isNumber (v0 : Int32)   (Q : Int32 → Prop) : Prop := B_X5_isNumber_0 Q  v0 
set_option maxHeartbeats 4000000 in
set_option maxRecDepth 100000 in
theorem t_B_X5_isNumber_17  {Q : Int32 → Prop} (C : CxX p s m args c D (tysX cA) RX5 cX5_isNumber 1 wsX5_isNumber) (hrt9 : meth.sig.returnType = (some .boolean)) (hlk : meth.locks = false) (s0 : Int32)   (h : B_X5_isNumber_17  Q  s0) : GoX p l e rmX5_isNumber s m args below meth c D A 1 0 0 (QP_X5_isNumber D A ad cA tl tx mn sd e0 e1 e2 e3 e4 e5 e6 e7 e8 e9 e10 fr hd nw kp pt hr lr Q below args s) 17 [] [.int s0] (WX ad cA tl tx mn sd e0 e1 e2 e3 e4 e5 e6 e7 e8 e9 e10 fr hd nw kp pt hr lr) := by
  replace h : (isBo s0 ∧ (Q s0)) := h
  exact g_zret C hrt9 hlk h.1.n (u := ()) rfl h.2 dX5_isNumber_17
set_option maxHeartbeats 4000000 in
set_option maxRecDepth 100000 in
theorem t_B_X5_isNumber_16  {Q : Int32 → Prop} (C : CxX p s m args c D (tysX cA) RX5 cX5_isNumber 1 wsX5_isNumber) (hrt9 : meth.sig.returnType = (some .boolean)) (hlk : meth.locks = false)    (h : B_X5_isNumber_16  Q  ) : GoX p l e rmX5_isNumber s m args below meth c D A 1 0 0 (QP_X5_isNumber D A ad cA tl tx mn sd e0 e1 e2 e3 e4 e5 e6 e7 e8 e9 e10 fr hd nw kp pt hr lr Q below args s) 16 [] [] (WX ad cA tl tx mn sd e0 e1 e2 e3 e4 e5 e6 e7 e8 e9 e10 fr hd nw kp pt hr lr) := by
  replace h : (B_X5_isNumber_17  Q  (0 : Int32)) := h
  refine g_iconst C (0 : Int32) dX5_isNumber_16 (by decide) ?_
  exact g_sub [] rfl (t_B_X5_isNumber_17 C hrt9 hlk  (0 : Int32)  h)
set_option maxHeartbeats 4000000 in
set_option maxRecDepth 100000 in
theorem t_B_X5_isNumber_0  {Q : Int32 → Prop} (C : CxX p s m args c D (tysX cA) RX5 cX5_isNumber 1 wsX5_isNumber) (hrt9 : meth.sig.returnType = (some .boolean)) (hlk : meth.locks = false) (v0 : Int32)   (h : B_X5_isNumber_0  Q  v0) : GoX p l e rmX5_isNumber s m args below meth c D A 1 0 0 (QP_X5_isNumber D A ad cA tl tx mn sd e0 e1 e2 e3 e4 e5 e6 e7 e8 e9 e10 fr hd nw kp pt hr lr Q below args s) 0 [(0, .int v0)] [] (WX ad cA tl tx mn sd e0 e1 e2 e3 e4 e5 e6 e7 e8 e9 e10 fr hd nw kp pt hr lr) := by
  replace h : ((v0 < (1 : Int32) → (B_X5_isNumber_16  Q  )) ∧ (¬ v0 < (1 : Int32) → (((7999 : Int32) < v0 → (B_X5_isNumber_16  Q  )) ∧ (¬ (7999 : Int32) < v0 → (B_X5_isNumber_17  Q  (1 : Int32)))))) := h
  refine g_iload_n C 0 dX5_isNumber_0 rfl rfl ?_
  refine g_iconst C (1 : Int32) dX5_isNumber_1 (by decide) ?_
  refine g_icmp_lt C 16 dX5_isNumber_2 (by decide) (fun c_1 => ?_) (fun c_1 => ?_)
  · replace h := h.1 c_1
    exact g_sub [] rfl (t_B_X5_isNumber_16 C hrt9 hlk    h)
  · replace h := h.2 c_1
    refine g_iload_n C 0 dX5_isNumber_5 rfl rfl ?_
    refine g_sipush C (7999 : Int32) dX5_isNumber_6 (by decide) ?_
    refine g_icmp_gt C 16 dX5_isNumber_9 (by decide) (fun c_2 => ?_) (fun c_2 => ?_)
    · replace h := h.1 c_2
      exact g_sub [] rfl (t_B_X5_isNumber_16 C hrt9 hlk    h)
    · replace h := h.2 c_2
      refine g_iconst C (1 : Int32) dX5_isNumber_12 (by decide) ?_
      refine g_goto C 17 dX5_isNumber_13 (by decide) ?_
      exact g_sub [] rfl (t_B_X5_isNumber_17 C hrt9 hlk  (1 : Int32)  h)
theorem c_X5_isNumber (l : Launch) (D : va_G) (A : Nat → Prop) (ad : Nat → Nat) (cA : Nat → ClassId) (v0 : Int32) {tl : Int32} {tx : (Nat → Int32)} {mn : Int32} {sd : (Nat → Int64)} {e0 : Int32} {e1 : Int32} {e2 : Int32} {e3 : Int32} {e4 : Int32} {e5 : Int32} {e6 : Int32} {e7 : Int32} {e8 : Int32} {e9 : Int32} {e10 : Int32} {fr : Int32} {hd : Int32} {nw : (Nat → Int32)} {kp : (Nat → Int32)} {pt : (Nat → Int32)} {hr : (Nat → Nat → Int32)} {lr : (Nat → Nat → Int32)}  (Q : Int32 → Prop) (h : F_X5_isNumber v0 Q) : Met l yX5_isNumber wsX5_isNumber rmX5_isNumber (va_Pc [.int v0] (OKX D (tysX cA) (WX ad cA tl tx mn sd e0 e1 e2 e3 e4 e5 e6 e7 e8 e9 e10 fr hd nw kp pt hr lr) A)) (QC_X5_isNumber D A ad cA tl tx mn sd e0 e1 e2 e3 e4 e5 e6 e7 e8 e9 e10 fr hd nw kp pt hr lr Q) 0 0 A :=
  g_met (own := RX5) (by decide) rfl rfl (Nat.le_of_ble_eq_true rfl) (fun p e s m below meth c C hrt9 hlk _ => g_sub [0] rfl (t_B_X5_isNumber_0 C hrt9 hlk v0   h))
theorem k_X5_isNumber {ws : List Cond} {own : String} {cc : ByteArray} {nL pc index kc ks : Nat} {lv : List (Nat × Value)} {st : List Value} {Q : State → Prop} {R : Room} {K : Int32 → Prop} {v0 : Int32} (C : CxX p s m args c D (tysX cA) own cc nL ws) (hT : GoodIn ws (va_wsS own index yX5_isNumber wsX5_isNumber)) (hR : rmX5_isNumber.frames + 1 ≤ R.frames ∧ 8 + (1 + 11) + rmX5_isNumber.locals ≤ R.locals) (hk9 : kc ≤ R.cells ∧ ks ≤ R.slots) (hcat : (st.map fun v => v.category).sum ≤ 8) (hdg : decode cc pc = .ok (.invokestatic index, 3))  (h : F_X5_isNumber v0 K) (kk : ∀ (r : Int32) , K r → GoX p l e R s m args below meth c D A nL kc ks Q (pc + 3) lv (.int r :: st) (WX ad cA tl tx mn sd e0 e1 e2 e3 e4 e5 e6 e7 e8 e9 e10 fr hd nw kp pt hr lr)) : GoX p l e R s m args below meth c D A nL kc ks Q pc lv (.int v0 :: st) (WX ad cA tl tx mn sd e0 e1 e2 e3 e4 e5 e6 e7 e8 e9 e10 fr hd nw kp pt hr lr) :=
  g_callSi C (As := [.int v0]) 1 (c_X5_isNumber l D A ad cA v0  K h) hT rfl rfl rfl (by decide +kernel) hR hk9 rfl rfl hcat hdg (fun r u hu => kk r  hu)
/-! X5_orNone -/
abbrev rmX5_orNone : Room := { frames := 0, cells := 0, slots := 0, locals := 0 }
abbrev QC_X5_orNone (D : va_G) (A : Nat → Prop) (ad : Nat → Nat) (cA : Nat → ClassId) (tl : Int32) (tx : (Nat → Int32)) (mn : Int32) (sd : (Nat → Int64)) (e0 : Int32) (e1 : Int32) (e2 : Int32) (e3 : Int32) (e4 : Int32) (e5 : Int32) (e6 : Int32) (e7 : Int32) (e8 : Int32) (e9 : Int32) (e10 : Int32) (fr : Int32) (hd : Int32) (nw : (Nat → Int32)) (kp : (Nat → Int32)) (pt : (Nat → Int32)) (hr : (Nat → Nat → Int32)) (lr : (Nat → Nat → Int32)) (Q : Int32 → Prop) : Array Value → State → Outcome → State → Prop := va_Qi (fun (r : Int32) (u : Unit) => Q r ) (fun u t => OKX D (tysX cA) ((fun u : Unit => WX ad cA tl tx mn sd e0 e1 e2 e3 e4 e5 e6 e7 e8 e9 e10 fr hd nw kp pt hr lr) u) A t) A
abbrev QP_X5_orNone (D : va_G) (A : Nat → Prop) (ad : Nat → Nat) (cA : Nat → ClassId) (tl : Int32) (tx : (Nat → Int32)) (mn : Int32) (sd : (Nat → Int64)) (e0 : Int32) (e1 : Int32) (e2 : Int32) (e3 : Int32) (e4 : Int32) (e5 : Int32) (e6 : Int32) (e7 : Int32) (e8 : Int32) (e9 : Int32) (e10 : Int32) (fr : Int32) (hd : Int32) (nw : (Nat → Int32)) (kp : (Nat → Int32)) (pt : (Nat → Int32)) (hr : (Nat → Nat → Int32)) (lr : (Nat → Nat → Int32)) (Q : Int32 → Prop) (below : List Frame) (args : Array Value) (s : State) : State → Prop := MQ below (QC_X5_orNone D A ad cA tl tx mn sd e0 e1 e2 e3 e4 e5 e6 e7 e8 e9 e10 fr hd nw kp pt hr lr Q) args s 0 0 A
def B_X5_orNone_10  (Q : Int32 → Prop)  (s0 : Int32)  : Prop := (Q s0)
def B_X5_orNone_0  (Q : Int32 → Prop)  (v0 : Int32)  : Prop := ((v0 = 0 → (B_X5_orNone_10  Q  (-5 : Int32))) ∧ (¬ v0 = 0 → (B_X5_orNone_10  Q  v0)))
def F_X5_orNone (v0 : Int32)   (Q : Int32 → Prop) : Prop := B_X5_orNone_0 Q  v0 
set_option maxHeartbeats 4000000 in
set_option maxRecDepth 100000 in
theorem t_B_X5_orNone_10  {Q : Int32 → Prop} (C : CxX p s m args c D (tysX cA) RX5 cX5_orNone 1 wsX5_orNone) (hrt9 : meth.sig.returnType = (some .int)) (hlk : meth.locks = false) (s0 : Int32)   (h : B_X5_orNone_10  Q  s0) : GoX p l e rmX5_orNone s m args below meth c D A 1 0 0 (QP_X5_orNone D A ad cA tl tx mn sd e0 e1 e2 e3 e4 e5 e6 e7 e8 e9 e10 fr hd nw kp pt hr lr Q below args s) 10 [] [.int s0] (WX ad cA tl tx mn sd e0 e1 e2 e3 e4 e5 e6 e7 e8 e9 e10 fr hd nw kp pt hr lr) := by
  replace h : (Q s0) := h
  exact g_iret C hrt9 hlk (u := ()) rfl h dX5_orNone_10
set_option maxHeartbeats 4000000 in
set_option maxRecDepth 100000 in
theorem t_B_X5_orNone_0  {Q : Int32 → Prop} (C : CxX p s m args c D (tysX cA) RX5 cX5_orNone 1 wsX5_orNone) (hrt9 : meth.sig.returnType = (some .int)) (hlk : meth.locks = false) (v0 : Int32)   (h : B_X5_orNone_0  Q  v0) : GoX p l e rmX5_orNone s m args below meth c D A 1 0 0 (QP_X5_orNone D A ad cA tl tx mn sd e0 e1 e2 e3 e4 e5 e6 e7 e8 e9 e10 fr hd nw kp pt hr lr Q below args s) 0 [(0, .int v0)] [] (WX ad cA tl tx mn sd e0 e1 e2 e3 e4 e5 e6 e7 e8 e9 e10 fr hd nw kp pt hr lr) := by
  replace h : ((v0 = 0 → (B_X5_orNone_10  Q  (-5 : Int32))) ∧ (¬ v0 = 0 → (B_X5_orNone_10  Q  v0))) := h
  refine g_iload_n C 0 dX5_orNone_0 rfl rfl ?_
  refine g_if_ne C 9 dX5_orNone_1 (by decide) (fun c_1 => ?_) (fun c_1 => ?_)
  · replace h := h.2 c_1
    refine g_iload_n C 0 dX5_orNone_9 rfl rfl ?_
    exact g_sub [] rfl (t_B_X5_orNone_10 C hrt9 hlk  v0  h)
  · replace h := h.1 c_1
    refine g_bipush C (-5 : Int32) dX5_orNone_4 (by decide) ?_
    refine g_goto C 10 dX5_orNone_6 (by decide) ?_
    exact g_sub [] rfl (t_B_X5_orNone_10 C hrt9 hlk  (-5 : Int32)  h)
theorem c_X5_orNone (l : Launch) (D : va_G) (A : Nat → Prop) (ad : Nat → Nat) (cA : Nat → ClassId) (v0 : Int32) {tl : Int32} {tx : (Nat → Int32)} {mn : Int32} {sd : (Nat → Int64)} {e0 : Int32} {e1 : Int32} {e2 : Int32} {e3 : Int32} {e4 : Int32} {e5 : Int32} {e6 : Int32} {e7 : Int32} {e8 : Int32} {e9 : Int32} {e10 : Int32} {fr : Int32} {hd : Int32} {nw : (Nat → Int32)} {kp : (Nat → Int32)} {pt : (Nat → Int32)} {hr : (Nat → Nat → Int32)} {lr : (Nat → Nat → Int32)}  (Q : Int32 → Prop) (h : F_X5_orNone v0 Q) : Met l yX5_orNone wsX5_orNone rmX5_orNone (va_Pc [.int v0] (OKX D (tysX cA) (WX ad cA tl tx mn sd e0 e1 e2 e3 e4 e5 e6 e7 e8 e9 e10 fr hd nw kp pt hr lr) A)) (QC_X5_orNone D A ad cA tl tx mn sd e0 e1 e2 e3 e4 e5 e6 e7 e8 e9 e10 fr hd nw kp pt hr lr Q) 0 0 A :=
  g_met (own := RX5) (by decide) rfl rfl (Nat.le_of_ble_eq_true rfl) (fun p e s m below meth c C hrt9 hlk _ => g_sub [0] rfl (t_B_X5_orNone_0 C hrt9 hlk v0   h))
theorem k_X5_orNone {ws : List Cond} {own : String} {cc : ByteArray} {nL pc index kc ks : Nat} {lv : List (Nat × Value)} {st : List Value} {Q : State → Prop} {R : Room} {K : Int32 → Prop} {v0 : Int32} (C : CxX p s m args c D (tysX cA) own cc nL ws) (hT : GoodIn ws (va_wsS own index yX5_orNone wsX5_orNone)) (hR : rmX5_orNone.frames + 1 ≤ R.frames ∧ 8 + (1 + 11) + rmX5_orNone.locals ≤ R.locals) (hk9 : kc ≤ R.cells ∧ ks ≤ R.slots) (hcat : (st.map fun v => v.category).sum ≤ 8) (hdg : decode cc pc = .ok (.invokestatic index, 3))  (h : F_X5_orNone v0 K) (kk : ∀ (r : Int32) , K r → GoX p l e R s m args below meth c D A nL kc ks Q (pc + 3) lv (.int r :: st) (WX ad cA tl tx mn sd e0 e1 e2 e3 e4 e5 e6 e7 e8 e9 e10 fr hd nw kp pt hr lr)) : GoX p l e R s m args below meth c D A nL kc ks Q pc lv (.int v0 :: st) (WX ad cA tl tx mn sd e0 e1 e2 e3 e4 e5 e6 e7 e8 e9 e10 fr hd nw kp pt hr lr) :=
  g_callSi C (As := [.int v0]) 1 (c_X5_orNone l D A ad cA v0  K h) hT rfl rfl rfl (by decide +kernel) hR hk9 rfl rfl hcat hdg (fun r u hu => kk r  hu)
/-! X5_packedText -/
abbrev rmX5_packedText : Room := { frames := 1, cells := 0, slots := 0, locals := 22 }
abbrev QC_X5_packedText (D : va_G) (A : Nat → Prop) (ad : Nat → Nat) (cA : Nat → ClassId) (tl : Int32) (tx : (Nat → Int32)) (mn : Int32) (sd : (Nat → Int64)) (e0 : Int32) (e1 : Int32) (e2 : Int32) (e3 : Int32) (e4 : Int32) (e5 : Int32) (e6 : Int32) (e7 : Int32) (e8 : Int32) (e9 : Int32) (e10 : Int32) (fr : Int32) (hd : Int32) (nw : (Nat → Int32)) (kp : (Nat → Int32)) (pt : (Nat → Int32)) (hr : (Nat → Nat → Int32)) (lr : (Nat → Nat → Int32)) (Q : Int64 → Prop) : Array Value → State → Outcome → State → Prop := va_Ql (fun (r : Int64) (u : Unit) => Q r ) (fun u t => OKX D (tysX cA) ((fun u : Unit => WX ad cA tl tx mn sd e0 e1 e2 e3 e4 e5 e6 e7 e8 e9 e10 fr hd nw kp pt hr lr) u) A t) A
abbrev QP_X5_packedText (D : va_G) (A : Nat → Prop) (ad : Nat → Nat) (cA : Nat → ClassId) (tl : Int32) (tx : (Nat → Int32)) (mn : Int32) (sd : (Nat → Int64)) (e0 : Int32) (e1 : Int32) (e2 : Int32) (e3 : Int32) (e4 : Int32) (e5 : Int32) (e6 : Int32) (e7 : Int32) (e8 : Int32) (e9 : Int32) (e10 : Int32) (fr : Int32) (hd : Int32) (nw : (Nat → Int32)) (kp : (Nat → Int32)) (pt : (Nat → Int32)) (hr : (Nat → Nat → Int32)) (lr : (Nat → Nat → Int32)) (Q : Int64 → Prop) (below : List Frame) (args : Array Value) (s : State) : State → Prop := MQ below (QC_X5_packedText D A ad cA tl tx mn sd e0 e1 e2 e3 e4 e5 e6 e7 e8 e9 e10 fr hd nw kp pt hr lr Q) args s 0 0 A
def B_X5_packedText_35  (Q : Int64 → Prop) (tl : Int32) (tx : (Nat → Int32)) (v1 : Int64)  : Prop := (Q v1)
noncomputable def L_X5_packedText_4  (Q : Int64 → Prop) (tl : Int32) (tx : (Nat → Int32)) (n9 : Nat) : Int64 → Int32 → Prop := Nat.rec (motive := fun _ => Int64 → Int32 → Prop) (fun _ _ => False) (fun _ kh4 => fun v1 v3 => ((tl ≤ v3 → (B_X5_packedText_35  Q tl tx v1)) ∧ (¬ tl ≤ v3 → (((20 : Int32) ≤ v3 → (B_X5_packedText_35  Q tl tx v1)) ∧ (¬ (20 : Int32) ≤ v3 → (vp_in v3 20 ∧ (F_X2_then v1 (tx v3.toNatClampNeg) (fun r_3 => (kh4 r_3 (v3 + (1 : Int32))))))))))) n9
def B_X5_packedText_0  (Q : Int64 → Prop) (tl : Int32) (tx : (Nat → Int32))   : Prop := (∃ n9 : Nat, L_X5_packedText_4  Q tl tx n9 (0 : Int64) (0 : Int32))
def F_X5_packedText  (tl : Int32) (tx : (Nat → Int32))  (Q : Int64 → Prop) : Prop := B_X5_packedText_0 Q tl tx  
theorem lkX5_packedText_23 : Cond.fieldLink RX5 23 (TX5 2).1 (TX5 2).2.1 (TX5 2).2.2.1 ∈ wsX5_packedText := by decide +kernel
theorem lkX5_packedText_27 : Cond.fieldLink RX5 27 (TX5 3).1 (TX5 3).2.1 (TX5 3).2.2.1 ∈ wsX5_packedText := by decide +kernel
theorem inX5_packedText_5 : ∀ q ∈ u_ws RX5 TX5 6, q ∈ wsX5_packedText := by decide +kernel
set_option maxHeartbeats 4000000 in
set_option maxRecDepth 100000 in
theorem t_B_X5_packedText_35  {Q : Int64 → Prop} (C : CxX p s m args c D (tysX cA) RX5 cX5_packedText 4 wsX5_packedText) (hrt9 : meth.sig.returnType = (some .long)) (hlk : meth.locks = false) (v1 : Int64)   (h : B_X5_packedText_35  Q tl tx v1) : GoX p l e rmX5_packedText s m args below meth c D A 4 0 0 (QP_X5_packedText D A ad cA tl tx mn sd e0 e1 e2 e3 e4 e5 e6 e7 e8 e9 e10 fr hd nw kp pt hr lr Q below args s) 35 [(1, .long v1)] [] (WX ad cA tl tx mn sd e0 e1 e2 e3 e4 e5 e6 e7 e8 e9 e10 fr hd nw kp pt hr lr) := by
  replace h : (Q v1) := h
  refine g_lload_n C 0 dX5_packedText_35 rfl rfl ?_
  exact g_lret C hrt9 hlk (u := ()) rfl h dX5_packedText_36
set_option maxHeartbeats 4000000 in
set_option maxRecDepth 100000 in
theorem t_L_X5_packedText_4  {Q : Int64 → Prop} (C : CxX p s m args c D (tysX cA) RX5 cX5_packedText 4 wsX5_packedText) (hrt9 : meth.sig.returnType = (some .long)) (hlk : meth.locks = false) (m9 : Nat) : ∀ (v1 : Int64) (v3 : Int32)  , L_X5_packedText_4  Q tl tx m9 v1 v3 → GoX p l e rmX5_packedText s m args below meth c D A 4 0 0 (QP_X5_packedText D A ad cA tl tx mn sd e0 e1 e2 e3 e4 e5 e6 e7 e8 e9 e10 fr hd nw kp pt hr lr Q below args s) 4 [(0, .ref (ad 0)), (1, .long v1), (3, .int v3)] [] (WX ad cA tl tx mn sd e0 e1 e2 e3 e4 e5 e6 e7 e8 e9 e10 fr hd nw kp pt hr lr) := by
  induction m9 with
  | zero =>
    intro v1 v3 h
    exact False.elim h
  | succ m9 Hk4 =>
    intro v1 v3 h
    replace h : ((tl ≤ v3 → (B_X5_packedText_35  Q tl tx v1)) ∧ (¬ tl ≤ v3 → (((20 : Int32) ≤ v3 → (B_X5_packedText_35  Q tl tx v1)) ∧ (¬ (20 : Int32) ≤ v3 → (vp_in v3 20 ∧ (F_X2_then v1 (tx v3.toNatClampNeg) (fun r_3 => ((L_X5_packedText_4  Q tl tx m9) r_3 (v3 + (1 : Int32)))))))))) := h
    refine g_iload_n C 2 dX5_packedText_4 rfl rfl ?_
    refine g_aload_n C 0 dX5_packedText_5 rfl rfl ?_
    refine g_get C inX5_packedText_5 0 WXg0 rfl 3 (by decide) lkX5_packedText_27 rfl dX5_packedText_6 ?_
    refine g_icmp_ge C 35 dX5_packedText_9 (by decide) (fun c_1 => ?_) (fun c_1 => ?_)
    · replace h := h.1 c_1
      exact g_sub [1] rfl (t_B_X5_packedText_35 C hrt9 hlk  v1  h)
    · replace h := h.2 c_1
      refine g_iload_n C 2 dX5_packedText_12 rfl rfl ?_
      refine g_bipush C (20 : Int32) dX5_packedText_13 (by decide) ?_
      refine g_icmp_ge C 35 dX5_packedText_15 (by decide) (fun c_2 => ?_) (fun c_2 => ?_)
      · replace h := h.1 c_2
        exact g_sub [1] rfl (t_B_X5_packedText_35 C hrt9 hlk  v1  h)
      · replace h := h.2 c_2
        refine g_lload_n C 1 dX5_packedText_18 rfl rfl ?_
        refine g_aload_n C 0 dX5_packedText_19 rfl rfl ?_
        refine g_get C inX5_packedText_5 0 WXg0 rfl 2 (by decide) lkX5_packedText_23 rfl dX5_packedText_20 ?_
        refine g_iload_n C 2 dX5_packedText_23 rfl rfl ?_
        refine g_cald C 1 0 WXg1 rfl h.1 dX5_packedText_24 ?_
        replace h := h.2
        refine k_X2_then C gX5_packedText_X2_then ⟨Nat.le_of_ble_eq_true rfl, Nat.le_of_ble_eq_true rfl⟩ ⟨Nat.zero_le _, Nat.zero_le _⟩ (Nat.le_of_ble_eq_true rfl) dX5_packedText_25  h (fun r_3 h => ?_)
        refine g_lstore_n C (lv2 := [(1, .long r_3), (0, .ref (ad 0)), (3, .int v3)]) dX5_packedText_28 rfl (by decide) rfl ?_
        refine g_iinc C (v := (v3 + (1 : Int32))) (lv2 := [(3, .int (v3 + (1 : Int32))), (1, .long r_3), (0, .ref (ad 0))]) 2 dX5_packedText_29 rfl rfl (by decide) rfl ?_
        refine g_goto C 4 dX5_packedText_32 (by decide) ?_
        exact g_sub [2, 1, 0] rfl (Hk4 r_3 (v3 + (1 : Int32))  h)
set_option maxHeartbeats 4000000 in
set_option maxRecDepth 100000 in
theorem t_B_X5_packedText_0  {Q : Int64 → Prop} (C : CxX p s m args c D (tysX cA) RX5 cX5_packedText 4 wsX5_packedText) (hrt9 : meth.sig.returnType = (some .long)) (hlk : meth.locks = false)    (h : B_X5_packedText_0  Q tl tx ) : GoX p l e rmX5_packedText s m args below meth c D A 4 0 0 (QP_X5_packedText D A ad cA tl tx mn sd e0 e1 e2 e3 e4 e5 e6 e7 e8 e9 e10 fr hd nw kp pt hr lr Q below args s) 0 [(0, .ref (ad 0))] [] (WX ad cA tl tx mn sd e0 e1 e2 e3 e4 e5 e6 e7 e8 e9 e10 fr hd nw kp pt hr lr) := by
  replace h : (∃ n9 : Nat, L_X5_packedText_4  Q tl tx n9 (0 : Int64) (0 : Int32)) := h
  refine g_lconst C (0 : Int64) dX5_packedText_0 (by decide) ?_
  refine g_lstore_n C (lv2 := [(1, .long (0 : Int64)), (0, .ref (ad 0))]) dX5_packedText_1 rfl (by decide) rfl ?_
  refine g_iconst C (0 : Int32) dX5_packedText_2 (by decide) ?_
  refine g_istore_n C (lv2 := [(3, .int (0 : Int32)), (1, .long (0 : Int64)), (0, .ref (ad 0))]) dX5_packedText_3 rfl (by decide) rfl ?_
  obtain ⟨n9, h⟩ := h
  exact g_sub [2, 1, 0] rfl (t_L_X5_packedText_4 C hrt9 hlk  n9 (0 : Int64) (0 : Int32)  h)
theorem c_X5_packedText (l : Launch) (D : va_G) (A : Nat → Prop) (ad : Nat → Nat) (cA : Nat → ClassId)  {tl : Int32} {tx : (Nat → Int32)} {mn : Int32} {sd : (Nat → Int64)} {e0 : Int32} {e1 : Int32} {e2 : Int32} {e3 : Int32} {e4 : Int32} {e5 : Int32} {e6 : Int32} {e7 : Int32} {e8 : Int32} {e9 : Int32} {e10 : Int32} {fr : Int32} {hd : Int32} {nw : (Nat → Int32)} {kp : (Nat → Int32)} {pt : (Nat → Int32)} {hr : (Nat → Nat → Int32)} {lr : (Nat → Nat → Int32)}  (Q : Int64 → Prop) (h : F_X5_packedText tl tx Q) : Met l yX5_packedText wsX5_packedText rmX5_packedText (va_Pc [.ref (ad 0)] (OKX D (tysX cA) (WX ad cA tl tx mn sd e0 e1 e2 e3 e4 e5 e6 e7 e8 e9 e10 fr hd nw kp pt hr lr) A)) (QC_X5_packedText D A ad cA tl tx mn sd e0 e1 e2 e3 e4 e5 e6 e7 e8 e9 e10 fr hd nw kp pt hr lr Q) 0 0 A :=
  g_met (own := RX5) (by decide) rfl rfl (Nat.le_of_ble_eq_true rfl) (fun p e s m below meth c C hrt9 hlk _ => g_sub [0] rfl (t_B_X5_packedText_0 C hrt9 hlk    h))
theorem k_X5_packedText {ws : List Cond} {own : String} {cc : ByteArray} {nL pc index kc ks : Nat} {lv : List (Nat × Value)} {st : List Value} {Q : State → Prop} {R : Room} {K : Int64 → Prop}  (C : CxX p s m args c D (tysX cA) own cc nL ws) (hT : GoodIn ws (wsV own index RX5 yX5_packedText wsX5_packedText)) (hR : rmX5_packedText.frames + 1 ≤ R.frames ∧ 8 + (4 + 11) + rmX5_packedText.locals ≤ R.locals) (hk9 : kc ≤ R.cells ∧ ks ≤ R.slots) (hcat : (st.map fun v => v.category).sum ≤ 8) (hdg : decode cc pc = .ok (.invokevirtual index, 3))  (h : F_X5_packedText tl tx K) (kk : ∀ (r : Int64) , K r → GoX p l e R s m args below meth c D A nL kc ks Q (pc + 3) lv (.long r :: st) (WX ad cA tl tx mn sd e0 e1 e2 e3 e4 e5 e6 e7 e8 e9 e10 fr hd nw kp pt hr lr)) : GoX p l e R s m args below meth c D A nL kc ks Q pc lv (.ref (ad 0) :: st) (WX ad cA tl tx mn sd e0 e1 e2 e3 e4 e5 e6 e7 e8 e9 e10 fr hd nw kp pt hr lr) :=
  g_callVl C (As := []) 0 (c_X5_packedText l D A ad cA   K h) hT rfl rfl rfl (by decide +kernel) hR hk9 0 WXg0 rfl rfl rfl hcat hdg (fun r u hu => kk r  hu)
/-! X5_wordCharacter -/
abbrev rmX5_wordCharacter : Room := { frames := 0, cells := 0, slots := 0, locals := 0 }
abbrev QC_X5_wordCharacter (D : va_G) (A : Nat → Prop) (ad : Nat → Nat) (cA : Nat → ClassId) (tl : Int32) (tx : (Nat → Int32)) (mn : Int32) (sd : (Nat → Int64)) (e0 : Int32) (e1 : Int32) (e2 : Int32) (e3 : Int32) (e4 : Int32) (e5 : Int32) (e6 : Int32) (e7 : Int32) (e8 : Int32) (e9 : Int32) (e10 : Int32) (fr : Int32) (hd : Int32) (nw : (Nat → Int32)) (kp : (Nat → Int32)) (pt : (Nat → Int32)) (hr : (Nat → Nat → Int32)) (lr : (Nat → Nat → Int32)) (Q : Int32 → Prop) : Array Value → State → Outcome → State → Prop := va_Qi (fun (r : Int32) (u : Unit) => Q r ) (fun u t => OKX D (tysX cA) ((fun u : Unit => WX ad cA tl tx mn sd e0 e1 e2 e3 e4 e5 e6 e7 e8 e9 e10 fr hd nw kp pt hr lr) u) A t) A
abbrev QP_X5_wordCharacter (D : va_G) (A : Nat → Prop) (ad : Nat → Nat) (cA : Nat → ClassId) (tl : Int32) (tx : (Nat → Int32)) (mn : Int32) (sd : (Nat → Int64)) (e0 : Int32) (e1 : Int32) (e2 : Int32) (e3 : Int32) (e4 : Int32) (e5 : Int32) (e6 : Int32) (e7 : Int32) (e8 : Int32) (e9 : Int32) (e10 : Int32) (fr : Int32) (hd : Int32) (nw : (Nat → Int32)) (kp : (Nat → Int32)) (pt : (Nat → Int32)) (hr : (Nat → Nat → Int32)) (lr : (Nat → Nat → Int32)) (Q : Int32 → Prop) (below : List Frame) (args : Array Value) (s : State) : State → Prop := MQ below (QC_X5_wordCharacter D A ad cA tl tx mn sd e0 e1 e2 e3 e4 e5 e6 e7 e8 e9 e10 fr hd nw kp pt hr lr Q) args s 0 0 A
def B_X5_wordCharacter_0  (Q : Int32 → Prop)  (v0 : Int32)  : Prop := ((v0 = (0 : Int32) → (Q (72 : Int32))) ∧ (¬ v0 = (0 : Int32) → ((v0 = (1 : Int32) → (Q (45 : Int32))) ∧ (¬ v0 = (1 : Int32) → (Q (71 : Int32))))))
def F_X5_wordCharacter (v0 : Int32)   (Q : Int32 → Prop) : Prop := B_X5_wordCharacter_0 Q  v0 
set_option maxHeartbeats 4000000 in
set_option maxRecDepth 100000 in
theorem t_B_X5_wordCharacter_0  {Q : Int32 → Prop} (C : CxX p s m args c D (tysX cA) RX5 cX5_wordCharacter 1 wsX5_wordCharacter) (hrt9 : meth.sig.returnType = (some .char)) (hlk : meth.locks = false) (v0 : Int32)   (h : B_X5_wordCharacter_0  Q  v0) : GoX p l e rmX5_wordCharacter s m args below meth c D A 1 0 0 (QP_X5_wordCharacter D A ad cA tl tx mn sd e0 e1 e2 e3 e4 e5 e6 e7 e8 e9 e10 fr hd nw kp pt hr lr Q below args s) 0 [(0, .int v0)] [] (WX ad cA tl tx mn sd e0 e1 e2 e3 e4 e5 e6 e7 e8 e9 e10 fr hd nw kp pt hr lr) := by
  replace h : ((v0 = (0 : Int32) → (Q (72 : Int32))) ∧ (¬ v0 = (0 : Int32) → ((v0 = (1 : Int32) → (Q (45 : Int32))) ∧ (¬ v0 = (1 : Int32) → (Q (71 : Int32)))))) := h
  refine g_iload_n C 0 dX5_wordCharacter_0 rfl rfl ?_
  by_cases c_1 : v0 = (0 : Int32)
  · refine g_lookup C (27) 28 dX5_wordCharacter_1 (by decide) (by rw [c_1]; decide) (by decide) ?_
    replace h := h.1 c_1
    refine g_bipush C (72 : Int32) dX5_wordCharacter_28 (by decide) ?_
    exact g_zret C hrt9 hlk (by decide) (u := ()) rfl h dX5_wordCharacter_30
  · replace h := h.2 c_1
    by_cases c_2 : v0 = (1 : Int32)
    · refine g_lookup C (30) 31 dX5_wordCharacter_1 (by decide) (by rw [c_2]; decide) (by decide) ?_
      replace h := h.1 c_2
      refine g_bipush C (45 : Int32) dX5_wordCharacter_31 (by decide) ?_
      exact g_zret C hrt9 hlk (by decide) (u := ()) rfl h dX5_wordCharacter_33
    · replace h := h.2 c_2
      refine g_lookup C (33) 34 dX5_wordCharacter_1 (by decide) ((lv_osw c_1 (by decide)).trans <| (lv_osw c_2 (by decide)).trans <| rfl) (by decide) ?_
      refine g_bipush C (71 : Int32) dX5_wordCharacter_34 (by decide) ?_
      exact g_zret C hrt9 hlk (by decide) (u := ()) rfl h dX5_wordCharacter_36
theorem c_X5_wordCharacter (l : Launch) (D : va_G) (A : Nat → Prop) (ad : Nat → Nat) (cA : Nat → ClassId) (v0 : Int32) {tl : Int32} {tx : (Nat → Int32)} {mn : Int32} {sd : (Nat → Int64)} {e0 : Int32} {e1 : Int32} {e2 : Int32} {e3 : Int32} {e4 : Int32} {e5 : Int32} {e6 : Int32} {e7 : Int32} {e8 : Int32} {e9 : Int32} {e10 : Int32} {fr : Int32} {hd : Int32} {nw : (Nat → Int32)} {kp : (Nat → Int32)} {pt : (Nat → Int32)} {hr : (Nat → Nat → Int32)} {lr : (Nat → Nat → Int32)}  (Q : Int32 → Prop) (h : F_X5_wordCharacter v0 Q) : Met l yX5_wordCharacter wsX5_wordCharacter rmX5_wordCharacter (va_Pc [.int v0] (OKX D (tysX cA) (WX ad cA tl tx mn sd e0 e1 e2 e3 e4 e5 e6 e7 e8 e9 e10 fr hd nw kp pt hr lr) A)) (QC_X5_wordCharacter D A ad cA tl tx mn sd e0 e1 e2 e3 e4 e5 e6 e7 e8 e9 e10 fr hd nw kp pt hr lr Q) 0 0 A :=
  g_met (own := RX5) (by decide) rfl rfl (Nat.le_of_ble_eq_true rfl) (fun p e s m below meth c C hrt9 hlk _ => g_sub [0] rfl (t_B_X5_wordCharacter_0 C hrt9 hlk v0   h))
theorem k_X5_wordCharacter {ws : List Cond} {own : String} {cc : ByteArray} {nL pc index kc ks : Nat} {lv : List (Nat × Value)} {st : List Value} {Q : State → Prop} {R : Room} {K : Int32 → Prop} {v0 : Int32} (C : CxX p s m args c D (tysX cA) own cc nL ws) (hT : GoodIn ws (va_wsS own index yX5_wordCharacter wsX5_wordCharacter)) (hR : rmX5_wordCharacter.frames + 1 ≤ R.frames ∧ 8 + (1 + 11) + rmX5_wordCharacter.locals ≤ R.locals) (hk9 : kc ≤ R.cells ∧ ks ≤ R.slots) (hcat : (st.map fun v => v.category).sum ≤ 8) (hdg : decode cc pc = .ok (.invokestatic index, 3))  (h : F_X5_wordCharacter v0 K) (kk : ∀ (r : Int32) , K r → GoX p l e R s m args below meth c D A nL kc ks Q (pc + 3) lv (.int r :: st) (WX ad cA tl tx mn sd e0 e1 e2 e3 e4 e5 e6 e7 e8 e9 e10 fr hd nw kp pt hr lr)) : GoX p l e R s m args below meth c D A nL kc ks Q pc lv (.int v0 :: st) (WX ad cA tl tx mn sd e0 e1 e2 e3 e4 e5 e6 e7 e8 e9 e10 fr hd nw kp pt hr lr) :=
  g_callSi C (As := [.int v0]) 1 (c_X5_wordCharacter l D A ad cA v0  K h) hT rfl rfl rfl (by decide +kernel) hR hk9 rfl rfl hcat hdg (fun r u hu => kk r  hu)
/-! X5_putWord -/
abbrev rmX5_putWord : Room := { frames := 3, cells := 0, slots := 0, locals := 69 }
abbrev QC_X5_putWord (D : va_G) (A : Nat → Prop) (ad : Nat → Nat) (cA : Nat → ClassId) (tl : Int32) (tx : (Nat → Int32)) (mn : Int32) (sd : (Nat → Int64)) (e0 : Int32) (e1 : Int32) (e2 : Int32) (e3 : Int32) (e4 : Int32) (e5 : Int32) (e6 : Int32) (e7 : Int32) (e8 : Int32) (e9 : Int32) (e10 : Int32) (Q : Int32 → Int32 → Int32 → (Nat → Int32) → (Nat → Int32) → (Nat → Int32) → (Nat → Nat → Int32) → (Nat → Nat → Int32) → Prop) : Array Value → State → Outcome → State → Prop := va_Qi (fun (r : Int32) (u : Int32 × Int32 × (Nat → Int32) × (Nat → Int32) × (Nat → Int32) × (Nat → Nat → Int32) × (Nat → Nat → Int32)) => Q r u.1 u.2.1 u.2.2.1 u.2.2.2.1 u.2.2.2.2.1 u.2.2.2.2.2.1 u.2.2.2.2.2.2) (fun u t => OKX D (tysX cA) ((fun u : Int32 × Int32 × (Nat → Int32) × (Nat → Int32) × (Nat → Int32) × (Nat → Nat → Int32) × (Nat → Nat → Int32) => WX ad cA tl tx mn sd e0 e1 e2 e3 e4 e5 e6 e7 e8 e9 e10 u.1 u.2.1 u.2.2.1 u.2.2.2.1 u.2.2.2.2.1 u.2.2.2.2.2.1 u.2.2.2.2.2.2) u) A t) A
abbrev QP_X5_putWord (D : va_G) (A : Nat → Prop) (ad : Nat → Nat) (cA : Nat → ClassId) (tl : Int32) (tx : (Nat → Int32)) (mn : Int32) (sd : (Nat → Int64)) (e0 : Int32) (e1 : Int32) (e2 : Int32) (e3 : Int32) (e4 : Int32) (e5 : Int32) (e6 : Int32) (e7 : Int32) (e8 : Int32) (e9 : Int32) (e10 : Int32) (Q : Int32 → Int32 → Int32 → (Nat → Int32) → (Nat → Int32) → (Nat → Int32) → (Nat → Nat → Int32) → (Nat → Nat → Int32) → Prop) (below : List Frame) (args : Array Value) (s : State) : State → Prop := MQ below (QC_X5_putWord D A ad cA tl tx mn sd e0 e1 e2 e3 e4 e5 e6 e7 e8 e9 e10 Q) args s 0 0 A
def B_X5_putWord_14  (Q : Int32 → Int32 → Int32 → (Nat → Int32) → (Nat → Int32) → (Nat → Int32) → (Nat → Nat → Int32) → (Nat → Nat → Int32) → Prop)   (fr : Int32) (hd : Int32) (nw : (Nat → Int32)) (kp : (Nat → Int32)) (pt : (Nat → Int32)) (hr : (Nat → Nat → Int32)) (lr : (Nat → Nat → Int32)) : Prop := (Q (-1 : Int32) fr hd nw kp pt hr lr)
noncomputable def L_X5_putWord_58  (Q : Int32 → Int32 → Int32 → (Nat → Int32) → (Nat → Int32) → (Nat → Int32) → (Nat → Nat → Int32) → (Nat → Nat → Int32) → Prop)  (n9 : Nat) : Nat → Int32 → Int32 → Int32 → Int32 → (Nat → Int32) → (Nat → Int32) → (Nat → Int32) → (Nat → Nat → Int32) → (Nat → Nat → Int32) → Prop := Nat.rec (motive := fun _ => Nat → Int32 → Int32 → Int32 → Int32 → (Nat → Int32) → (Nat → Int32) → (Nat → Int32) → (Nat → Nat → Int32) → (Nat → Nat → Int32) → Prop) (fun _ _ _ _ _ _ _ _ _ _ => False) (fun _ kh58 => fun v4 v5 v6 fr hd nw kp pt hr lr => (((3 : Int32) ≤ v6 → (Q v5 fr hd nw kp pt hr lr)) ∧ (¬ (3 : Int32) ≤ v6 → (vp_in ((0 : Int32) + v6) 9 ∧ (kh58 v4 (v5 + ((hr v4) ((0 : Int32) + v6).toNatClampNeg)) (v6 + (1 : Int32)) fr hd nw kp pt hr lr))))) n9
def B_X5_putWord_0  (Q : Int32 → Int32 → Int32 → (Nat → Int32) → (Nat → Int32) → (Nat → Int32) → (Nat → Nat → Int32) → (Nat → Nat → Int32) → Prop)  (v1 : Int32) (v2 : Int32) (v3 : Int32) (fr : Int32) (hd : Int32) (nw : (Nat → Int32)) (kp : (Nat → Int32)) (pt : (Nat → Int32)) (hr : (Nat → Nat → Int32)) (lr : (Nat → Nat → Int32)) : Prop := (F_X5_isHearer v1 (fun r_2 => ((r_2 = 0 → (B_X5_putWord_14  Q  fr hd nw kp pt hr lr)) ∧ (¬ r_2 = 0 → (F_X5_isWord v2 (fun r_4 => ((r_4 = 0 → (B_X5_putWord_14  Q  fr hd nw kp pt hr lr)) ∧ (¬ r_4 = 0 → (F_X1_record 0 fr hd nw kp pt hr lr (fun fr_6 hd_7 nw_8 kp_9 pt_10 hr_11 lr_12 => (vp_in v1 6 ∧ (vp_in ((0 : Int32) + v2) 9 ∧ (vp_in ((3 : Int32) + v2) 9 ∧ (∃ n9 : Nat, L_X5_putWord_58  Q  n9 (6 * 0 + v1.toNatClampNeg) (0 : Int32) (0 : Int32) fr_6 hd_7 nw_8 kp_9 pt_10 (va_up (va_up hr_11 (6 * 0 + v1.toNatClampNeg) (upd (hr_11 (6 * 0 + v1.toNatClampNeg)) ((0 : Int32) + v2).toNatClampNeg v3)) (6 * 0 + v1.toNatClampNeg) (upd ((va_up hr_11 (6 * 0 + v1.toNatClampNeg) (upd (hr_11 (6 * 0 + v1.toNatClampNeg)) ((0 : Int32) + v2).toNatClampNeg v3)) (6 * 0 + v1.toNatClampNeg)) ((3 : Int32) + v2).toNatClampNeg (0 : Int32))) lr_12))))))))))))))
def F_X5_putWord (v1 : Int32) (v2 : Int32) (v3 : Int32)  (fr : Int32) (hd : Int32) (nw : (Nat → Int32)) (kp : (Nat → Int32)) (pt : (Nat → Int32)) (hr : (Nat → Nat → Int32)) (lr : (Nat → Nat → Int32)) (Q : Int32 → Int32 → Int32 → (Nat → Int32) → (Nat → Int32) → (Nat → Int32) → (Nat → Nat → Int32) → (Nat → Nat → Int32) → Prop) : Prop := B_X5_putWord_0 Q  v1 v2 v3 fr hd nw kp pt hr lr
theorem lkX5_putWord_57 : Cond.fieldLink RX5 57 (TX3 0).1 (TX3 0).2.1 (TX3 0).2.2.1 ∈ wsX5_putWord := by decide +kernel
theorem inX5_putWord_3 : ∀ q ∈ u_ws RX3 TX3 5, q ∈ wsX5_putWord := by decide +kernel
theorem lkX5_putWord_10 : Cond.fieldLink RX5 10 (TX5 0).1 (TX5 0).2.1 (TX5 0).2.2.1 ∈ wsX5_putWord := by decide +kernel
theorem lkX5_putWord_19 : Cond.fieldLink RX5 19 (TX5 1).1 (TX5 1).2.1 (TX5 1).2.2.1 ∈ wsX5_putWord := by decide +kernel
theorem inX5_putWord_5 : ∀ q ∈ u_ws RX5 TX5 6, q ∈ wsX5_putWord := by decide +kernel
set_option maxHeartbeats 4000000 in
set_option maxRecDepth 100000 in
theorem t_B_X5_putWord_14  {Q : Int32 → Int32 → Int32 → (Nat → Int32) → (Nat → Int32) → (Nat → Int32) → (Nat → Nat → Int32) → (Nat → Nat → Int32) → Prop} (C : CxX p s m args c D (tysX cA) RX5 cX5_putWord 7 wsX5_putWord) (hrt9 : meth.sig.returnType = (some .int)) (hlk : meth.locks = false)  (fr : Int32) (hd : Int32) (nw : (Nat → Int32)) (kp : (Nat → Int32)) (pt : (Nat → Int32)) (hr : (Nat → Nat → Int32)) (lr : (Nat → Nat → Int32))  (h : B_X5_putWord_14  Q  fr hd nw kp pt hr lr) : GoX p l e rmX5_putWord s m args below meth c D A 7 0 0 (QP_X5_putWord D A ad cA tl tx mn sd e0 e1 e2 e3 e4 e5 e6 e7 e8 e9 e10 Q below args s) 14 [] [] (WX ad cA tl tx mn sd e0 e1 e2 e3 e4 e5 e6 e7 e8 e9 e10 fr hd nw kp pt hr lr) := by
  replace h : (Q (-1 : Int32) fr hd nw kp pt hr lr) := h
  refine g_iconst C (-1 : Int32) dX5_putWord_14 (by decide) ?_
  exact g_iret C hrt9 hlk (u := (fr, hd, nw, kp, pt, hr, lr)) rfl h dX5_putWord_15
set_option maxHeartbeats 4000000 in
set_option maxRecDepth 100000 in
theorem t_L_X5_putWord_58  {Q : Int32 → Int32 → Int32 → (Nat → Int32) → (Nat → Int32) → (Nat → Int32) → (Nat → Nat → Int32) → (Nat → Nat → Int32) → Prop} (C : CxX p s m args c D (tysX cA) RX5 cX5_putWord 7 wsX5_putWord) (hrt9 : meth.sig.returnType = (some .int)) (hlk : meth.locks = false) (m9 : Nat) : ∀ (v4 : Nat) (v5 : Int32) (v6 : Int32) (fr : Int32) (hd : Int32) (nw : (Nat → Int32)) (kp : (Nat → Int32)) (pt : (Nat → Int32)) (hr : (Nat → Nat → Int32)) (lr : (Nat → Nat → Int32)) (hv4 : v4 < 30), L_X5_putWord_58  Q  m9 v4 v5 v6 fr hd nw kp pt hr lr → GoX p l e rmX5_putWord s m args below meth c D A 7 0 0 (QP_X5_putWord D A ad cA tl tx mn sd e0 e1 e2 e3 e4 e5 e6 e7 e8 e9 e10 Q below args s) 58 [(4, .ref (ad (22 + v4))), (5, .int v5), (6, .int v6)] [] (WX ad cA tl tx mn sd e0 e1 e2 e3 e4 e5 e6 e7 e8 e9 e10 fr hd nw kp pt hr lr) := by
  induction m9 with
  | zero =>
    intro v4 v5 v6 fr hd nw kp pt hr lr hv4 h
    exact False.elim h
  | succ m9 Hk58 =>
    intro v4 v5 v6 fr hd nw kp pt hr lr hv4 h
    replace h : (((3 : Int32) ≤ v6 → (Q v5 fr hd nw kp pt hr lr)) ∧ (¬ (3 : Int32) ≤ v6 → (vp_in ((0 : Int32) + v6) 9 ∧ ((L_X5_putWord_58  Q  m9) v4 (v5 + ((hr v4) ((0 : Int32) + v6).toNatClampNeg)) (v6 + (1 : Int32)) fr hd nw kp pt hr lr)))) := h
    refine g_iload C 2 dX5_putWord_58 rfl ?_
    refine g_iconst C (3 : Int32) dX5_putWord_60 (by decide) ?_
    refine g_icmp_ge C 82 dX5_putWord_61 (by decide) (fun c_1 => ?_) (fun c_1 => ?_)
    · replace h := h.1 c_1
      refine g_iload C 1 dX5_putWord_82 rfl ?_
      exact g_iret C hrt9 hlk (u := (fr, hd, nw, kp, pt, hr, lr)) rfl h dX5_putWord_84
    · replace h := h.2 c_1
      refine g_iload C 1 dX5_putWord_64 rfl ?_
      refine g_aload C 0 dX5_putWord_66 rfl ?_
      refine g_iconst C (0 : Int32) dX5_putWord_68 (by decide) ?_
      refine g_iload C 2 dX5_putWord_69 rfl ?_
      refine g_iadd C dX5_putWord_71 ?_
      refine g_iald C (22 + v4) 1 (WXg_HR (by omega)) rfl h.1 dX5_putWord_72 ?_
      replace h := h.2
      refine g_iadd C dX5_putWord_73 ?_
      refine g_istore C (lv2 := [(5, .int (v5 + ((hr v4) ((0 : Int32) + v6).toNatClampNeg))), (4, .ref (ad (22 + v4))), (6, .int v6)]) dX5_putWord_74 (by decide) rfl ?_
      refine g_iinc C (v := (v6 + (1 : Int32))) (lv2 := [(6, .int (v6 + (1 : Int32))), (5, .int (v5 + ((hr v4) ((0 : Int32) + v6).toNatClampNeg))), (4, .ref (ad (22 + v4)))]) 2 dX5_putWord_76 rfl rfl (by decide) rfl ?_
      refine g_goto C 58 dX5_putWord_79 (by decide) ?_
      exact g_sub [2, 1, 0] rfl (Hk58 v4 (v5 + ((hr v4) ((0 : Int32) + v6).toNatClampNeg)) (v6 + (1 : Int32)) fr hd nw kp pt hr lr (by omega) h)
set_option maxHeartbeats 4000000 in
set_option maxRecDepth 100000 in
theorem t_B_X5_putWord_0  {Q : Int32 → Int32 → Int32 → (Nat → Int32) → (Nat → Int32) → (Nat → Int32) → (Nat → Nat → Int32) → (Nat → Nat → Int32) → Prop} (C : CxX p s m args c D (tysX cA) RX5 cX5_putWord 7 wsX5_putWord) (hrt9 : meth.sig.returnType = (some .int)) (hlk : meth.locks = false) (v1 : Int32) (v2 : Int32) (v3 : Int32) (fr : Int32) (hd : Int32) (nw : (Nat → Int32)) (kp : (Nat → Int32)) (pt : (Nat → Int32)) (hr : (Nat → Nat → Int32)) (lr : (Nat → Nat → Int32))  (h : B_X5_putWord_0  Q  v1 v2 v3 fr hd nw kp pt hr lr) : GoX p l e rmX5_putWord s m args below meth c D A 7 0 0 (QP_X5_putWord D A ad cA tl tx mn sd e0 e1 e2 e3 e4 e5 e6 e7 e8 e9 e10 Q below args s) 0 [(0, .ref (ad 0)), (1, .int v1), (2, .int v2), (3, .int v3)] [] (WX ad cA tl tx mn sd e0 e1 e2 e3 e4 e5 e6 e7 e8 e9 e10 fr hd nw kp pt hr lr) := by
  replace h : (F_X5_isHearer v1 (fun r_2 => ((r_2 = 0 → (B_X5_putWord_14  Q  fr hd nw kp pt hr lr)) ∧ (¬ r_2 = 0 → (F_X5_isWord v2 (fun r_4 => ((r_4 = 0 → (B_X5_putWord_14  Q  fr hd nw kp pt hr lr)) ∧ (¬ r_4 = 0 → (F_X1_record 0 fr hd nw kp pt hr lr (fun fr_6 hd_7 nw_8 kp_9 pt_10 hr_11 lr_12 => (vp_in v1 6 ∧ (vp_in ((0 : Int32) + v2) 9 ∧ (vp_in ((3 : Int32) + v2) 9 ∧ (∃ n9 : Nat, L_X5_putWord_58  Q  n9 (6 * 0 + v1.toNatClampNeg) (0 : Int32) (0 : Int32) fr_6 hd_7 nw_8 kp_9 pt_10 (va_up (va_up hr_11 (6 * 0 + v1.toNatClampNeg) (upd (hr_11 (6 * 0 + v1.toNatClampNeg)) ((0 : Int32) + v2).toNatClampNeg v3)) (6 * 0 + v1.toNatClampNeg) (upd ((va_up hr_11 (6 * 0 + v1.toNatClampNeg) (upd (hr_11 (6 * 0 + v1.toNatClampNeg)) ((0 : Int32) + v2).toNatClampNeg v3)) (6 * 0 + v1.toNatClampNeg)) ((3 : Int32) + v2).toNatClampNeg (0 : Int32))) lr_12)))))))))))))) := h
  refine g_iload_n C 1 dX5_putWord_0 rfl rfl ?_
  refine k_X5_isHearer C gX5_putWord_X5_isHearer ⟨Nat.le_of_ble_eq_true rfl, Nat.le_of_ble_eq_true rfl⟩ ⟨Nat.zero_le _, Nat.zero_le _⟩ (Nat.le_of_ble_eq_true rfl) dX5_putWord_1  h (fun r_2 h => ?_)
  refine g_if_eq C 14 dX5_putWord_4 (by decide) (fun c_3 => ?_) (fun c_3 => ?_)
  · replace h := h.1 c_3
    exact g_sub [] rfl (t_B_X5_putWord_14 C hrt9 hlk  fr hd nw kp pt hr lr  h)
  · replace h := h.2 c_3
    refine g_iload_n C 2 dX5_putWord_7 rfl rfl ?_
    refine k_X5_isWord C gX5_putWord_X5_isWord ⟨Nat.le_of_ble_eq_true rfl, Nat.le_of_ble_eq_true rfl⟩ ⟨Nat.zero_le _, Nat.zero_le _⟩ (Nat.le_of_ble_eq_true rfl) dX5_putWord_8  h (fun r_4 h => ?_)
    refine g_if_ne C 16 dX5_putWord_11 (by decide) (fun c_5 => ?_) (fun c_5 => ?_)
    · replace h := h.2 c_5
      refine g_aload_n C 0 dX5_putWord_16 rfl rfl ?_
      refine g_get C inX5_putWord_5 0 WXg0 rfl 1 (by decide) lkX5_putWord_19 rfl dX5_putWord_17 ?_
      refine g_aload_n C 0 dX5_putWord_20 rfl rfl ?_
      refine g_get C inX5_putWord_5 0 WXg0 rfl 0 (by decide) lkX5_putWord_10 rfl dX5_putWord_21 ?_
      refine k_X1_record C gX5_putWord_X1_record ⟨Nat.le_of_ble_eq_true rfl, Nat.le_of_ble_eq_true rfl⟩ ⟨Nat.zero_le _, Nat.zero_le _⟩ (Nat.le_of_ble_eq_true rfl) dX5_putWord_24 (by omega) h (fun fr_6 hd_7 nw_8 kp_9 pt_10 hr_11 lr_12 h => ?_)
      refine g_aload_n C 0 dX5_putWord_27 rfl rfl ?_
      refine g_get C inX5_putWord_5 0 WXg0 rfl 0 (by decide) lkX5_putWord_10 rfl dX5_putWord_28 ?_
      refine g_get C inX5_putWord_3 (7 + 0) (WXg_ST (by omega)) rfl 0 (by decide) lkX5_putWord_57 rfl dX5_putWord_31 ?_
      refine g_iload_n C 1 dX5_putWord_34 rfl rfl ?_
      have b_13 := vp_lt h.1
      refine g_aald C (12 + 0) 4 (WXg_HO (by omega)) rfl rfl h.1 rfl dX5_putWord_35 ?_
      replace h := h.2
      refine g_astore C (lv2 := [(4, .ref (ad (22 + (6 * 0 + v1.toNatClampNeg)))), (0, .ref (ad 0)), (1, .int v1), (2, .int v2), (3, .int v3)]) dX5_putWord_36 (by decide) rfl ?_
      refine g_aload C 0 dX5_putWord_38 rfl ?_
      refine g_iconst C (0 : Int32) dX5_putWord_40 (by decide) ?_
      refine g_iload_n C 3 dX5_putWord_41 rfl rfl ?_
      refine g_iadd C dX5_putWord_42 ?_
      refine g_iload_n C 4 dX5_putWord_43 rfl rfl ?_
      refine g_iast C (22 + (6 * 0 + v1.toNatClampNeg)) 1 (WXg_HR (by omega)) rfl h.1 (WXs_hr (by omega)) dX5_putWord_44 ?_
      replace h := h.2
      refine g_aload C 0 dX5_putWord_45 rfl ?_
      refine g_iconst C (3 : Int32) dX5_putWord_47 (by decide) ?_
      refine g_iload_n C 3 dX5_putWord_48 rfl rfl ?_
      refine g_iadd C dX5_putWord_49 ?_
      refine g_iconst C (0 : Int32) dX5_putWord_50 (by decide) ?_
      refine g_iast C (22 + (6 * 0 + v1.toNatClampNeg)) 1 (WXg_HR (by omega)) rfl h.1 (WXs_hr (by omega)) dX5_putWord_51 ?_
      replace h := h.2
      refine g_iconst C (0 : Int32) dX5_putWord_52 (by decide) ?_
      refine g_istore C (lv2 := [(5, .int (0 : Int32)), (4, .ref (ad (22 + (6 * 0 + v1.toNatClampNeg)))), (0, .ref (ad 0)), (1, .int v1), (2, .int v2), (3, .int v3)]) dX5_putWord_53 (by decide) rfl ?_
      refine g_iconst C (0 : Int32) dX5_putWord_55 (by decide) ?_
      refine g_istore C (lv2 := [(6, .int (0 : Int32)), (5, .int (0 : Int32)), (4, .ref (ad (22 + (6 * 0 + v1.toNatClampNeg)))), (0, .ref (ad 0)), (1, .int v1), (2, .int v2), (3, .int v3)]) dX5_putWord_56 (by decide) rfl ?_
      obtain ⟨n9, h⟩ := h
      exact g_sub [2, 1, 0] rfl (t_L_X5_putWord_58 C hrt9 hlk  n9 (6 * 0 + v1.toNatClampNeg) (0 : Int32) (0 : Int32) fr_6 hd_7 nw_8 kp_9 pt_10 (va_up (va_up hr_11 (6 * 0 + v1.toNatClampNeg) (upd (hr_11 (6 * 0 + v1.toNatClampNeg)) ((0 : Int32) + v2).toNatClampNeg v3)) (6 * 0 + v1.toNatClampNeg) (upd ((va_up hr_11 (6 * 0 + v1.toNatClampNeg) (upd (hr_11 (6 * 0 + v1.toNatClampNeg)) ((0 : Int32) + v2).toNatClampNeg v3)) (6 * 0 + v1.toNatClampNeg)) ((3 : Int32) + v2).toNatClampNeg (0 : Int32))) lr_12 (by omega) h)
    · replace h := h.1 c_5
      exact g_sub [] rfl (t_B_X5_putWord_14 C hrt9 hlk  fr hd nw kp pt hr lr  h)
theorem c_X5_putWord (l : Launch) (D : va_G) (A : Nat → Prop) (ad : Nat → Nat) (cA : Nat → ClassId) (v1 : Int32) (v2 : Int32) (v3 : Int32) {tl : Int32} {tx : (Nat → Int32)} {mn : Int32} {sd : (Nat → Int64)} {e0 : Int32} {e1 : Int32} {e2 : Int32} {e3 : Int32} {e4 : Int32} {e5 : Int32} {e6 : Int32} {e7 : Int32} {e8 : Int32} {e9 : Int32} {e10 : Int32} {fr : Int32} {hd : Int32} {nw : (Nat → Int32)} {kp : (Nat → Int32)} {pt : (Nat → Int32)} {hr : (Nat → Nat → Int32)} {lr : (Nat → Nat → Int32)}  (Q : Int32 → Int32 → Int32 → (Nat → Int32) → (Nat → Int32) → (Nat → Int32) → (Nat → Nat → Int32) → (Nat → Nat → Int32) → Prop) (h : F_X5_putWord v1 v2 v3 fr hd nw kp pt hr lr Q) : Met l yX5_putWord wsX5_putWord rmX5_putWord (va_Pc [.ref (ad 0), .int v1, .int v2, .int v3] (OKX D (tysX cA) (WX ad cA tl tx mn sd e0 e1 e2 e3 e4 e5 e6 e7 e8 e9 e10 fr hd nw kp pt hr lr) A)) (QC_X5_putWord D A ad cA tl tx mn sd e0 e1 e2 e3 e4 e5 e6 e7 e8 e9 e10 Q) 0 0 A :=
  g_met (own := RX5) (by decide) rfl rfl (Nat.le_of_ble_eq_true rfl) (fun p e s m below meth c C hrt9 hlk _ => g_sub [0, 1, 2, 3] rfl (t_B_X5_putWord_0 C hrt9 hlk v1 v2 v3 fr hd nw kp pt hr lr  h))
theorem k_X5_putWord {ws : List Cond} {own : String} {cc : ByteArray} {nL pc index kc ks : Nat} {lv : List (Nat × Value)} {st : List Value} {Q : State → Prop} {R : Room} {K : Int32 → Int32 → Int32 → (Nat → Int32) → (Nat → Int32) → (Nat → Int32) → (Nat → Nat → Int32) → (Nat → Nat → Int32) → Prop} {v1 : Int32} {v2 : Int32} {v3 : Int32} (C : CxX p s m args c D (tysX cA) own cc nL ws) (hT : GoodIn ws (wsV own index RX5 yX5_putWord wsX5_putWord)) (hR : rmX5_putWord.frames + 1 ≤ R.frames ∧ 8 + (7 + 11) + rmX5_putWord.locals ≤ R.locals) (hk9 : kc ≤ R.cells ∧ ks ≤ R.slots) (hcat : (st.map fun v => v.category).sum ≤ 8) (hdg : decode cc pc = .ok (.invokevirtual index, 3))  (h : F_X5_putWord v1 v2 v3 fr hd nw kp pt hr lr K) (kk : ∀ (r : Int32) (frq : Int32) (hdq : Int32) (nwq : (Nat → Int32)) (kpq : (Nat → Int32)) (ptq : (Nat → Int32)) (hrq : (Nat → Nat → Int32)) (lrq : (Nat → Nat → Int32)), K r frq hdq nwq kpq ptq hrq lrq → GoX p l e R s m args below meth c D A nL kc ks Q (pc + 3) lv (.int r :: st) (WX ad cA tl tx mn sd e0 e1 e2 e3 e4 e5 e6 e7 e8 e9 e10 frq hdq nwq kpq ptq hrq lrq)) : GoX p l e R s m args below meth c D A nL kc ks Q pc lv (.int v3 :: .int v2 :: .int v1 :: .ref (ad 0) :: st) (WX ad cA tl tx mn sd e0 e1 e2 e3 e4 e5 e6 e7 e8 e9 e10 fr hd nw kp pt hr lr) :=
  g_callVi C (As := [.int v1, .int v2, .int v3]) 3 (c_X5_putWord l D A ad cA v1 v2 v3  K h) hT rfl rfl rfl (by decide +kernel) hR hk9 0 WXg0 rfl rfl rfl hcat hdg (fun r u hu => kk r u.1 u.2.1 u.2.2.1 u.2.2.2.1 u.2.2.2.2.1 u.2.2.2.2.2.1 u.2.2.2.2.2.2 hu)
/-! X5_meant -/
abbrev rmX5_meant : Room := { frames := 4, cells := 0, slots := 0, locals := 89 }
abbrev QC_X5_meant (D : va_G) (A : Nat → Prop) (ad : Nat → Nat) (cA : Nat → ClassId) (tl : Int32) (tx : (Nat → Int32)) (mn : Int32) (sd : (Nat → Int64)) (fr : Int32) (hd : Int32) (nw : (Nat → Int32)) (kp : (Nat → Int32)) (pt : (Nat → Int32)) (hr : (Nat → Nat → Int32)) (lr : (Nat → Nat → Int32)) (Q : Int32 → Int32 → Int32 → Int32 → Int32 → Int32 → Int32 → Int32 → Int32 → Int32 → Int32 → Int32 → Prop) : Array Value → State → Outcome → State → Prop := va_Qi (fun (r : Int32) (u : Int32 × Int32 × Int32 × Int32 × Int32 × Int32 × Int32 × Int32 × Int32 × Int32 × Int32) => Q r u.1 u.2.1 u.2.2.1 u.2.2.2.1 u.2.2.2.2.1 u.2.2.2.2.2.1 u.2.2.2.2.2.2.1 u.2.2.2.2.2.2.2.1 u.2.2.2.2.2.2.2.2.1 u.2.2.2.2.2.2.2.2.2.1 u.2.2.2.2.2.2.2.2.2.2) (fun u t => OKX D (tysX cA) ((fun u : Int32 × Int32 × Int32 × Int32 × Int32 × Int32 × Int32 × Int32 × Int32 × Int32 × Int32 => WX ad cA tl tx mn sd u.1 u.2.1 u.2.2.1 u.2.2.2.1 u.2.2.2.2.1 u.2.2.2.2.2.1 u.2.2.2.2.2.2.1 u.2.2.2.2.2.2.2.1 u.2.2.2.2.2.2.2.2.1 u.2.2.2.2.2.2.2.2.2.1 u.2.2.2.2.2.2.2.2.2.2 fr hd nw kp pt hr lr) u) A t) A
abbrev QP_X5_meant (D : va_G) (A : Nat → Prop) (ad : Nat → Nat) (cA : Nat → ClassId) (tl : Int32) (tx : (Nat → Int32)) (mn : Int32) (sd : (Nat → Int64)) (fr : Int32) (hd : Int32) (nw : (Nat → Int32)) (kp : (Nat → Int32)) (pt : (Nat → Int32)) (hr : (Nat → Nat → Int32)) (lr : (Nat → Nat → Int32)) (Q : Int32 → Int32 → Int32 → Int32 → Int32 → Int32 → Int32 → Int32 → Int32 → Int32 → Int32 → Int32 → Prop) (below : List Frame) (args : Array Value) (s : State) : State → Prop := MQ below (QC_X5_meant D A ad cA tl tx mn sd fr hd nw kp pt hr lr Q) args s 0 0 A
def B_X5_meant_0  (Q : Int32 → Int32 → Int32 → Int32 → Int32 → Int32 → Int32 → Int32 → Int32 → Int32 → Int32 → Int32 → Prop)  (v1 : Int64) (e0 : Int32) (e1 : Int32) (e2 : Int32) (e3 : Int32) (e4 : Int32) (e5 : Int32) (e6 : Int32) (e7 : Int32) (e8 : Int32) (e9 : Int32) (e10 : Int32) : Prop := (F_X0_listen (1 : Int32) (1 : Int32) (1 : Int32) e0 e1 e2 e3 e4 e5 e6 e7 e8 e9 e10 (fun e0_1 e1_2 e2_3 e3_4 e4_5 e5_6 e6_7 e7_8 e8_9 e9_10 e10_11 => (F_X0_hear v1 (12 : Int32) e0_1 e1_2 e2_3 e3_4 e4_5 e5_6 e6_7 e7_8 e8_9 e9_10 e10_11 (fun r_12 e3_13 e4_14 e5_15 e6_16 e7_17 e8_18 e9_19 e10_20 => (Q r_12 e0_1 e1_2 e2_3 e3_13 e4_14 e5_15 e6_16 e7_17 e8_18 e9_19 e10_20)))))
def F_X5_meant (v1 : Int64)  (e0 : Int32) (e1 : Int32) (e2 : Int32) (e3 : Int32) (e4 : Int32) (e5 : Int32) (e6 : Int32) (e7 : Int32) (e8 : Int32) (e9 : Int32) (e10 : Int32) (Q : Int32 → Int32 → Int32 → Int32 → Int32 → Int32 → Int32 → Int32 → Int32 → Int32 → Int32 → Int32 → Prop) : Prop := B_X5_meant_0 Q  v1 e0 e1 e2 e3 e4 e5 e6 e7 e8 e9 e10
theorem lkX5_meant_41 : Cond.fieldLink RX5 41 (TX5 5).1 (TX5 5).2.1 (TX5 5).2.2.1 ∈ wsX5_meant := by decide +kernel
theorem inX5_meant_5 : ∀ q ∈ u_ws RX5 TX5 6, q ∈ wsX5_meant := by decide +kernel
set_option maxHeartbeats 4000000 in
set_option maxRecDepth 100000 in
theorem t_B_X5_meant_0  {Q : Int32 → Int32 → Int32 → Int32 → Int32 → Int32 → Int32 → Int32 → Int32 → Int32 → Int32 → Int32 → Prop} (C : CxX p s m args c D (tysX cA) RX5 cX5_meant 3 wsX5_meant) (hrt9 : meth.sig.returnType = (some .int)) (hlk : meth.locks = false) (v1 : Int64) (e0 : Int32) (e1 : Int32) (e2 : Int32) (e3 : Int32) (e4 : Int32) (e5 : Int32) (e6 : Int32) (e7 : Int32) (e8 : Int32) (e9 : Int32) (e10 : Int32)  (h : B_X5_meant_0  Q  v1 e0 e1 e2 e3 e4 e5 e6 e7 e8 e9 e10) : GoX p l e rmX5_meant s m args below meth c D A 3 0 0 (QP_X5_meant D A ad cA tl tx mn sd fr hd nw kp pt hr lr Q below args s) 0 [(0, .ref (ad 0)), (1, .long v1)] [] (WX ad cA tl tx mn sd e0 e1 e2 e3 e4 e5 e6 e7 e8 e9 e10 fr hd nw kp pt hr lr) := by
  replace h : (F_X0_listen (1 : Int32) (1 : Int32) (1 : Int32) e0 e1 e2 e3 e4 e5 e6 e7 e8 e9 e10 (fun e0_1 e1_2 e2_3 e3_4 e4_5 e5_6 e6_7 e7_8 e8_9 e9_10 e10_11 => (F_X0_hear v1 (12 : Int32) e0_1 e1_2 e2_3 e3_4 e4_5 e5_6 e6_7 e7_8 e8_9 e9_10 e10_11 (fun r_12 e3_13 e4_14 e5_15 e6_16 e7_17 e8_18 e9_19 e10_20 => (Q r_12 e0_1 e1_2 e2_3 e3_13 e4_14 e5_15 e6_16 e7_17 e8_18 e9_19 e10_20))))) := h
  refine g_aload_n C 0 dX5_meant_0 rfl rfl ?_
  refine g_get C inX5_meant_5 0 WXg0 rfl 5 (by decide) lkX5_meant_41 rfl dX5_meant_1 ?_
  refine g_iconst C (1 : Int32) dX5_meant_4 (by decide) ?_
  refine g_iconst C (1 : Int32) dX5_meant_5 (by decide) ?_
  refine g_iconst C (1 : Int32) dX5_meant_6 (by decide) ?_
  refine k_X0_listen C gX5_meant_X0_listen ⟨Nat.le_of_ble_eq_true rfl, Nat.le_of_ble_eq_true rfl⟩ ⟨Nat.zero_le _, Nat.zero_le _⟩ (Nat.le_of_ble_eq_true rfl) dX5_meant_7  h (fun e0_1 e1_2 e2_3 e3_4 e4_5 e5_6 e6_7 e7_8 e8_9 e9_10 e10_11 h => ?_)
  refine g_aload_n C 0 dX5_meant_10 rfl rfl ?_
  refine g_get C inX5_meant_5 0 WXg0 rfl 5 (by decide) lkX5_meant_41 rfl dX5_meant_11 ?_
  refine g_lload_n C 1 dX5_meant_14 rfl rfl ?_
  refine g_bipush C (12 : Int32) dX5_meant_15 (by decide) ?_
  refine k_X0_hear C gX5_meant_X0_hear ⟨Nat.le_of_ble_eq_true rfl, Nat.le_of_ble_eq_true rfl⟩ ⟨Nat.zero_le _, Nat.zero_le _⟩ (Nat.le_of_ble_eq_true rfl) dX5_meant_17  h (fun r_12 e3_13 e4_14 e5_15 e6_16 e7_17 e8_18 e9_19 e10_20 h => ?_)
  exact g_iret C hrt9 hlk (u := (e0_1, e1_2, e2_3, e3_13, e4_14, e5_15, e6_16, e7_17, e8_18, e9_19, e10_20)) rfl h dX5_meant_20
theorem c_X5_meant (l : Launch) (D : va_G) (A : Nat → Prop) (ad : Nat → Nat) (cA : Nat → ClassId) (v1 : Int64) {tl : Int32} {tx : (Nat → Int32)} {mn : Int32} {sd : (Nat → Int64)} {e0 : Int32} {e1 : Int32} {e2 : Int32} {e3 : Int32} {e4 : Int32} {e5 : Int32} {e6 : Int32} {e7 : Int32} {e8 : Int32} {e9 : Int32} {e10 : Int32} {fr : Int32} {hd : Int32} {nw : (Nat → Int32)} {kp : (Nat → Int32)} {pt : (Nat → Int32)} {hr : (Nat → Nat → Int32)} {lr : (Nat → Nat → Int32)}  (Q : Int32 → Int32 → Int32 → Int32 → Int32 → Int32 → Int32 → Int32 → Int32 → Int32 → Int32 → Int32 → Prop) (h : F_X5_meant v1 e0 e1 e2 e3 e4 e5 e6 e7 e8 e9 e10 Q) : Met l yX5_meant wsX5_meant rmX5_meant (va_Pc [.ref (ad 0), .long v1] (OKX D (tysX cA) (WX ad cA tl tx mn sd e0 e1 e2 e3 e4 e5 e6 e7 e8 e9 e10 fr hd nw kp pt hr lr) A)) (QC_X5_meant D A ad cA tl tx mn sd fr hd nw kp pt hr lr Q) 0 0 A :=
  g_met (own := RX5) (by decide) rfl rfl (Nat.le_of_ble_eq_true rfl) (fun p e s m below meth c C hrt9 hlk _ => g_sub [0, 1] rfl (t_B_X5_meant_0 C hrt9 hlk v1 e0 e1 e2 e3 e4 e5 e6 e7 e8 e9 e10  h))
theorem k_X5_meant {ws : List Cond} {own : String} {cc : ByteArray} {nL pc index kc ks : Nat} {lv : List (Nat × Value)} {st : List Value} {Q : State → Prop} {R : Room} {K : Int32 → Int32 → Int32 → Int32 → Int32 → Int32 → Int32 → Int32 → Int32 → Int32 → Int32 → Int32 → Prop} {v1 : Int64} (C : CxX p s m args c D (tysX cA) own cc nL ws) (hT : GoodIn ws (wsV own index RX5 yX5_meant wsX5_meant)) (hR : rmX5_meant.frames + 1 ≤ R.frames ∧ 8 + (3 + 11) + rmX5_meant.locals ≤ R.locals) (hk9 : kc ≤ R.cells ∧ ks ≤ R.slots) (hcat : (st.map fun v => v.category).sum ≤ 8) (hdg : decode cc pc = .ok (.invokevirtual index, 3))  (h : F_X5_meant v1 e0 e1 e2 e3 e4 e5 e6 e7 e8 e9 e10 K) (kk : ∀ (r : Int32) (e0q : Int32) (e1q : Int32) (e2q : Int32) (e3q : Int32) (e4q : Int32) (e5q : Int32) (e6q : Int32) (e7q : Int32) (e8q : Int32) (e9q : Int32) (e10q : Int32), K r e0q e1q e2q e3q e4q e5q e6q e7q e8q e9q e10q → GoX p l e R s m args below meth c D A nL kc ks Q (pc + 3) lv (.int r :: st) (WX ad cA tl tx mn sd e0q e1q e2q e3q e4q e5q e6q e7q e8q e9q e10q fr hd nw kp pt hr lr)) : GoX p l e R s m args below meth c D A nL kc ks Q pc lv (.long v1 :: .ref (ad 0) :: st) (WX ad cA tl tx mn sd e0 e1 e2 e3 e4 e5 e6 e7 e8 e9 e10 fr hd nw kp pt hr lr) :=
  g_callVi C (As := [.long v1]) 1 (c_X5_meant l D A ad cA v1  K h) hT rfl rfl rfl (by decide +kernel) hR hk9 0 WXg0 rfl rfl rfl hcat hdg (fun r u hu => kk r u.1 u.2.1 u.2.2.1 u.2.2.2.1 u.2.2.2.2.1 u.2.2.2.2.2.1 u.2.2.2.2.2.2.1 u.2.2.2.2.2.2.2.1 u.2.2.2.2.2.2.2.2.1 u.2.2.2.2.2.2.2.2.2.1 u.2.2.2.2.2.2.2.2.2.2 hu)
/-! X5_heard -/
abbrev rmX5_heard : Room := { frames := 4, cells := 0, slots := 0, locals := 89 }
abbrev QC_X5_heard (D : va_G) (A : Nat → Prop) (ad : Nat → Nat) (cA : Nat → ClassId) (tl : Int32) (tx : (Nat → Int32)) (mn : Int32) (sd : (Nat → Int64)) (fr : Int32) (hd : Int32) (nw : (Nat → Int32)) (kp : (Nat → Int32)) (pt : (Nat → Int32)) (hr : (Nat → Nat → Int32)) (lr : (Nat → Nat → Int32)) (Q : Int32 → Int32 → Int32 → Int32 → Int32 → Int32 → Int32 → Int32 → Int32 → Int32 → Int32 → Int32 → Prop) : Array Value → State → Outcome → State → Prop := va_Qi (fun (r : Int32) (u : Int32 × Int32 × Int32 × Int32 × Int32 × Int32 × Int32 × Int32 × Int32 × Int32 × Int32) => Q r u.1 u.2.1 u.2.2.1 u.2.2.2.1 u.2.2.2.2.1 u.2.2.2.2.2.1 u.2.2.2.2.2.2.1 u.2.2.2.2.2.2.2.1 u.2.2.2.2.2.2.2.2.1 u.2.2.2.2.2.2.2.2.2.1 u.2.2.2.2.2.2.2.2.2.2) (fun u t => OKX D (tysX cA) ((fun u : Int32 × Int32 × Int32 × Int32 × Int32 × Int32 × Int32 × Int32 × Int32 × Int32 × Int32 => WX ad cA tl tx mn sd u.1 u.2.1 u.2.2.1 u.2.2.2.1 u.2.2.2.2.1 u.2.2.2.2.2.1 u.2.2.2.2.2.2.1 u.2.2.2.2.2.2.2.1 u.2.2.2.2.2.2.2.2.1 u.2.2.2.2.2.2.2.2.2.1 u.2.2.2.2.2.2.2.2.2.2 fr hd nw kp pt hr lr) u) A t) A
abbrev QP_X5_heard (D : va_G) (A : Nat → Prop) (ad : Nat → Nat) (cA : Nat → ClassId) (tl : Int32) (tx : (Nat → Int32)) (mn : Int32) (sd : (Nat → Int64)) (fr : Int32) (hd : Int32) (nw : (Nat → Int32)) (kp : (Nat → Int32)) (pt : (Nat → Int32)) (hr : (Nat → Nat → Int32)) (lr : (Nat → Nat → Int32)) (Q : Int32 → Int32 → Int32 → Int32 → Int32 → Int32 → Int32 → Int32 → Int32 → Int32 → Int32 → Int32 → Prop) (below : List Frame) (args : Array Value) (s : State) : State → Prop := MQ below (QC_X5_heard D A ad cA tl tx mn sd fr hd nw kp pt hr lr Q) args s 0 0 A
def B_X5_heard_54  (Q : Int32 → Int32 → Int32 → Int32 → Int32 → Int32 → Int32 → Int32 → Int32 → Int32 → Int32 → Int32 → Prop) (hr : (Nat → Nat → Int32)) (v2 : Int64) (v4 : Nat) (s1 : Int32) (s2 : Int32) (s3 : Int32) (e0 : Int32) (e1 : Int32) (e2 : Int32) (e3 : Int32) (e4 : Int32) (e5 : Int32) (e6 : Int32) (e7 : Int32) (e8 : Int32) (e9 : Int32) (e10 : Int32) : Prop := (F_X0_listen s1 s2 s3 e0 e1 e2 e3 e4 e5 e6 e7 e8 e9 e10 (fun e0_1 e1_2 e2_3 e3_4 e4_5 e5_6 e6_7 e7_8 e8_9 e9_10 e10_11 => (vp_in (6 : Int32) 9 ∧ (F_X0_hear v2 ((hr v4) (6 : Int32).toNatClampNeg) e0_1 e1_2 e2_3 e3_4 e4_5 e5_6 e6_7 e7_8 e8_9 e9_10 e10_11 (fun r_12 e3_13 e4_14 e5_15 e6_16 e7_17 e8_18 e9_19 e10_20 => (Q r_12 e0_1 e1_2 e2_3 e3_13 e4_14 e5_15 e6_16 e7_17 e8_18 e9_19 e10_20))))))
def B_X5_heard_41  (Q : Int32 → Int32 → Int32 → Int32 → Int32 → Int32 → Int32 → Int32 → Int32 → Int32 → Int32 → Int32 → Prop) (hr : (Nat → Nat → Int32)) (v2 : Int64) (v4 : Nat) (s1 : Int32) (s2 : Int32) (e0 : Int32) (e1 : Int32) (e2 : Int32) (e3 : Int32) (e4 : Int32) (e5 : Int32) (e6 : Int32) (e7 : Int32) (e8 : Int32) (e9 : Int32) (e10 : Int32) : Prop := (vp_in (2 : Int32) 9 ∧ ((((hr v4) (2 : Int32).toNatClampNeg) = (1 : Int32) → (B_X5_heard_54  Q hr v2 v4 s1 s2 (1 : Int32) e0 e1 e2 e3 e4 e5 e6 e7 e8 e9 e10)) ∧ (¬ ((hr v4) (2 : Int32).toNatClampNeg) = (1 : Int32) → (B_X5_heard_54  Q hr v2 v4 s1 s2 (0 : Int32) e0 e1 e2 e3 e4 e5 e6 e7 e8 e9 e10))))
def B_X5_heard_28  (Q : Int32 → Int32 → Int32 → Int32 → Int32 → Int32 → Int32 → Int32 → Int32 → Int32 → Int32 → Int32 → Prop) (hr : (Nat → Nat → Int32)) (v2 : Int64) (v4 : Nat) (s1 : Int32) (e0 : Int32) (e1 : Int32) (e2 : Int32) (e3 : Int32) (e4 : Int32) (e5 : Int32) (e6 : Int32) (e7 : Int32) (e8 : Int32) (e9 : Int32) (e10 : Int32) : Prop := (vp_in (1 : Int32) 9 ∧ ((((hr v4) (1 : Int32).toNatClampNeg) = (1 : Int32) → (B_X5_heard_41  Q hr v2 v4 s1 (1 : Int32) e0 e1 e2 e3 e4 e5 e6 e7 e8 e9 e10)) ∧ (¬ ((hr v4) (1 : Int32).toNatClampNeg) = (1 : Int32) → (B_X5_heard_41  Q hr v2 v4 s1 (0 : Int32) e0 e1 e2 e3 e4 e5 e6 e7 e8 e9 e10))))
def B_X5_heard_0  (Q : Int32 → Int32 → Int32 → Int32 → Int32 → Int32 → Int32 → Int32 → Int32 → Int32 → Int32 → Int32 → Prop) (hr : (Nat → Nat → Int32)) (v1 : Int32) (v2 : Int64) (e0 : Int32) (e1 : Int32) (e2 : Int32) (e3 : Int32) (e4 : Int32) (e5 : Int32) (e6 : Int32) (e7 : Int32) (e8 : Int32) (e9 : Int32) (e10 : Int32) : Prop := (vp_in v1 6 ∧ (vp_in (0 : Int32) 9 ∧ ((((hr (6 * 0 + v1.toNatClampNeg)) (0 : Int32).toNatClampNeg) = (1 : Int32) → (B_X5_heard_28  Q hr v2 (6 * 0 + v1.toNatClampNeg) (1 : Int32) e0 e1 e2 e3 e4 e5 e6 e7 e8 e9 e10)) ∧ (¬ ((hr (6 * 0 + v1.toNatClampNeg)) (0 : Int32).toNatClampNeg) = (1 : Int32) → (B_X5_heard_28  Q hr v2 (6 * 0 + v1.toNatClampNeg) (0 : Int32) e0 e1 e2 e3 e4 e5 e6 e7 e8 e9 e10)))))
def F_X5_heard (v1 : Int32) (v2 : Int64) (hr : (Nat → Nat → Int32)) (e0 : Int32) (e1 : Int32) (e2 : Int32) (e3 : Int32) (e4 : Int32) (e5 : Int32) (e6 : Int32) (e7 : Int32) (e8 : Int32) (e9 : Int32) (e10 : Int32) (Q : Int32 → Int32 → Int32 → Int32 → Int32 → Int32 → Int32 → Int32 → Int32 → Int32 → Int32 → Int32 → Prop) : Prop := B_X5_heard_0 Q hr v1 v2 e0 e1 e2 e3 e4 e5 e6 e7 e8 e9 e10
theorem lkX5_heard_57 : Cond.fieldLink RX5 57 (TX3 0).1 (TX3 0).2.1 (TX3 0).2.2.1 ∈ wsX5_heard := by decide +kernel
theorem inX5_heard_3 : ∀ q ∈ u_ws RX3 TX3 5, q ∈ wsX5_heard := by decide +kernel
theorem lkX5_heard_10 : Cond.fieldLink RX5 10 (TX5 0).1 (TX5 0).2.1 (TX5 0).2.2.1 ∈ wsX5_heard := by decide +kernel
theorem lkX5_heard_41 : Cond.fieldLink RX5 41 (TX5 5).1 (TX5 5).2.1 (TX5 5).2.2.1 ∈ wsX5_heard := by decide +kernel
theorem inX5_heard_5 : ∀ q ∈ u_ws RX5 TX5 6, q ∈ wsX5_heard := by decide +kernel
set_option maxHeartbeats 4000000 in
set_option maxRecDepth 100000 in
theorem t_B_X5_heard_54  {Q : Int32 → Int32 → Int32 → Int32 → Int32 → Int32 → Int32 → Int32 → Int32 → Int32 → Int32 → Int32 → Prop} (C : CxX p s m args c D (tysX cA) RX5 cX5_heard 5 wsX5_heard) (hrt9 : meth.sig.returnType = (some .int)) (hlk : meth.locks = false) (v2 : Int64) (v4 : Nat) (s1 : Int32) (s2 : Int32) (s3 : Int32) (e0 : Int32) (e1 : Int32) (e2 : Int32) (e3 : Int32) (e4 : Int32) (e5 : Int32) (e6 : Int32) (e7 : Int32) (e8 : Int32) (e9 : Int32) (e10 : Int32) (hv4 : v4 < 30) (h : B_X5_heard_54  Q hr v2 v4 s1 s2 s3 e0 e1 e2 e3 e4 e5 e6 e7 e8 e9 e10) : GoX p l e rmX5_heard s m args below meth c D A 5 0 0 (QP_X5_heard D A ad cA tl tx mn sd fr hd nw kp pt hr lr Q below args s) 54 [(0, .ref (ad 0)), (2, .long v2), (4, .ref (ad (22 + v4)))] [.int s3, .int s2, .int s1, .ref (ad 4)] (WX ad cA tl tx mn sd e0 e1 e2 e3 e4 e5 e6 e7 e8 e9 e10 fr hd nw kp pt hr lr) := by
  replace h : (F_X0_listen s1 s2 s3 e0 e1 e2 e3 e4 e5 e6 e7 e8 e9 e10 (fun e0_1 e1_2 e2_3 e3_4 e4_5 e5_6 e6_7 e7_8 e8_9 e9_10 e10_11 => (vp_in (6 : Int32) 9 ∧ (F_X0_hear v2 ((hr v4) (6 : Int32).toNatClampNeg) e0_1 e1_2 e2_3 e3_4 e4_5 e5_6 e6_7 e7_8 e8_9 e9_10 e10_11 (fun r_12 e3_13 e4_14 e5_15 e6_16 e7_17 e8_18 e9_19 e10_20 => (Q r_12 e0_1 e1_2 e2_3 e3_13 e4_14 e5_15 e6_16 e7_17 e8_18 e9_19 e10_20)))))) := h
  refine k_X0_listen C gX5_heard_X0_listen ⟨Nat.le_of_ble_eq_true rfl, Nat.le_of_ble_eq_true rfl⟩ ⟨Nat.zero_le _, Nat.zero_le _⟩ (Nat.le_of_ble_eq_true rfl) dX5_heard_54  h (fun e0_1 e1_2 e2_3 e3_4 e4_5 e5_6 e6_7 e7_8 e8_9 e9_10 e10_11 h => ?_)
  refine g_aload_n C 0 dX5_heard_57 rfl rfl ?_
  refine g_get C inX5_heard_5 0 WXg0 rfl 5 (by decide) lkX5_heard_41 rfl dX5_heard_58 ?_
  refine g_lload_n C 1 dX5_heard_61 rfl rfl ?_
  refine g_aload C 2 dX5_heard_62 rfl ?_
  refine g_bipush C (6 : Int32) dX5_heard_64 (by decide) ?_
  refine g_iald C (22 + v4) 1 (WXg_HR (by omega)) rfl h.1 dX5_heard_66 ?_
  replace h := h.2
  refine k_X0_hear C gX5_heard_X0_hear ⟨Nat.le_of_ble_eq_true rfl, Nat.le_of_ble_eq_true rfl⟩ ⟨Nat.zero_le _, Nat.zero_le _⟩ (Nat.le_of_ble_eq_true rfl) dX5_heard_67  h (fun r_12 e3_13 e4_14 e5_15 e6_16 e7_17 e8_18 e9_19 e10_20 h => ?_)
  exact g_iret C hrt9 hlk (u := (e0_1, e1_2, e2_3, e3_13, e4_14, e5_15, e6_16, e7_17, e8_18, e9_19, e10_20)) rfl h dX5_heard_70
set_option maxHeartbeats 4000000 in
set_option maxRecDepth 100000 in
theorem t_B_X5_heard_41  {Q : Int32 → Int32 → Int32 → Int32 → Int32 → Int32 → Int32 → Int32 → Int32 → Int32 → Int32 → Int32 → Prop} (C : CxX p s m args c D (tysX cA) RX5 cX5_heard 5 wsX5_heard) (hrt9 : meth.sig.returnType = (some .int)) (hlk : meth.locks = false) (v2 : Int64) (v4 : Nat) (s1 : Int32) (s2 : Int32) (e0 : Int32) (e1 : Int32) (e2 : Int32) (e3 : Int32) (e4 : Int32) (e5 : Int32) (e6 : Int32) (e7 : Int32) (e8 : Int32) (e9 : Int32) (e10 : Int32) (hv4 : v4 < 30) (h : B_X5_heard_41  Q hr v2 v4 s1 s2 e0 e1 e2 e3 e4 e5 e6 e7 e8 e9 e10) : GoX p l e rmX5_heard s m args below meth c D A 5 0 0 (QP_X5_heard D A ad cA tl tx mn sd fr hd nw kp pt hr lr Q below args s) 41 [(0, .ref (ad 0)), (2, .long v2), (4, .ref (ad (22 + v4)))] [.int s2, .int s1, .ref (ad 4)] (WX ad cA tl tx mn sd e0 e1 e2 e3 e4 e5 e6 e7 e8 e9 e10 fr hd nw kp pt hr lr) := by
  replace h : (vp_in (2 : Int32) 9 ∧ ((((hr v4) (2 : Int32).toNatClampNeg) = (1 : Int32) → (B_X5_heard_54  Q hr v2 v4 s1 s2 (1 : Int32) e0 e1 e2 e3 e4 e5 e6 e7 e8 e9 e10)) ∧ (¬ ((hr v4) (2 : Int32).toNatClampNeg) = (1 : Int32) → (B_X5_heard_54  Q hr v2 v4 s1 s2 (0 : Int32) e0 e1 e2 e3 e4 e5 e6 e7 e8 e9 e10)))) := h
  refine g_aload C 2 dX5_heard_41 rfl ?_
  refine g_iconst C (2 : Int32) dX5_heard_43 (by decide) ?_
  refine g_iald C (22 + v4) 1 (WXg_HR (by omega)) rfl h.1 dX5_heard_44 ?_
  replace h := h.2
  refine g_iconst C (1 : Int32) dX5_heard_45 (by decide) ?_
  refine g_icmp_ne C 53 dX5_heard_46 (by decide) (fun c_21 => ?_) (fun c_21 => ?_)
  · replace h := h.2 c_21
    refine g_iconst C (0 : Int32) dX5_heard_53 (by decide) ?_
    exact g_sub [0, 1, 2] rfl (t_B_X5_heard_54 C hrt9 hlk  v2 v4 s1 s2 (0 : Int32) e0 e1 e2 e3 e4 e5 e6 e7 e8 e9 e10 (by omega) h)
  · replace h := h.1 c_21
    refine g_iconst C (1 : Int32) dX5_heard_49 (by decide) ?_
    refine g_goto C 54 dX5_heard_50 (by decide) ?_
    exact g_sub [0, 1, 2] rfl (t_B_X5_heard_54 C hrt9 hlk  v2 v4 s1 s2 (1 : Int32) e0 e1 e2 e3 e4 e5 e6 e7 e8 e9 e10 (by omega) h)
set_option maxHeartbeats 4000000 in
set_option maxRecDepth 100000 in
theorem t_B_X5_heard_28  {Q : Int32 → Int32 → Int32 → Int32 → Int32 → Int32 → Int32 → Int32 → Int32 → Int32 → Int32 → Int32 → Prop} (C : CxX p s m args c D (tysX cA) RX5 cX5_heard 5 wsX5_heard) (hrt9 : meth.sig.returnType = (some .int)) (hlk : meth.locks = false) (v2 : Int64) (v4 : Nat) (s1 : Int32) (e0 : Int32) (e1 : Int32) (e2 : Int32) (e3 : Int32) (e4 : Int32) (e5 : Int32) (e6 : Int32) (e7 : Int32) (e8 : Int32) (e9 : Int32) (e10 : Int32) (hv4 : v4 < 30) (h : B_X5_heard_28  Q hr v2 v4 s1 e0 e1 e2 e3 e4 e5 e6 e7 e8 e9 e10) : GoX p l e rmX5_heard s m args below meth c D A 5 0 0 (QP_X5_heard D A ad cA tl tx mn sd fr hd nw kp pt hr lr Q below args s) 28 [(0, .ref (ad 0)), (2, .long v2), (4, .ref (ad (22 + v4)))] [.int s1, .ref (ad 4)] (WX ad cA tl tx mn sd e0 e1 e2 e3 e4 e5 e6 e7 e8 e9 e10 fr hd nw kp pt hr lr) := by
  replace h : (vp_in (1 : Int32) 9 ∧ ((((hr v4) (1 : Int32).toNatClampNeg) = (1 : Int32) → (B_X5_heard_41  Q hr v2 v4 s1 (1 : Int32) e0 e1 e2 e3 e4 e5 e6 e7 e8 e9 e10)) ∧ (¬ ((hr v4) (1 : Int32).toNatClampNeg) = (1 : Int32) → (B_X5_heard_41  Q hr v2 v4 s1 (0 : Int32) e0 e1 e2 e3 e4 e5 e6 e7 e8 e9 e10)))) := h
  refine g_aload C 2 dX5_heard_28 rfl ?_
  refine g_iconst C (1 : Int32) dX5_heard_30 (by decide) ?_
  refine g_iald C (22 + v4) 1 (WXg_HR (by omega)) rfl h.1 dX5_heard_31 ?_
  replace h := h.2
  refine g_iconst C (1 : Int32) dX5_heard_32 (by decide) ?_
  refine g_icmp_ne C 40 dX5_heard_33 (by decide) (fun c_22 => ?_) (fun c_22 => ?_)
  · replace h := h.2 c_22
    refine g_iconst C (0 : Int32) dX5_heard_40 (by decide) ?_
    exact g_sub [0, 1, 2] rfl (t_B_X5_heard_41 C hrt9 hlk  v2 v4 s1 (0 : Int32) e0 e1 e2 e3 e4 e5 e6 e7 e8 e9 e10 (by omega) h)
  · replace h := h.1 c_22
    refine g_iconst C (1 : Int32) dX5_heard_36 (by decide) ?_
    refine g_goto C 41 dX5_heard_37 (by decide) ?_
    exact g_sub [0, 1, 2] rfl (t_B_X5_heard_41 C hrt9 hlk  v2 v4 s1 (1 : Int32) e0 e1 e2 e3 e4 e5 e6 e7 e8 e9 e10 (by omega) h)
set_option maxHeartbeats 4000000 in
set_option maxRecDepth 100000 in
theorem t_B_X5_heard_0  {Q : Int32 → Int32 → Int32 → Int32 → Int32 → Int32 → Int32 → Int32 → Int32 → Int32 → Int32 → Int32 → Prop} (C : CxX p s m args c D (tysX cA) RX5 cX5_heard 5 wsX5_heard) (hrt9 : meth.sig.returnType = (some .int)) (hlk : meth.locks = false) (v1 : Int32) (v2 : Int64) (e0 : Int32) (e1 : Int32) (e2 : Int32) (e3 : Int32) (e4 : Int32) (e5 : Int32) (e6 : Int32) (e7 : Int32) (e8 : Int32) (e9 : Int32) (e10 : Int32)  (h : B_X5_heard_0  Q hr v1 v2 e0 e1 e2 e3 e4 e5 e6 e7 e8 e9 e10) : GoX p l e rmX5_heard s m args below meth c D A 5 0 0 (QP_X5_heard D A ad cA tl tx mn sd fr hd nw kp pt hr lr Q below args s) 0 [(0, .ref (ad 0)), (1, .int v1), (2, .long v2)] [] (WX ad cA tl tx mn sd e0 e1 e2 e3 e4 e5 e6 e7 e8 e9 e10 fr hd nw kp pt hr lr) := by
  replace h : (vp_in v1 6 ∧ (vp_in (0 : Int32) 9 ∧ ((((hr (6 * 0 + v1.toNatClampNeg)) (0 : Int32).toNatClampNeg) = (1 : Int32) → (B_X5_heard_28  Q hr v2 (6 * 0 + v1.toNatClampNeg) (1 : Int32) e0 e1 e2 e3 e4 e5 e6 e7 e8 e9 e10)) ∧ (¬ ((hr (6 * 0 + v1.toNatClampNeg)) (0 : Int32).toNatClampNeg) = (1 : Int32) → (B_X5_heard_28  Q hr v2 (6 * 0 + v1.toNatClampNeg) (0 : Int32) e0 e1 e2 e3 e4 e5 e6 e7 e8 e9 e10))))) := h
  refine g_aload_n C 0 dX5_heard_0 rfl rfl ?_
  refine g_get C inX5_heard_5 0 WXg0 rfl 0 (by decide) lkX5_heard_10 rfl dX5_heard_1 ?_
  refine g_get C inX5_heard_3 (7 + 0) (WXg_ST (by omega)) rfl 0 (by decide) lkX5_heard_57 rfl dX5_heard_4 ?_
  refine g_iload_n C 1 dX5_heard_7 rfl rfl ?_
  have b_23 := vp_lt h.1
  refine g_aald C (12 + 0) 4 (WXg_HO (by omega)) rfl rfl h.1 rfl dX5_heard_8 ?_
  replace h := h.2
  refine g_astore C (lv2 := [(4, .ref (ad (22 + (6 * 0 + v1.toNatClampNeg)))), (0, .ref (ad 0)), (1, .int v1), (2, .long v2)]) dX5_heard_9 (by decide) rfl ?_
  refine g_aload_n C 1 dX5_heard_11 rfl rfl ?_
  refine g_get C inX5_heard_5 0 WXg0 rfl 5 (by decide) lkX5_heard_41 rfl dX5_heard_12 ?_
  refine g_aload C 0 dX5_heard_15 rfl ?_
  refine g_iconst C (0 : Int32) dX5_heard_17 (by decide) ?_
  refine g_iald C (22 + (6 * 0 + v1.toNatClampNeg)) 1 (WXg_HR (by omega)) rfl h.1 dX5_heard_18 ?_
  replace h := h.2
  refine g_iconst C (1 : Int32) dX5_heard_19 (by decide) ?_
  refine g_icmp_ne C 27 dX5_heard_20 (by decide) (fun c_24 => ?_) (fun c_24 => ?_)
  · replace h := h.2 c_24
    refine g_iconst C (0 : Int32) dX5_heard_27 (by decide) ?_
    exact g_sub [1, 3, 0] rfl (t_B_X5_heard_28 C hrt9 hlk  v2 (6 * 0 + v1.toNatClampNeg) (0 : Int32) e0 e1 e2 e3 e4 e5 e6 e7 e8 e9 e10 (by omega) h)
  · replace h := h.1 c_24
    refine g_iconst C (1 : Int32) dX5_heard_23 (by decide) ?_
    refine g_goto C 28 dX5_heard_24 (by decide) ?_
    exact g_sub [1, 3, 0] rfl (t_B_X5_heard_28 C hrt9 hlk  v2 (6 * 0 + v1.toNatClampNeg) (1 : Int32) e0 e1 e2 e3 e4 e5 e6 e7 e8 e9 e10 (by omega) h)
theorem c_X5_heard (l : Launch) (D : va_G) (A : Nat → Prop) (ad : Nat → Nat) (cA : Nat → ClassId) (v1 : Int32) (v2 : Int64) {tl : Int32} {tx : (Nat → Int32)} {mn : Int32} {sd : (Nat → Int64)} {e0 : Int32} {e1 : Int32} {e2 : Int32} {e3 : Int32} {e4 : Int32} {e5 : Int32} {e6 : Int32} {e7 : Int32} {e8 : Int32} {e9 : Int32} {e10 : Int32} {fr : Int32} {hd : Int32} {nw : (Nat → Int32)} {kp : (Nat → Int32)} {pt : (Nat → Int32)} {hr : (Nat → Nat → Int32)} {lr : (Nat → Nat → Int32)}  (Q : Int32 → Int32 → Int32 → Int32 → Int32 → Int32 → Int32 → Int32 → Int32 → Int32 → Int32 → Int32 → Prop) (h : F_X5_heard v1 v2 hr e0 e1 e2 e3 e4 e5 e6 e7 e8 e9 e10 Q) : Met l yX5_heard wsX5_heard rmX5_heard (va_Pc [.ref (ad 0), .int v1, .long v2] (OKX D (tysX cA) (WX ad cA tl tx mn sd e0 e1 e2 e3 e4 e5 e6 e7 e8 e9 e10 fr hd nw kp pt hr lr) A)) (QC_X5_heard D A ad cA tl tx mn sd fr hd nw kp pt hr lr Q) 0 0 A :=
  g_met (own := RX5) (by decide) rfl rfl (Nat.le_of_ble_eq_true rfl) (fun p e s m below meth c C hrt9 hlk _ => g_sub [0, 1, 2] rfl (t_B_X5_heard_0 C hrt9 hlk v1 v2 e0 e1 e2 e3 e4 e5 e6 e7 e8 e9 e10  h))
theorem k_X5_heard {ws : List Cond} {own : String} {cc : ByteArray} {nL pc index kc ks : Nat} {lv : List (Nat × Value)} {st : List Value} {Q : State → Prop} {R : Room} {K : Int32 → Int32 → Int32 → Int32 → Int32 → Int32 → Int32 → Int32 → Int32 → Int32 → Int32 → Int32 → Prop} {v1 : Int32} {v2 : Int64} (C : CxX p s m args c D (tysX cA) own cc nL ws) (hT : GoodIn ws (wsV own index RX5 yX5_heard wsX5_heard)) (hR : rmX5_heard.frames + 1 ≤ R.frames ∧ 8 + (5 + 11) + rmX5_heard.locals ≤ R.locals) (hk9 : kc ≤ R.cells ∧ ks ≤ R.slots) (hcat : (st.map fun v => v.category).sum ≤ 8) (hdg : decode cc pc = .ok (.invokevirtual index, 3))  (h : F_X5_heard v1 v2 hr e0 e1 e2 e3 e4 e5 e6 e7 e8 e9 e10 K) (kk : ∀ (r : Int32) (e0q : Int32) (e1q : Int32) (e2q : Int32) (e3q : Int32) (e4q : Int32) (e5q : Int32) (e6q : Int32) (e7q : Int32) (e8q : Int32) (e9q : Int32) (e10q : Int32), K r e0q e1q e2q e3q e4q e5q e6q e7q e8q e9q e10q → GoX p l e R s m args below meth c D A nL kc ks Q (pc + 3) lv (.int r :: st) (WX ad cA tl tx mn sd e0q e1q e2q e3q e4q e5q e6q e7q e8q e9q e10q fr hd nw kp pt hr lr)) : GoX p l e R s m args below meth c D A nL kc ks Q pc lv (.long v2 :: .int v1 :: .ref (ad 0) :: st) (WX ad cA tl tx mn sd e0 e1 e2 e3 e4 e5 e6 e7 e8 e9 e10 fr hd nw kp pt hr lr) :=
  g_callVi C (As := [.int v1, .long v2]) 2 (c_X5_heard l D A ad cA v1 v2  K h) hT rfl rfl rfl (by decide +kernel) hR hk9 0 WXg0 rfl rfl rfl hcat hdg (fun r u hu => kk r u.1 u.2.1 u.2.2.1 u.2.2.2.1 u.2.2.2.2.1 u.2.2.2.2.2.1 u.2.2.2.2.2.2.1 u.2.2.2.2.2.2.2.1 u.2.2.2.2.2.2.2.2.1 u.2.2.2.2.2.2.2.2.2.1 u.2.2.2.2.2.2.2.2.2.2 hu)
/-! X5_reached -/
abbrev rmX5_reached : Room := { frames := 5, cells := 0, slots := 0, locals := 113 }
abbrev QC_X5_reached (D : va_G) (A : Nat → Prop) (ad : Nat → Nat) (cA : Nat → ClassId) (tl : Int32) (tx : (Nat → Int32)) (mn : Int32) (sd : (Nat → Int64)) (fr : Int32) (hd : Int32) (nw : (Nat → Int32)) (kp : (Nat → Int32)) (pt : (Nat → Int32)) (hr : (Nat → Nat → Int32)) (lr : (Nat → Nat → Int32)) (Q : Int32 → Int32 → Int32 → Int32 → Int32 → Int32 → Int32 → Int32 → Int32 → Int32 → Int32 → Int32 → Prop) : Array Value → State → Outcome → State → Prop := va_Qi (fun (r : Int32) (u : Int32 × Int32 × Int32 × Int32 × Int32 × Int32 × Int32 × Int32 × Int32 × Int32 × Int32) => Q r u.1 u.2.1 u.2.2.1 u.2.2.2.1 u.2.2.2.2.1 u.2.2.2.2.2.1 u.2.2.2.2.2.2.1 u.2.2.2.2.2.2.2.1 u.2.2.2.2.2.2.2.2.1 u.2.2.2.2.2.2.2.2.2.1 u.2.2.2.2.2.2.2.2.2.2) (fun u t => OKX D (tysX cA) ((fun u : Int32 × Int32 × Int32 × Int32 × Int32 × Int32 × Int32 × Int32 × Int32 × Int32 × Int32 => WX ad cA tl tx mn sd u.1 u.2.1 u.2.2.1 u.2.2.2.1 u.2.2.2.2.1 u.2.2.2.2.2.1 u.2.2.2.2.2.2.1 u.2.2.2.2.2.2.2.1 u.2.2.2.2.2.2.2.2.1 u.2.2.2.2.2.2.2.2.2.1 u.2.2.2.2.2.2.2.2.2.2 fr hd nw kp pt hr lr) u) A t) A
abbrev QP_X5_reached (D : va_G) (A : Nat → Prop) (ad : Nat → Nat) (cA : Nat → ClassId) (tl : Int32) (tx : (Nat → Int32)) (mn : Int32) (sd : (Nat → Int64)) (fr : Int32) (hd : Int32) (nw : (Nat → Int32)) (kp : (Nat → Int32)) (pt : (Nat → Int32)) (hr : (Nat → Nat → Int32)) (lr : (Nat → Nat → Int32)) (Q : Int32 → Int32 → Int32 → Int32 → Int32 → Int32 → Int32 → Int32 → Int32 → Int32 → Int32 → Int32 → Prop) (below : List Frame) (args : Array Value) (s : State) : State → Prop := MQ below (QC_X5_reached D A ad cA tl tx mn sd fr hd nw kp pt hr lr Q) args s 0 0 A
def B_X5_reached_27 (kh6 : Int32 → Int64 → Int32 → Int32 → Int32 → Int32 → Int32 → Int32 → Int32 → Int32 → Int32 → Int32 → Int32 → Int32 → Int32 → Prop) (Q : Int32 → Int32 → Int32 → Int32 → Int32 → Int32 → Int32 → Int32 → Int32 → Int32 → Int32 → Int32 → Prop) (hr : (Nat → Nat → Int32)) (v1 : Int32) (v2 : Int64) (v4 : Int32) (v5 : Int32) (e0 : Int32) (e1 : Int32) (e2 : Int32) (e3 : Int32) (e4 : Int32) (e5 : Int32) (e6 : Int32) (e7 : Int32) (e8 : Int32) (e9 : Int32) (e10 : Int32) : Prop := (kh6 v1 v2 v4 (v5 + (1 : Int32)) e0 e1 e2 e3 e4 e5 e6 e7 e8 e9 e10)
noncomputable def L_X5_reached_6  (Q : Int32 → Int32 → Int32 → Int32 → Int32 → Int32 → Int32 → Int32 → Int32 → Int32 → Int32 → Int32 → Prop) (hr : (Nat → Nat → Int32)) (n9 : Nat) : Int32 → Int64 → Int32 → Int32 → Int32 → Int32 → Int32 → Int32 → Int32 → Int32 → Int32 → Int32 → Int32 → Int32 → Int32 → Prop := Nat.rec (motive := fun _ => Int32 → Int64 → Int32 → Int32 → Int32 → Int32 → Int32 → Int32 → Int32 → Int32 → Int32 → Int32 → Int32 → Int32 → Int32 → Prop) (fun _ _ _ _ _ _ _ _ _ _ _ _ _ _ _ => False) (fun _ kh6 => fun v1 v2 v4 v5 e0 e1 e2 e3 e4 e5 e6 e7 e8 e9 e10 => (((6 : Int32) ≤ v5 → (Q v4 e0 e1 e2 e3 e4 e5 e6 e7 e8 e9 e10)) ∧ (¬ (6 : Int32) ≤ v5 → (F_X5_heard v5 v2 hr e0 e1 e2 e3 e4 e5 e6 e7 e8 e9 e10 (fun r_2 e0_3 e1_4 e2_5 e3_6 e4_7 e5_8 e6_9 e7_10 e8_11 e9_12 e10_13 => ((r_2 = v1 → (B_X5_reached_27 kh6 Q hr v1 v2 (v4 + (1 : Int32)) v5 e0_3 e1_4 e2_5 e3_6 e4_7 e5_8 e6_9 e7_10 e8_11 e9_12 e10_13)) ∧ (¬ r_2 = v1 → (B_X5_reached_27 kh6 Q hr v1 v2 v4 v5 e0_3 e1_4 e2_5 e3_6 e4_7 e5_8 e6_9 e7_10 e8_11 e9_12 e10_13)))))))) n9
def B_X5_reached_0  (Q : Int32 → Int32 → Int32 → Int32 → Int32 → Int32 → Int32 → Int32 → Int32 → Int32 → Int32 → Int32 → Prop) (hr : (Nat → Nat → Int32)) (v1 : Int32) (v2 : Int64) (e0 : Int32) (e1 : Int32) (e2 : Int32) (e3 : Int32) (e4 : Int32) (e5 : Int32) (e6 : Int32) (e7 : Int32) (e8 : Int32) (e9 : Int32) (e10 : Int32) : Prop := (∃ n9 : Nat, L_X5_reached_6  Q hr n9 v1 v2 (0 : Int32) (0 : Int32) e0 e1 e2 e3 e4 e5 e6 e7 e8 e9 e10)
def F_X5_reached (v1 : Int32) (v2 : Int64) (hr : (Nat → Nat → Int32)) (e0 : Int32) (e1 : Int32) (e2 : Int32) (e3 : Int32) (e4 : Int32) (e5 : Int32) (e6 : Int32) (e7 : Int32) (e8 : Int32) (e9 : Int32) (e10 : Int32) (Q : Int32 → Int32 → Int32 → Int32 → Int32 → Int32 → Int32 → Int32 → Int32 → Int32 → Int32 → Int32 → Prop) : Prop := B_X5_reached_0 Q hr v1 v2 e0 e1 e2 e3 e4 e5 e6 e7 e8 e9 e10
set_option maxHeartbeats 4000000 in
set_option maxRecDepth 100000 in
theorem t_B_X5_reached_27 {kh6 : Int32 → Int64 → Int32 → Int32 → Int32 → Int32 → Int32 → Int32 → Int32 → Int32 → Int32 → Int32 → Int32 → Int32 → Int32 → Prop} {Q : Int32 → Int32 → Int32 → Int32 → Int32 → Int32 → Int32 → Int32 → Int32 → Int32 → Int32 → Int32 → Prop} (C : CxX p s m args c D (tysX cA) RX5 cX5_reached 6 wsX5_reached) (hrt9 : meth.sig.returnType = (some .int)) (hlk : meth.locks = false) (Hk6 : ∀ (v1q : Int32) (v2q : Int64) (v4q : Int32) (v5q : Int32) (e0q : Int32) (e1q : Int32) (e2q : Int32) (e3q : Int32) (e4q : Int32) (e5q : Int32) (e6q : Int32) (e7q : Int32) (e8q : Int32) (e9q : Int32) (e10q : Int32) , kh6 v1q v2q v4q v5q e0q e1q e2q e3q e4q e5q e6q e7q e8q e9q e10q → GoX p l e rmX5_reached s m args below meth c D A 6 0 0 (QP_X5_reached D A ad cA tl tx mn sd fr hd nw kp pt hr lr Q below args s) 6 [(0, .ref (ad 0)), (1, .int v1q), (2, .long v2q), (4, .int v4q), (5, .int v5q)] [] (WX ad cA tl tx mn sd e0q e1q e2q e3q e4q e5q e6q e7q e8q e9q e10q fr hd nw kp pt hr lr)) (v1 : Int32) (v2 : Int64) (v4 : Int32) (v5 : Int32) (e0 : Int32) (e1 : Int32) (e2 : Int32) (e3 : Int32) (e4 : Int32) (e5 : Int32) (e6 : Int32) (e7 : Int32) (e8 : Int32) (e9 : Int32) (e10 : Int32)  (h : B_X5_reached_27 kh6 Q hr v1 v2 v4 v5 e0 e1 e2 e3 e4 e5 e6 e7 e8 e9 e10) : GoX p l e rmX5_reached s m args below meth c D A 6 0 0 (QP_X5_reached D A ad cA tl tx mn sd fr hd nw kp pt hr lr Q below args s) 27 [(0, .ref (ad 0)), (1, .int v1), (2, .long v2), (4, .int v4), (5, .int v5)] [] (WX ad cA tl tx mn sd e0 e1 e2 e3 e4 e5 e6 e7 e8 e9 e10 fr hd nw kp pt hr lr) := by
  replace h : (kh6 v1 v2 v4 (v5 + (1 : Int32)) e0 e1 e2 e3 e4 e5 e6 e7 e8 e9 e10) := h
  refine g_iinc C (v := (v5 + (1 : Int32))) (lv2 := [(5, .int (v5 + (1 : Int32))), (0, .ref (ad 0)), (1, .int v1), (2, .long v2), (4, .int v4)]) 4 dX5_reached_27 rfl rfl (by decide) rfl ?_
  refine g_goto C 6 dX5_reached_30 (by decide) ?_
  exact g_sub [1, 2, 3, 4, 0] rfl (Hk6 v1 v2 v4 (v5 + (1 : Int32)) e0 e1 e2 e3 e4 e5 e6 e7 e8 e9 e10  h)
set_option maxHeartbeats 4000000 in
set_option maxRecDepth 100000 in
theorem t_L_X5_reached_6  {Q : Int32 → Int32 → Int32 → Int32 → Int32 → Int32 → Int32 → Int32 → Int32 → Int32 → Int32 → Int32 → Prop} (C : CxX p s m args c D (tysX cA) RX5 cX5_reached 6 wsX5_reached) (hrt9 : meth.sig.returnType = (some .int)) (hlk : meth.locks = false) (m9 : Nat) : ∀ (v1 : Int32) (v2 : Int64) (v4 : Int32) (v5 : Int32) (e0 : Int32) (e1 : Int32) (e2 : Int32) (e3 : Int32) (e4 : Int32) (e5 : Int32) (e6 : Int32) (e7 : Int32) (e8 : Int32) (e9 : Int32) (e10 : Int32) , L_X5_reached_6  Q hr m9 v1 v2 v4 v5 e0 e1 e2 e3 e4 e5 e6 e7 e8 e9 e10 → GoX p l e rmX5_reached s m args below meth c D A 6 0 0 (QP_X5_reached D A ad cA tl tx mn sd fr hd nw kp pt hr lr Q below args s) 6 [(0, .ref (ad 0)), (1, .int v1), (2, .long v2), (4, .int v4), (5, .int v5)] [] (WX ad cA tl tx mn sd e0 e1 e2 e3 e4 e5 e6 e7 e8 e9 e10 fr hd nw kp pt hr lr) := by
  induction m9 with
  | zero =>
    intro v1 v2 v4 v5 e0 e1 e2 e3 e4 e5 e6 e7 e8 e9 e10 h
    exact False.elim h
  | succ m9 Hk6 =>
    intro v1 v2 v4 v5 e0 e1 e2 e3 e4 e5 e6 e7 e8 e9 e10 h
    replace h : (((6 : Int32) ≤ v5 → (Q v4 e0 e1 e2 e3 e4 e5 e6 e7 e8 e9 e10)) ∧ (¬ (6 : Int32) ≤ v5 → (F_X5_heard v5 v2 hr e0 e1 e2 e3 e4 e5 e6 e7 e8 e9 e10 (fun r_2 e0_3 e1_4 e2_5 e3_6 e4_7 e5_8 e6_9 e7_10 e8_11 e9_12 e10_13 => ((r_2 = v1 → (B_X5_reached_27 (L_X5_reached_6  Q hr m9) Q hr v1 v2 (v4 + (1 : Int32)) v5 e0_3 e1_4 e2_5 e3_6 e4_7 e5_8 e6_9 e7_10 e8_11 e9_12 e10_13)) ∧ (¬ r_2 = v1 → (B_X5_reached_27 (L_X5_reached_6  Q hr m9) Q hr v1 v2 v4 v5 e0_3 e1_4 e2_5 e3_6 e4_7 e5_8 e6_9 e7_10 e8_11 e9_12 e10_13))))))) := h
    refine g_iload C 4 dX5_reached_6 rfl ?_
    refine g_bipush C (6 : Int32) dX5_reached_8 (by decide) ?_
    refine g_icmp_ge C 33 dX5_reached_10 (by decide) (fun c_1 => ?_) (fun c_1 => ?_)
    · replace h := h.1 c_1
      refine g_iload C 3 dX5_reached_33 rfl ?_
      exact g_iret C hrt9 hlk (u := (e0, e1, e2, e3, e4, e5, e6, e7, e8, e9, e10)) rfl h dX5_reached_35
    · replace h := h.2 c_1
      refine g_aload_n C 0 dX5_reached_13 rfl rfl ?_
      refine g_iload C 4 dX5_reached_14 rfl ?_
      refine g_lload_n C 2 dX5_reached_16 rfl rfl ?_
      refine k_X5_heard C gX5_reached_X5_heard ⟨Nat.le_of_ble_eq_true rfl, Nat.le_of_ble_eq_true rfl⟩ ⟨Nat.zero_le _, Nat.zero_le _⟩ (Nat.le_of_ble_eq_true rfl) dX5_reached_17  h (fun r_2 e0_3 e1_4 e2_5 e3_6 e4_7 e5_8 e6_9 e7_10 e8_11 e9_12 e10_13 h => ?_)
      refine g_iload_n C 1 dX5_reached_20 rfl rfl ?_
      refine g_icmp_ne C 27 dX5_reached_21 (by decide) (fun c_14 => ?_) (fun c_14 => ?_)
      · replace h := h.2 c_14
        exact g_sub [0, 1, 2, 3, 4] rfl (t_B_X5_reached_27 C hrt9 hlk Hk6 v1 v2 v4 v5 e0_3 e1_4 e2_5 e3_6 e4_7 e5_8 e6_9 e7_10 e8_11 e9_12 e10_13  h)
      · replace h := h.1 c_14
        refine g_iinc C (v := (v4 + (1 : Int32))) (lv2 := [(4, .int (v4 + (1 : Int32))), (0, .ref (ad 0)), (1, .int v1), (2, .long v2), (5, .int v5)]) 3 dX5_reached_24 rfl rfl (by decide) rfl ?_
        exact g_sub [1, 2, 3, 0, 4] rfl (t_B_X5_reached_27 C hrt9 hlk Hk6 v1 v2 (v4 + (1 : Int32)) v5 e0_3 e1_4 e2_5 e3_6 e4_7 e5_8 e6_9 e7_10 e8_11 e9_12 e10_13  h)
set_option maxHeartbeats 4000000 in
set_option maxRecDepth 100000 in
theorem t_B_X5_reached_0  {Q : Int32 → Int32 → Int32 → Int32 → Int32 → Int32 → Int32 → Int32 → Int32 → Int32 → Int32 → Int32 → Prop} (C : CxX p s m args c D (tysX cA) RX5 cX5_reached 6 wsX5_reached) (hrt9 : meth.sig.returnType = (some .int)) (hlk : meth.locks = false) (v1 : Int32) (v2 : Int64) (e0 : Int32) (e1 : Int32) (e2 : Int32) (e3 : Int32) (e4 : Int32) (e5 : Int32) (e6 : Int32) (e7 : Int32) (e8 : Int32) (e9 : Int32) (e10 : Int32)  (h : B_X5_reached_0  Q hr v1 v2 e0 e1 e2 e3 e4 e5 e6 e7 e8 e9 e10) : GoX p l e rmX5_reached s m args below meth c D A 6 0 0 (QP_X5_reached D A ad cA tl tx mn sd fr hd nw kp pt hr lr Q below args s) 0 [(0, .ref (ad 0)), (1, .int v1), (2, .long v2)] [] (WX ad cA tl tx mn sd e0 e1 e2 e3 e4 e5 e6 e7 e8 e9 e10 fr hd nw kp pt hr lr) := by
  replace h : (∃ n9 : Nat, L_X5_reached_6  Q hr n9 v1 v2 (0 : Int32) (0 : Int32) e0 e1 e2 e3 e4 e5 e6 e7 e8 e9 e10) := h
  refine g_iconst C (0 : Int32) dX5_reached_0 (by decide) ?_
  refine g_istore C (lv2 := [(4, .int (0 : Int32)), (0, .ref (ad 0)), (1, .int v1), (2, .long v2)]) dX5_reached_1 (by decide) rfl ?_
  refine g_iconst C (0 : Int32) dX5_reached_3 (by decide) ?_
  refine g_istore C (lv2 := [(5, .int (0 : Int32)), (4, .int (0 : Int32)), (0, .ref (ad 0)), (1, .int v1), (2, .long v2)]) dX5_reached_4 (by decide) rfl ?_
  obtain ⟨n9, h⟩ := h
  exact g_sub [2, 3, 4, 1, 0] rfl (t_L_X5_reached_6 C hrt9 hlk  n9 v1 v2 (0 : Int32) (0 : Int32) e0 e1 e2 e3 e4 e5 e6 e7 e8 e9 e10  h)
theorem c_X5_reached (l : Launch) (D : va_G) (A : Nat → Prop) (ad : Nat → Nat) (cA : Nat → ClassId) (v1 : Int32) (v2 : Int64) {tl : Int32} {tx : (Nat → Int32)} {mn : Int32} {sd : (Nat → Int64)} {e0 : Int32} {e1 : Int32} {e2 : Int32} {e3 : Int32} {e4 : Int32} {e5 : Int32} {e6 : Int32} {e7 : Int32} {e8 : Int32} {e9 : Int32} {e10 : Int32} {fr : Int32} {hd : Int32} {nw : (Nat → Int32)} {kp : (Nat → Int32)} {pt : (Nat → Int32)} {hr : (Nat → Nat → Int32)} {lr : (Nat → Nat → Int32)}  (Q : Int32 → Int32 → Int32 → Int32 → Int32 → Int32 → Int32 → Int32 → Int32 → Int32 → Int32 → Int32 → Prop) (h : F_X5_reached v1 v2 hr e0 e1 e2 e3 e4 e5 e6 e7 e8 e9 e10 Q) : Met l yX5_reached wsX5_reached rmX5_reached (va_Pc [.ref (ad 0), .int v1, .long v2] (OKX D (tysX cA) (WX ad cA tl tx mn sd e0 e1 e2 e3 e4 e5 e6 e7 e8 e9 e10 fr hd nw kp pt hr lr) A)) (QC_X5_reached D A ad cA tl tx mn sd fr hd nw kp pt hr lr Q) 0 0 A :=
  g_met (own := RX5) (by decide) rfl rfl (Nat.le_of_ble_eq_true rfl) (fun p e s m below meth c C hrt9 hlk _ => g_sub [0, 1, 2] rfl (t_B_X5_reached_0 C hrt9 hlk v1 v2 e0 e1 e2 e3 e4 e5 e6 e7 e8 e9 e10  h))
theorem k_X5_reached {ws : List Cond} {own : String} {cc : ByteArray} {nL pc index kc ks : Nat} {lv : List (Nat × Value)} {st : List Value} {Q : State → Prop} {R : Room} {K : Int32 → Int32 → Int32 → Int32 → Int32 → Int32 → Int32 → Int32 → Int32 → Int32 → Int32 → Int32 → Prop} {v1 : Int32} {v2 : Int64} (C : CxX p s m args c D (tysX cA) own cc nL ws) (hT : GoodIn ws (wsV own index RX5 yX5_reached wsX5_reached)) (hR : rmX5_reached.frames + 1 ≤ R.frames ∧ 8 + (6 + 11) + rmX5_reached.locals ≤ R.locals) (hk9 : kc ≤ R.cells ∧ ks ≤ R.slots) (hcat : (st.map fun v => v.category).sum ≤ 8) (hdg : decode cc pc = .ok (.invokevirtual index, 3))  (h : F_X5_reached v1 v2 hr e0 e1 e2 e3 e4 e5 e6 e7 e8 e9 e10 K) (kk : ∀ (r : Int32) (e0q : Int32) (e1q : Int32) (e2q : Int32) (e3q : Int32) (e4q : Int32) (e5q : Int32) (e6q : Int32) (e7q : Int32) (e8q : Int32) (e9q : Int32) (e10q : Int32), K r e0q e1q e2q e3q e4q e5q e6q e7q e8q e9q e10q → GoX p l e R s m args below meth c D A nL kc ks Q (pc + 3) lv (.int r :: st) (WX ad cA tl tx mn sd e0q e1q e2q e3q e4q e5q e6q e7q e8q e9q e10q fr hd nw kp pt hr lr)) : GoX p l e R s m args below meth c D A nL kc ks Q pc lv (.long v2 :: .int v1 :: .ref (ad 0) :: st) (WX ad cA tl tx mn sd e0 e1 e2 e3 e4 e5 e6 e7 e8 e9 e10 fr hd nw kp pt hr lr) :=
  g_callVi C (As := [.int v1, .long v2]) 2 (c_X5_reached l D A ad cA v1 v2  K h) hT rfl rfl rfl (by decide +kernel) hR hk9 0 WXg0 rfl rfl rfl hcat hdg (fun r u hu => kk r u.1 u.2.1 u.2.2.1 u.2.2.2.1 u.2.2.2.2.1 u.2.2.2.2.2.1 u.2.2.2.2.2.2.1 u.2.2.2.2.2.2.2.1 u.2.2.2.2.2.2.2.2.1 u.2.2.2.2.2.2.2.2.2.1 u.2.2.2.2.2.2.2.2.2.2 hu)
/-! X5_firstUnderstood -/
abbrev rmX5_firstUnderstood : Room := { frames := 6, cells := 0, slots := 0, locals := 148 }
abbrev QC_X5_firstUnderstood (D : va_G) (A : Nat → Prop) (ad : Nat → Nat) (cA : Nat → ClassId) (tl : Int32) (tx : (Nat → Int32)) (fr : Int32) (hd : Int32) (nw : (Nat → Int32)) (kp : (Nat → Int32)) (pt : (Nat → Int32)) (hr : (Nat → Nat → Int32)) (lr : (Nat → Nat → Int32)) (Q : Int32 → Int32 → (Nat → Int64) → Int32 → Int32 → Int32 → Int32 → Int32 → Int32 → Int32 → Int32 → Int32 → Int32 → Int32 → Prop) : Array Value → State → Outcome → State → Prop := va_Qi (fun (r : Int32) (u : Int32 × (Nat → Int64) × Int32 × Int32 × Int32 × Int32 × Int32 × Int32 × Int32 × Int32 × Int32 × Int32 × Int32) => Q r u.1 u.2.1 u.2.2.1 u.2.2.2.1 u.2.2.2.2.1 u.2.2.2.2.2.1 u.2.2.2.2.2.2.1 u.2.2.2.2.2.2.2.1 u.2.2.2.2.2.2.2.2.1 u.2.2.2.2.2.2.2.2.2.1 u.2.2.2.2.2.2.2.2.2.2.1 u.2.2.2.2.2.2.2.2.2.2.2.1 u.2.2.2.2.2.2.2.2.2.2.2.2) (fun u t => OKX D (tysX cA) ((fun u : Int32 × (Nat → Int64) × Int32 × Int32 × Int32 × Int32 × Int32 × Int32 × Int32 × Int32 × Int32 × Int32 × Int32 => WX ad cA tl tx u.1 u.2.1 u.2.2.1 u.2.2.2.1 u.2.2.2.2.1 u.2.2.2.2.2.1 u.2.2.2.2.2.2.1 u.2.2.2.2.2.2.2.1 u.2.2.2.2.2.2.2.2.1 u.2.2.2.2.2.2.2.2.2.1 u.2.2.2.2.2.2.2.2.2.2.1 u.2.2.2.2.2.2.2.2.2.2.2.1 u.2.2.2.2.2.2.2.2.2.2.2.2 fr hd nw kp pt hr lr) u) A t) A
abbrev QP_X5_firstUnderstood (D : va_G) (A : Nat → Prop) (ad : Nat → Nat) (cA : Nat → ClassId) (tl : Int32) (tx : (Nat → Int32)) (fr : Int32) (hd : Int32) (nw : (Nat → Int32)) (kp : (Nat → Int32)) (pt : (Nat → Int32)) (hr : (Nat → Nat → Int32)) (lr : (Nat → Nat → Int32)) (Q : Int32 → Int32 → (Nat → Int64) → Int32 → Int32 → Int32 → Int32 → Int32 → Int32 → Int32 → Int32 → Int32 → Int32 → Int32 → Prop) (below : List Frame) (args : Array Value) (s : State) : State → Prop := MQ below (QC_X5_firstUnderstood D A ad cA tl tx fr hd nw kp pt hr lr Q) args s 0 0 A
noncomputable def L_X5_firstUnderstood_10  (Q : Int32 → Int32 → (Nat → Int64) → Int32 → Int32 → Int32 → Int32 → Int32 → Int32 → Int32 → Int32 → Int32 → Int32 → Int32 → Prop) (hr : (Nat → Nat → Int32)) (n9 : Nat) : Int32 → Int32 → Int32 → Int32 → (Nat → Int64) → Int32 → Int32 → Int32 → Int32 → Int32 → Int32 → Int32 → Int32 → Int32 → Int32 → Int32 → Prop := Nat.rec (motive := fun _ => Int32 → Int32 → Int32 → Int32 → (Nat → Int64) → Int32 → Int32 → Int32 → Int32 → Int32 → Int32 → Int32 → Int32 → Int32 → Int32 → Int32 → Prop) (fun _ _ _ _ _ _ _ _ _ _ _ _ _ _ _ _ => False) (fun _ kh10 => fun v1 v2 v3 mn sd e0 e1 e2 e3 e4 e5 e6 e7 e8 e9 e10 => ((mn ≤ v3 → (Q (-5 : Int32) mn sd e0 e1 e2 e3 e4 e5 e6 e7 e8 e9 e10)) ∧ (¬ mn ≤ v3 → (F_X4_at v3 sd (fun r_2 => (F_X5_heard v1 r_2 hr e0 e1 e2 e3 e4 e5 e6 e7 e8 e9 e10 (fun r_3 e0_4 e1_5 e2_6 e3_7 e4_8 e5_9 e6_10 e7_11 e8_12 e9_13 e10_14 => ((r_3 = v2 → (Q v3 mn sd e0_4 e1_5 e2_6 e3_7 e4_8 e5_9 e6_10 e7_11 e8_12 e9_13 e10_14)) ∧ (¬ r_3 = v2 → (kh10 v1 v2 (v3 + (1 : Int32)) mn sd e0_4 e1_5 e2_6 e3_7 e4_8 e5_9 e6_10 e7_11 e8_12 e9_13 e10_14)))))))))) n9
def B_X5_firstUnderstood_0  (Q : Int32 → Int32 → (Nat → Int64) → Int32 → Int32 → Int32 → Int32 → Int32 → Int32 → Int32 → Int32 → Int32 → Int32 → Int32 → Prop) (hr : (Nat → Nat → Int32)) (v1 : Int32) (v2 : Int32) (mn : Int32) (sd : (Nat → Int64)) (e0 : Int32) (e1 : Int32) (e2 : Int32) (e3 : Int32) (e4 : Int32) (e5 : Int32) (e6 : Int32) (e7 : Int32) (e8 : Int32) (e9 : Int32) (e10 : Int32) : Prop := (F_X4_find v2 mn sd (fun mn_16 sd_17 => (∃ n9 : Nat, L_X5_firstUnderstood_10  Q hr n9 v1 v2 (0 : Int32) mn_16 sd_17 e0 e1 e2 e3 e4 e5 e6 e7 e8 e9 e10)))
def F_X5_firstUnderstood (v1 : Int32) (v2 : Int32) (hr : (Nat → Nat → Int32)) (mn : Int32) (sd : (Nat → Int64)) (e0 : Int32) (e1 : Int32) (e2 : Int32) (e3 : Int32) (e4 : Int32) (e5 : Int32) (e6 : Int32) (e7 : Int32) (e8 : Int32) (e9 : Int32) (e10 : Int32) (Q : Int32 → Int32 → (Nat → Int64) → Int32 → Int32 → Int32 → Int32 → Int32 → Int32 → Int32 → Int32 → Int32 → Int32 → Int32 → Prop) : Prop := B_X5_firstUnderstood_0 Q hr v1 v2 mn sd e0 e1 e2 e3 e4 e5 e6 e7 e8 e9 e10
theorem lkX5_firstUnderstood_113 : Cond.fieldLink RX5 113 (TX4 1).1 (TX4 1).2.1 (TX4 1).2.2.1 ∈ wsX5_firstUnderstood := by decide +kernel
theorem inX5_firstUnderstood_4 : ∀ q ∈ u_ws RX4 TX4 2, q ∈ wsX5_firstUnderstood := by decide +kernel
theorem lkX5_firstUnderstood_34 : Cond.fieldLink RX5 34 (TX5 4).1 (TX5 4).2.1 (TX5 4).2.2.1 ∈ wsX5_firstUnderstood := by decide +kernel
theorem inX5_firstUnderstood_5 : ∀ q ∈ u_ws RX5 TX5 6, q ∈ wsX5_firstUnderstood := by decide +kernel
set_option maxHeartbeats 4000000 in
set_option maxRecDepth 100000 in
theorem t_L_X5_firstUnderstood_10  {Q : Int32 → Int32 → (Nat → Int64) → Int32 → Int32 → Int32 → Int32 → Int32 → Int32 → Int32 → Int32 → Int32 → Int32 → Int32 → Prop} (C : CxX p s m args c D (tysX cA) RX5 cX5_firstUnderstood 4 wsX5_firstUnderstood) (hrt9 : meth.sig.returnType = (some .int)) (hlk : meth.locks = false) (m9 : Nat) : ∀ (v1 : Int32) (v2 : Int32) (v3 : Int32) (mn : Int32) (sd : (Nat → Int64)) (e0 : Int32) (e1 : Int32) (e2 : Int32) (e3 : Int32) (e4 : Int32) (e5 : Int32) (e6 : Int32) (e7 : Int32) (e8 : Int32) (e9 : Int32) (e10 : Int32) , L_X5_firstUnderstood_10  Q hr m9 v1 v2 v3 mn sd e0 e1 e2 e3 e4 e5 e6 e7 e8 e9 e10 → GoX p l e rmX5_firstUnderstood s m args below meth c D A 4 0 0 (QP_X5_firstUnderstood D A ad cA tl tx fr hd nw kp pt hr lr Q below args s) 10 [(0, .ref (ad 0)), (1, .int v1), (2, .int v2), (3, .int v3)] [] (WX ad cA tl tx mn sd e0 e1 e2 e3 e4 e5 e6 e7 e8 e9 e10 fr hd nw kp pt hr lr) := by
  induction m9 with
  | zero =>
    intro v1 v2 v3 mn sd e0 e1 e2 e3 e4 e5 e6 e7 e8 e9 e10 h
    exact False.elim h
  | succ m9 Hk10 =>
    intro v1 v2 v3 mn sd e0 e1 e2 e3 e4 e5 e6 e7 e8 e9 e10 h
    replace h : ((mn ≤ v3 → (Q (-5 : Int32) mn sd e0 e1 e2 e3 e4 e5 e6 e7 e8 e9 e10)) ∧ (¬ mn ≤ v3 → (F_X4_at v3 sd (fun r_2 => (F_X5_heard v1 r_2 hr e0 e1 e2 e3 e4 e5 e6 e7 e8 e9 e10 (fun r_3 e0_4 e1_5 e2_6 e3_7 e4_8 e5_9 e6_10 e7_11 e8_12 e9_13 e10_14 => ((r_3 = v2 → (Q v3 mn sd e0_4 e1_5 e2_6 e3_7 e4_8 e5_9 e6_10 e7_11 e8_12 e9_13 e10_14)) ∧ (¬ r_3 = v2 → ((L_X5_firstUnderstood_10  Q hr m9) v1 v2 (v3 + (1 : Int32)) mn sd e0_4 e1_5 e2_6 e3_7 e4_8 e5_9 e6_10 e7_11 e8_12 e9_13 e10_14))))))))) := h
    refine g_iload_n C 3 dX5_firstUnderstood_10 rfl rfl ?_
    refine g_aload_n C 0 dX5_firstUnderstood_11 rfl rfl ?_
    refine g_get C inX5_firstUnderstood_5 0 WXg0 rfl 4 (by decide) lkX5_firstUnderstood_34 rfl dX5_firstUnderstood_12 ?_
    refine g_get C inX5_firstUnderstood_4 2 WXg2 rfl 1 (by decide) lkX5_firstUnderstood_113 rfl dX5_firstUnderstood_15 ?_
    refine g_icmp_ge C 46 dX5_firstUnderstood_18 (by decide) (fun c_1 => ?_) (fun c_1 => ?_)
    · replace h := h.1 c_1
      refine g_bipush C (-5 : Int32) dX5_firstUnderstood_46 (by decide) ?_
      exact g_iret C hrt9 hlk (u := (mn, sd, e0, e1, e2, e3, e4, e5, e6, e7, e8, e9, e10)) rfl h dX5_firstUnderstood_48
    · replace h := h.2 c_1
      refine g_aload_n C 0 dX5_firstUnderstood_21 rfl rfl ?_
      refine g_iload_n C 1 dX5_firstUnderstood_22 rfl rfl ?_
      refine g_aload_n C 0 dX5_firstUnderstood_23 rfl rfl ?_
      refine g_get C inX5_firstUnderstood_5 0 WXg0 rfl 4 (by decide) lkX5_firstUnderstood_34 rfl dX5_firstUnderstood_24 ?_
      refine g_iload_n C 3 dX5_firstUnderstood_27 rfl rfl ?_
      refine k_X4_at C gX5_firstUnderstood_X4_at ⟨Nat.le_of_ble_eq_true rfl, Nat.le_of_ble_eq_true rfl⟩ ⟨Nat.zero_le _, Nat.zero_le _⟩ (Nat.le_of_ble_eq_true rfl) dX5_firstUnderstood_28  h (fun r_2 h => ?_)
      refine k_X5_heard C gX5_firstUnderstood_X5_heard ⟨Nat.le_of_ble_eq_true rfl, Nat.le_of_ble_eq_true rfl⟩ ⟨Nat.zero_le _, Nat.zero_le _⟩ (Nat.le_of_ble_eq_true rfl) dX5_firstUnderstood_31  h (fun r_3 e0_4 e1_5 e2_6 e3_7 e4_8 e5_9 e6_10 e7_11 e8_12 e9_13 e10_14 h => ?_)
      refine g_iload_n C 2 dX5_firstUnderstood_34 rfl rfl ?_
      refine g_icmp_ne C 40 dX5_firstUnderstood_35 (by decide) (fun c_15 => ?_) (fun c_15 => ?_)
      · replace h := h.2 c_15
        refine g_iinc C (v := (v3 + (1 : Int32))) (lv2 := [(3, .int (v3 + (1 : Int32))), (0, .ref (ad 0)), (1, .int v1), (2, .int v2)]) 3 dX5_firstUnderstood_40 rfl rfl (by decide) rfl ?_
        refine g_goto C 10 dX5_firstUnderstood_43 (by decide) ?_
        exact g_sub [1, 2, 3, 0] rfl (Hk10 v1 v2 (v3 + (1 : Int32)) mn sd e0_4 e1_5 e2_6 e3_7 e4_8 e5_9 e6_10 e7_11 e8_12 e9_13 e10_14  h)
      · replace h := h.1 c_15
        refine g_iload_n C 3 dX5_firstUnderstood_38 rfl rfl ?_
        exact g_iret C hrt9 hlk (u := (mn, sd, e0_4, e1_5, e2_6, e3_7, e4_8, e5_9, e6_10, e7_11, e8_12, e9_13, e10_14)) rfl h dX5_firstUnderstood_39
set_option maxHeartbeats 4000000 in
set_option maxRecDepth 100000 in
theorem t_B_X5_firstUnderstood_0  {Q : Int32 → Int32 → (Nat → Int64) → Int32 → Int32 → Int32 → Int32 → Int32 → Int32 → Int32 → Int32 → Int32 → Int32 → Int32 → Prop} (C : CxX p s m args c D (tysX cA) RX5 cX5_firstUnderstood 4 wsX5_firstUnderstood) (hrt9 : meth.sig.returnType = (some .int)) (hlk : meth.locks = false) (v1 : Int32) (v2 : Int32) (mn : Int32) (sd : (Nat → Int64)) (e0 : Int32) (e1 : Int32) (e2 : Int32) (e3 : Int32) (e4 : Int32) (e5 : Int32) (e6 : Int32) (e7 : Int32) (e8 : Int32) (e9 : Int32) (e10 : Int32)  (h : B_X5_firstUnderstood_0  Q hr v1 v2 mn sd e0 e1 e2 e3 e4 e5 e6 e7 e8 e9 e10) : GoX p l e rmX5_firstUnderstood s m args below meth c D A 4 0 0 (QP_X5_firstUnderstood D A ad cA tl tx fr hd nw kp pt hr lr Q below args s) 0 [(0, .ref (ad 0)), (1, .int v1), (2, .int v2)] [] (WX ad cA tl tx mn sd e0 e1 e2 e3 e4 e5 e6 e7 e8 e9 e10 fr hd nw kp pt hr lr) := by
  replace h : (F_X4_find v2 mn sd (fun mn_16 sd_17 => (∃ n9 : Nat, L_X5_firstUnderstood_10  Q hr n9 v1 v2 (0 : Int32) mn_16 sd_17 e0 e1 e2 e3 e4 e5 e6 e7 e8 e9 e10))) := h
  refine g_aload_n C 0 dX5_firstUnderstood_0 rfl rfl ?_
  refine g_get C inX5_firstUnderstood_5 0 WXg0 rfl 4 (by decide) lkX5_firstUnderstood_34 rfl dX5_firstUnderstood_1 ?_
  refine g_iload_n C 2 dX5_firstUnderstood_4 rfl rfl ?_
  refine k_X4_find C gX5_firstUnderstood_X4_find ⟨Nat.le_of_ble_eq_true rfl, Nat.le_of_ble_eq_true rfl⟩ ⟨Nat.zero_le _, Nat.zero_le _⟩ (Nat.le_of_ble_eq_true rfl) dX5_firstUnderstood_5  h (fun mn_16 sd_17 h => ?_)
  refine g_iconst C (0 : Int32) dX5_firstUnderstood_8 (by decide) ?_
  refine g_istore_n C (lv2 := [(3, .int (0 : Int32)), (0, .ref (ad 0)), (1, .int v1), (2, .int v2)]) dX5_firstUnderstood_9 rfl (by decide) rfl ?_
  obtain ⟨n9, h⟩ := h
  exact g_sub [1, 2, 3, 0] rfl (t_L_X5_firstUnderstood_10 C hrt9 hlk  n9 v1 v2 (0 : Int32) mn_16 sd_17 e0 e1 e2 e3 e4 e5 e6 e7 e8 e9 e10  h)
theorem c_X5_firstUnderstood (l : Launch) (D : va_G) (A : Nat → Prop) (ad : Nat → Nat) (cA : Nat → ClassId) (v1 : Int32) (v2 : Int32) {tl : Int32} {tx : (Nat → Int32)} {mn : Int32} {sd : (Nat → Int64)} {e0 : Int32} {e1 : Int32} {e2 : Int32} {e3 : Int32} {e4 : Int32} {e5 : Int32} {e6 : Int32} {e7 : Int32} {e8 : Int32} {e9 : Int32} {e10 : Int32} {fr : Int32} {hd : Int32} {nw : (Nat → Int32)} {kp : (Nat → Int32)} {pt : (Nat → Int32)} {hr : (Nat → Nat → Int32)} {lr : (Nat → Nat → Int32)}  (Q : Int32 → Int32 → (Nat → Int64) → Int32 → Int32 → Int32 → Int32 → Int32 → Int32 → Int32 → Int32 → Int32 → Int32 → Int32 → Prop) (h : F_X5_firstUnderstood v1 v2 hr mn sd e0 e1 e2 e3 e4 e5 e6 e7 e8 e9 e10 Q) : Met l yX5_firstUnderstood wsX5_firstUnderstood rmX5_firstUnderstood (va_Pc [.ref (ad 0), .int v1, .int v2] (OKX D (tysX cA) (WX ad cA tl tx mn sd e0 e1 e2 e3 e4 e5 e6 e7 e8 e9 e10 fr hd nw kp pt hr lr) A)) (QC_X5_firstUnderstood D A ad cA tl tx fr hd nw kp pt hr lr Q) 0 0 A :=
  g_met (own := RX5) (by decide) rfl rfl (Nat.le_of_ble_eq_true rfl) (fun p e s m below meth c C hrt9 hlk _ => g_sub [0, 1, 2] rfl (t_B_X5_firstUnderstood_0 C hrt9 hlk v1 v2 mn sd e0 e1 e2 e3 e4 e5 e6 e7 e8 e9 e10  h))
theorem k_X5_firstUnderstood {ws : List Cond} {own : String} {cc : ByteArray} {nL pc index kc ks : Nat} {lv : List (Nat × Value)} {st : List Value} {Q : State → Prop} {R : Room} {K : Int32 → Int32 → (Nat → Int64) → Int32 → Int32 → Int32 → Int32 → Int32 → Int32 → Int32 → Int32 → Int32 → Int32 → Int32 → Prop} {v1 : Int32} {v2 : Int32} (C : CxX p s m args c D (tysX cA) own cc nL ws) (hT : GoodIn ws (wsV own index RX5 yX5_firstUnderstood wsX5_firstUnderstood)) (hR : rmX5_firstUnderstood.frames + 1 ≤ R.frames ∧ 8 + (4 + 11) + rmX5_firstUnderstood.locals ≤ R.locals) (hk9 : kc ≤ R.cells ∧ ks ≤ R.slots) (hcat : (st.map fun v => v.category).sum ≤ 8) (hdg : decode cc pc = .ok (.invokevirtual index, 3))  (h : F_X5_firstUnderstood v1 v2 hr mn sd e0 e1 e2 e3 e4 e5 e6 e7 e8 e9 e10 K) (kk : ∀ (r : Int32) (mnq : Int32) (sdq : (Nat → Int64)) (e0q : Int32) (e1q : Int32) (e2q : Int32) (e3q : Int32) (e4q : Int32) (e5q : Int32) (e6q : Int32) (e7q : Int32) (e8q : Int32) (e9q : Int32) (e10q : Int32), K r mnq sdq e0q e1q e2q e3q e4q e5q e6q e7q e8q e9q e10q → GoX p l e R s m args below meth c D A nL kc ks Q (pc + 3) lv (.int r :: st) (WX ad cA tl tx mnq sdq e0q e1q e2q e3q e4q e5q e6q e7q e8q e9q e10q fr hd nw kp pt hr lr)) : GoX p l e R s m args below meth c D A nL kc ks Q pc lv (.int v2 :: .int v1 :: .ref (ad 0) :: st) (WX ad cA tl tx mn sd e0 e1 e2 e3 e4 e5 e6 e7 e8 e9 e10 fr hd nw kp pt hr lr) :=
  g_callVi C (As := [.int v1, .int v2]) 2 (c_X5_firstUnderstood l D A ad cA v1 v2  K h) hT rfl rfl rfl (by decide +kernel) hR hk9 0 WXg0 rfl rfl rfl hcat hdg (fun r u hu => kk r u.1 u.2.1 u.2.2.1 u.2.2.2.1 u.2.2.2.2.1 u.2.2.2.2.2.1 u.2.2.2.2.2.2.1 u.2.2.2.2.2.2.2.1 u.2.2.2.2.2.2.2.2.1 u.2.2.2.2.2.2.2.2.2.1 u.2.2.2.2.2.2.2.2.2.2.1 u.2.2.2.2.2.2.2.2.2.2.2.1 u.2.2.2.2.2.2.2.2.2.2.2.2 hu)
/-! X5_doubtWords -/
abbrev rmX5_doubtWords : Room := { frames := 2, cells := 0, slots := 0, locals := 45 }
abbrev QC_X5_doubtWords (D : va_G) (A : Nat → Prop) (ad : Nat → Nat) (cA : Nat → ClassId) (tl : Int32) (tx : (Nat → Int32)) (mn : Int32) (sd : (Nat → Int64)) (e0 : Int32) (e1 : Int32) (e2 : Int32) (e3 : Int32) (e4 : Int32) (e5 : Int32) (e6 : Int32) (e7 : Int32) (e8 : Int32) (e9 : Int32) (e10 : Int32) (fr : Int32) (hd : Int32) (nw : (Nat → Int32)) (kp : (Nat → Int32)) (pt : (Nat → Int32)) (lr : (Nat → Nat → Int32)) (Q : Int32 → (Nat → Nat → Int32) → Prop) : Array Value → State → Outcome → State → Prop := va_Qi (fun (r : Int32) (u : (Nat → Nat → Int32)) => Q r u) (fun u t => OKX D (tysX cA) ((fun u : (Nat → Nat → Int32) => WX ad cA tl tx mn sd e0 e1 e2 e3 e4 e5 e6 e7 e8 e9 e10 fr hd nw kp pt u lr) u) A t) A
abbrev QP_X5_doubtWords (D : va_G) (A : Nat → Prop) (ad : Nat → Nat) (cA : Nat → ClassId) (tl : Int32) (tx : (Nat → Int32)) (mn : Int32) (sd : (Nat → Int64)) (e0 : Int32) (e1 : Int32) (e2 : Int32) (e3 : Int32) (e4 : Int32) (e5 : Int32) (e6 : Int32) (e7 : Int32) (e8 : Int32) (e9 : Int32) (e10 : Int32) (fr : Int32) (hd : Int32) (nw : (Nat → Int32)) (kp : (Nat → Int32)) (pt : (Nat → Int32)) (lr : (Nat → Nat → Int32)) (Q : Int32 → (Nat → Nat → Int32) → Prop) (below : List Frame) (args : Array Value) (s : State) : State → Prop := MQ below (QC_X5_doubtWords D A ad cA tl tx mn sd e0 e1 e2 e3 e4 e5 e6 e7 e8 e9 e10 fr hd nw kp pt lr Q) args s 0 0 A
def B_X5_doubtWords_76 (kh6 : Nat → Int64 → Int32 → Int32 → (Nat → Nat → Int32) → Prop) (Q : Int32 → (Nat → Nat → Int32) → Prop) (pt : (Nat → Int32)) (v1 : Nat) (v2 : Int64) (v4 : Int32) (v5 : Int32) (hr : (Nat → Nat → Int32)) : Prop := (kh6 v1 v2 v4 (v5 + (1 : Int32)) hr)
noncomputable def L_X5_doubtWords_6  (Q : Int32 → (Nat → Nat → Int32) → Prop) (pt : (Nat → Int32)) (n9 : Nat) : Nat → Int64 → Int32 → Int32 → (Nat → Nat → Int32) → Prop := Nat.rec (motive := fun _ => Nat → Int64 → Int32 → Int32 → (Nat → Nat → Int32) → Prop) (fun _ _ _ _ _ => False) (fun _ kh6 => fun v1 v2 v4 v5 hr => (((3 : Int32) ≤ v5 → (isBo v4 ∧ (Q v4 hr))) ∧ (¬ (3 : Int32) ≤ v5 → (vp_in ((0 : Int32) + v5) 9 ∧ ((((hr v1) ((0 : Int32) + v5).toNatClampNeg) = 0 → (F_X5_wordCharacter v5 (fun r_3 => (F_X2_has v2 r_3 (fun r_4 => ((r_4 = 0 → (B_X5_doubtWords_76 kh6 Q pt v1 v2 v4 v5 hr)) ∧ (¬ r_4 = 0 → (vp_in ((3 : Int32) + v5) 9 ∧ (vp_in ((3 : Int32) + v5) 9 ∧ (vp_in ((3 : Int32) + v5) 9 ∧ (((((va_up hr v1 (upd (hr v1) ((3 : Int32) + v5).toNatClampNeg (((hr v1) ((3 : Int32) + v5).toNatClampNeg) + (1 : Int32)))) v1) ((3 : Int32) + v5).toNatClampNeg) < (pt 0) → (B_X5_doubtWords_76 kh6 Q pt v1 v2 v4 v5 (va_up hr v1 (upd (hr v1) ((3 : Int32) + v5).toNatClampNeg (((hr v1) ((3 : Int32) + v5).toNatClampNeg) + (1 : Int32)))))) ∧ (¬ (((va_up hr v1 (upd (hr v1) ((3 : Int32) + v5).toNatClampNeg (((hr v1) ((3 : Int32) + v5).toNatClampNeg) + (1 : Int32)))) v1) ((3 : Int32) + v5).toNatClampNeg) < (pt 0) → (vp_in ((0 : Int32) + v5) 9 ∧ (vp_in ((3 : Int32) + v5) 9 ∧ (B_X5_doubtWords_76 kh6 Q pt v1 v2 (1 : Int32) v5 (va_up (va_up (va_up hr v1 (upd (hr v1) ((3 : Int32) + v5).toNatClampNeg (((hr v1) ((3 : Int32) + v5).toNatClampNeg) + (1 : Int32)))) v1 (upd ((va_up hr v1 (upd (hr v1) ((3 : Int32) + v5).toNatClampNeg (((hr v1) ((3 : Int32) + v5).toNatClampNeg) + (1 : Int32)))) v1) ((0 : Int32) + v5).toNatClampNeg (1 : Int32))) v1 (upd ((va_up (va_up hr v1 (upd (hr v1) ((3 : Int32) + v5).toNatClampNeg (((hr v1) ((3 : Int32) + v5).toNatClampNeg) + (1 : Int32)))) v1 (upd ((va_up hr v1 (upd (hr v1) ((3 : Int32) + v5).toNatClampNeg (((hr v1) ((3 : Int32) + v5).toNatClampNeg) + (1 : Int32)))) v1) ((0 : Int32) + v5).toNatClampNeg (1 : Int32))) v1) ((3 : Int32) + v5).toNatClampNeg (0 : Int32)))))))))))))))))) ∧ (¬ ((hr v1) ((0 : Int32) + v5).toNatClampNeg) = 0 → (B_X5_doubtWords_76 kh6 Q pt v1 v2 v4 v5 hr))))))) n9
def B_X5_doubtWords_0  (Q : Int32 → (Nat → Nat → Int32) → Prop) (pt : (Nat → Int32)) (v1 : Nat) (v2 : Int64) (hr : (Nat → Nat → Int32)) : Prop := (∃ n9 : Nat, L_X5_doubtWords_6  Q pt n9 v1 v2 (0 : Int32) (0 : Int32) hr)
def F_X5_doubtWords (v1 : Nat) (v2 : Int64) (pt : (Nat → Int32)) (hr : (Nat → Nat → Int32)) (Q : Int32 → (Nat → Nat → Int32) → Prop) : Prop := B_X5_doubtWords_0 Q pt v1 v2 hr
theorem lkX5_doubtWords_61 : Cond.fieldLink RX5 61 (TX3 4).1 (TX3 4).2.1 (TX3 4).2.2.1 ∈ wsX5_doubtWords := by decide +kernel
theorem inX5_doubtWords_3 : ∀ q ∈ u_ws RX3 TX3 5, q ∈ wsX5_doubtWords := by decide +kernel
theorem lkX5_doubtWords_10 : Cond.fieldLink RX5 10 (TX5 0).1 (TX5 0).2.1 (TX5 0).2.2.1 ∈ wsX5_doubtWords := by decide +kernel
theorem inX5_doubtWords_5 : ∀ q ∈ u_ws RX5 TX5 6, q ∈ wsX5_doubtWords := by decide +kernel
set_option maxHeartbeats 4000000 in
set_option maxRecDepth 100000 in
theorem t_B_X5_doubtWords_76 {kh6 : Nat → Int64 → Int32 → Int32 → (Nat → Nat → Int32) → Prop} {Q : Int32 → (Nat → Nat → Int32) → Prop} (C : CxX p s m args c D (tysX cA) RX5 cX5_doubtWords 6 wsX5_doubtWords) (hrt9 : meth.sig.returnType = (some .boolean)) (hlk : meth.locks = false) (Hk6 : ∀ (v1q : Nat) (v2q : Int64) (v4q : Int32) (v5q : Int32) (hrq : (Nat → Nat → Int32)) (hv1q : v1q < 30), kh6 v1q v2q v4q v5q hrq → GoX p l e rmX5_doubtWords s m args below meth c D A 6 0 0 (QP_X5_doubtWords D A ad cA tl tx mn sd e0 e1 e2 e3 e4 e5 e6 e7 e8 e9 e10 fr hd nw kp pt lr Q below args s) 6 [(0, .ref (ad 0)), (1, .ref (ad (22 + v1q))), (2, .long v2q), (4, .int v4q), (5, .int v5q)] [] (WX ad cA tl tx mn sd e0 e1 e2 e3 e4 e5 e6 e7 e8 e9 e10 fr hd nw kp pt hrq lr)) (v1 : Nat) (v2 : Int64) (v4 : Int32) (v5 : Int32) (hr : (Nat → Nat → Int32)) (hv1 : v1 < 30) (h : B_X5_doubtWords_76 kh6 Q pt v1 v2 v4 v5 hr) : GoX p l e rmX5_doubtWords s m args below meth c D A 6 0 0 (QP_X5_doubtWords D A ad cA tl tx mn sd e0 e1 e2 e3 e4 e5 e6 e7 e8 e9 e10 fr hd nw kp pt lr Q below args s) 76 [(0, .ref (ad 0)), (1, .ref (ad (22 + v1))), (2, .long v2), (4, .int v4), (5, .int v5)] [] (WX ad cA tl tx mn sd e0 e1 e2 e3 e4 e5 e6 e7 e8 e9 e10 fr hd nw kp pt hr lr) := by
  replace h : (kh6 v1 v2 v4 (v5 + (1 : Int32)) hr) := h
  refine g_iinc C (v := (v5 + (1 : Int32))) (lv2 := [(5, .int (v5 + (1 : Int32))), (0, .ref (ad 0)), (1, .ref (ad (22 + v1))), (2, .long v2), (4, .int v4)]) 4 dX5_doubtWords_76 rfl rfl (by decide) rfl ?_
  refine g_goto C 6 dX5_doubtWords_79 (by decide) ?_
  exact g_sub [1, 2, 3, 4, 0] rfl (Hk6 v1 v2 v4 (v5 + (1 : Int32)) hr (by omega) h)
set_option maxHeartbeats 4000000 in
set_option maxRecDepth 100000 in
theorem t_L_X5_doubtWords_6  {Q : Int32 → (Nat → Nat → Int32) → Prop} (C : CxX p s m args c D (tysX cA) RX5 cX5_doubtWords 6 wsX5_doubtWords) (hrt9 : meth.sig.returnType = (some .boolean)) (hlk : meth.locks = false) (m9 : Nat) : ∀ (v1 : Nat) (v2 : Int64) (v4 : Int32) (v5 : Int32) (hr : (Nat → Nat → Int32)) (hv1 : v1 < 30), L_X5_doubtWords_6  Q pt m9 v1 v2 v4 v5 hr → GoX p l e rmX5_doubtWords s m args below meth c D A 6 0 0 (QP_X5_doubtWords D A ad cA tl tx mn sd e0 e1 e2 e3 e4 e5 e6 e7 e8 e9 e10 fr hd nw kp pt lr Q below args s) 6 [(0, .ref (ad 0)), (1, .ref (ad (22 + v1))), (2, .long v2), (4, .int v4), (5, .int v5)] [] (WX ad cA tl tx mn sd e0 e1 e2 e3 e4 e5 e6 e7 e8 e9 e10 fr hd nw kp pt hr lr) := by
  induction m9 with
  | zero =>
    intro v1 v2 v4 v5 hr hv1 h
    exact False.elim h
  | succ m9 Hk6 =>
    intro v1 v2 v4 v5 hr hv1 h
    replace h : (((3 : Int32) ≤ v5 → (isBo v4 ∧ (Q v4 hr))) ∧ (¬ (3 : Int32) ≤ v5 → (vp_in ((0 : Int32) + v5) 9 ∧ ((((hr v1) ((0 : Int32) + v5).toNatClampNeg) = 0 → (F_X5_wordCharacter v5 (fun r_3 => (F_X2_has v2 r_3 (fun r_4 => ((r_4 = 0 → (B_X5_doubtWords_76 (L_X5_doubtWords_6  Q pt m9) Q pt v1 v2 v4 v5 hr)) ∧ (¬ r_4 = 0 → (vp_in ((3 : Int32) + v5) 9 ∧ (vp_in ((3 : Int32) + v5) 9 ∧ (vp_in ((3 : Int32) + v5) 9 ∧ (((((va_up hr v1 (upd (hr v1) ((3 : Int32) + v5).toNatClampNeg (((hr v1) ((3 : Int32) + v5).toNatClampNeg) + (1 : Int32)))) v1) ((3 : Int32) + v5).toNatClampNeg) < (pt 0) → (B_X5_doubtWords_76 (L_X5_doubtWords_6  Q pt m9) Q pt v1 v2 v4 v5 (va_up hr v1 (upd (hr v1) ((3 : Int32) + v5).toNatClampNeg (((hr v1) ((3 : Int32) + v5).toNatClampNeg) + (1 : Int32)))))) ∧ (¬ (((va_up hr v1 (upd (hr v1) ((3 : Int32) + v5).toNatClampNeg (((hr v1) ((3 : Int32) + v5).toNatClampNeg) + (1 : Int32)))) v1) ((3 : Int32) + v5).toNatClampNeg) < (pt 0) → (vp_in ((0 : Int32) + v5) 9 ∧ (vp_in ((3 : Int32) + v5) 9 ∧ (B_X5_doubtWords_76 (L_X5_doubtWords_6  Q pt m9) Q pt v1 v2 (1 : Int32) v5 (va_up (va_up (va_up hr v1 (upd (hr v1) ((3 : Int32) + v5).toNatClampNeg (((hr v1) ((3 : Int32) + v5).toNatClampNeg) + (1 : Int32)))) v1 (upd ((va_up hr v1 (upd (hr v1) ((3 : Int32) + v5).toNatClampNeg (((hr v1) ((3 : Int32) + v5).toNatClampNeg) + (1 : Int32)))) v1) ((0 : Int32) + v5).toNatClampNeg (1 : Int32))) v1 (upd ((va_up (va_up hr v1 (upd (hr v1) ((3 : Int32) + v5).toNatClampNeg (((hr v1) ((3 : Int32) + v5).toNatClampNeg) + (1 : Int32)))) v1 (upd ((va_up hr v1 (upd (hr v1) ((3 : Int32) + v5).toNatClampNeg (((hr v1) ((3 : Int32) + v5).toNatClampNeg) + (1 : Int32)))) v1) ((0 : Int32) + v5).toNatClampNeg (1 : Int32))) v1) ((3 : Int32) + v5).toNatClampNeg (0 : Int32)))))))))))))))))) ∧ (¬ ((hr v1) ((0 : Int32) + v5).toNatClampNeg) = 0 → (B_X5_doubtWords_76 (L_X5_doubtWords_6  Q pt m9) Q pt v1 v2 v4 v5 hr)))))) := h
    refine g_iload C 4 dX5_doubtWords_6 rfl ?_
    refine g_iconst C (3 : Int32) dX5_doubtWords_8 (by decide) ?_
    refine g_icmp_ge C 82 dX5_doubtWords_9 (by decide) (fun c_1 => ?_) (fun c_1 => ?_)
    · replace h := h.1 c_1
      refine g_iload C 3 dX5_doubtWords_82 rfl ?_
      exact g_zret C hrt9 hlk h.1.n (u := hr) rfl h.2 dX5_doubtWords_84
    · replace h := h.2 c_1
      refine g_aload_n C 1 dX5_doubtWords_12 rfl rfl ?_
      refine g_iconst C (0 : Int32) dX5_doubtWords_13 (by decide) ?_
      refine g_iload C 4 dX5_doubtWords_14 rfl ?_
      refine g_iadd C dX5_doubtWords_16 ?_
      refine g_iald C (22 + v1) 1 (WXg_HR (by omega)) rfl h.1 dX5_doubtWords_17 ?_
      replace h := h.2
      refine g_if_ne C 76 dX5_doubtWords_18 (by decide) (fun c_2 => ?_) (fun c_2 => ?_)
      · replace h := h.2 c_2
        exact g_sub [0, 1, 2, 3, 4] rfl (t_B_X5_doubtWords_76 C hrt9 hlk Hk6 v1 v2 v4 v5 hr (by omega) h)
      · replace h := h.1 c_2
        refine g_lload_n C 2 dX5_doubtWords_21 rfl rfl ?_
        refine g_iload C 4 dX5_doubtWords_22 rfl ?_
        refine k_X5_wordCharacter C gX5_doubtWords_X5_wordCharacter ⟨Nat.le_of_ble_eq_true rfl, Nat.le_of_ble_eq_true rfl⟩ ⟨Nat.zero_le _, Nat.zero_le _⟩ (Nat.le_of_ble_eq_true rfl) dX5_doubtWords_24  h (fun r_3 h => ?_)
        refine k_X2_has C gX5_doubtWords_X2_has ⟨Nat.le_of_ble_eq_true rfl, Nat.le_of_ble_eq_true rfl⟩ ⟨Nat.zero_le _, Nat.zero_le _⟩ (Nat.le_of_ble_eq_true rfl) dX5_doubtWords_27  h (fun r_4 h => ?_)
        refine g_if_eq C 76 dX5_doubtWords_30 (by decide) (fun c_5 => ?_) (fun c_5 => ?_)
        · replace h := h.1 c_5
          exact g_sub [0, 1, 2, 3, 4] rfl (t_B_X5_doubtWords_76 C hrt9 hlk Hk6 v1 v2 v4 v5 hr (by omega) h)
        · replace h := h.2 c_5
          refine g_aload_n C 1 dX5_doubtWords_33 rfl rfl ?_
          refine g_iconst C (3 : Int32) dX5_doubtWords_34 (by decide) ?_
          refine g_iload C 4 dX5_doubtWords_35 rfl ?_
          refine g_iadd C dX5_doubtWords_37 ?_
          refine g_dup2 C dX5_doubtWords_38 rfl rfl ?_
          refine g_iald C (22 + v1) 1 (WXg_HR (by omega)) rfl h.1 dX5_doubtWords_39 ?_
          replace h := h.2
          refine g_iconst C (1 : Int32) dX5_doubtWords_40 (by decide) ?_
          refine g_iadd C dX5_doubtWords_41 ?_
          refine g_iast C (22 + v1) 1 (WXg_HR (by omega)) rfl h.1 (WXs_hr (by omega)) dX5_doubtWords_42 ?_
          replace h := h.2
          refine g_aload_n C 1 dX5_doubtWords_43 rfl rfl ?_
          refine g_iconst C (3 : Int32) dX5_doubtWords_44 (by decide) ?_
          refine g_iload C 4 dX5_doubtWords_45 rfl ?_
          refine g_iadd C dX5_doubtWords_47 ?_
          refine g_iald C (22 + v1) 1 (WXg_HR (by omega)) rfl h.1 dX5_doubtWords_48 ?_
          replace h := h.2
          refine g_aload_n C 0 dX5_doubtWords_49 rfl rfl ?_
          refine g_get C inX5_doubtWords_5 0 WXg0 rfl 0 (by decide) lkX5_doubtWords_10 rfl dX5_doubtWords_50 ?_
          refine g_get C inX5_doubtWords_3 (7 + 0) (WXg_ST (by omega)) rfl 4 (by decide) lkX5_doubtWords_61 rfl dX5_doubtWords_53 ?_
          refine g_icmp_lt C 76 dX5_doubtWords_56 (by decide) (fun c_6 => ?_) (fun c_6 => ?_)
          · replace h := h.1 c_6
            exact g_sub [0, 1, 2, 3, 4] rfl (t_B_X5_doubtWords_76 C hrt9 hlk Hk6 v1 v2 v4 v5 (va_up hr v1 (upd (hr v1) ((3 : Int32) + v5).toNatClampNeg (((hr v1) ((3 : Int32) + v5).toNatClampNeg) + (1 : Int32)))) (by omega) h)
          · replace h := h.2 c_6
            refine g_aload_n C 1 dX5_doubtWords_59 rfl rfl ?_
            refine g_iconst C (0 : Int32) dX5_doubtWords_60 (by decide) ?_
            refine g_iload C 4 dX5_doubtWords_61 rfl ?_
            refine g_iadd C dX5_doubtWords_63 ?_
            refine g_iconst C (1 : Int32) dX5_doubtWords_64 (by decide) ?_
            refine g_iast C (22 + v1) 1 (WXg_HR (by omega)) rfl h.1 (WXs_hr (by omega)) dX5_doubtWords_65 ?_
            replace h := h.2
            refine g_aload_n C 1 dX5_doubtWords_66 rfl rfl ?_
            refine g_iconst C (3 : Int32) dX5_doubtWords_67 (by decide) ?_
            refine g_iload C 4 dX5_doubtWords_68 rfl ?_
            refine g_iadd C dX5_doubtWords_70 ?_
            refine g_iconst C (0 : Int32) dX5_doubtWords_71 (by decide) ?_
            refine g_iast C (22 + v1) 1 (WXg_HR (by omega)) rfl h.1 (WXs_hr (by omega)) dX5_doubtWords_72 ?_
            replace h := h.2
            refine g_iconst C (1 : Int32) dX5_doubtWords_73 (by decide) ?_
            refine g_istore C (lv2 := [(4, .int (1 : Int32)), (0, .ref (ad 0)), (1, .ref (ad (22 + v1))), (2, .long v2), (5, .int v5)]) dX5_doubtWords_74 (by decide) rfl ?_
            exact g_sub [1, 2, 3, 0, 4] rfl (t_B_X5_doubtWords_76 C hrt9 hlk Hk6 v1 v2 (1 : Int32) v5 (va_up (va_up (va_up hr v1 (upd (hr v1) ((3 : Int32) + v5).toNatClampNeg (((hr v1) ((3 : Int32) + v5).toNatClampNeg) + (1 : Int32)))) v1 (upd ((va_up hr v1 (upd (hr v1) ((3 : Int32) + v5).toNatClampNeg (((hr v1) ((3 : Int32) + v5).toNatClampNeg) + (1 : Int32)))) v1) ((0 : Int32) + v5).toNatClampNeg (1 : Int32))) v1 (upd ((va_up (va_up hr v1 (upd (hr v1) ((3 : Int32) + v5).toNatClampNeg (((hr v1) ((3 : Int32) + v5).toNatClampNeg) + (1 : Int32)))) v1 (upd ((va_up hr v1 (upd (hr v1) ((3 : Int32) + v5).toNatClampNeg (((hr v1) ((3 : Int32) + v5).toNatClampNeg) + (1 : Int32)))) v1) ((0 : Int32) + v5).toNatClampNeg (1 : Int32))) v1) ((3 : Int32) + v5).toNatClampNeg (0 : Int32))) (by omega) h)
set_option maxHeartbeats 4000000 in
set_option maxRecDepth 100000 in
theorem t_B_X5_doubtWords_0  {Q : Int32 → (Nat → Nat → Int32) → Prop} (C : CxX p s m args c D (tysX cA) RX5 cX5_doubtWords 6 wsX5_doubtWords) (hrt9 : meth.sig.returnType = (some .boolean)) (hlk : meth.locks = false) (v1 : Nat) (v2 : Int64) (hr : (Nat → Nat → Int32)) (hv1 : v1 < 30) (h : B_X5_doubtWords_0  Q pt v1 v2 hr) : GoX p l e rmX5_doubtWords s m args below meth c D A 6 0 0 (QP_X5_doubtWords D A ad cA tl tx mn sd e0 e1 e2 e3 e4 e5 e6 e7 e8 e9 e10 fr hd nw kp pt lr Q below args s) 0 [(0, .ref (ad 0)), (1, .ref (ad (22 + v1))), (2, .long v2)] [] (WX ad cA tl tx mn sd e0 e1 e2 e3 e4 e5 e6 e7 e8 e9 e10 fr hd nw kp pt hr lr) := by
  replace h : (∃ n9 : Nat, L_X5_doubtWords_6  Q pt n9 v1 v2 (0 : Int32) (0 : Int32) hr) := h
  refine g_iconst C (0 : Int32) dX5_doubtWords_0 (by decide) ?_
  refine g_istore C (lv2 := [(4, .int (0 : Int32)), (0, .ref (ad 0)), (1, .ref (ad (22 + v1))), (2, .long v2)]) dX5_doubtWords_1 (by decide) rfl ?_
  refine g_iconst C (0 : Int32) dX5_doubtWords_3 (by decide) ?_
  refine g_istore C (lv2 := [(5, .int (0 : Int32)), (4, .int (0 : Int32)), (0, .ref (ad 0)), (1, .ref (ad (22 + v1))), (2, .long v2)]) dX5_doubtWords_4 (by decide) rfl ?_
  obtain ⟨n9, h⟩ := h
  exact g_sub [2, 3, 4, 1, 0] rfl (t_L_X5_doubtWords_6 C hrt9 hlk  n9 v1 v2 (0 : Int32) (0 : Int32) hr (by omega) h)
theorem c_X5_doubtWords (l : Launch) (D : va_G) (A : Nat → Prop) (ad : Nat → Nat) (cA : Nat → ClassId) (v1 : Nat) (v2 : Int64) {tl : Int32} {tx : (Nat → Int32)} {mn : Int32} {sd : (Nat → Int64)} {e0 : Int32} {e1 : Int32} {e2 : Int32} {e3 : Int32} {e4 : Int32} {e5 : Int32} {e6 : Int32} {e7 : Int32} {e8 : Int32} {e9 : Int32} {e10 : Int32} {fr : Int32} {hd : Int32} {nw : (Nat → Int32)} {kp : (Nat → Int32)} {pt : (Nat → Int32)} {hr : (Nat → Nat → Int32)} {lr : (Nat → Nat → Int32)} (hv1 : v1 < 30) (Q : Int32 → (Nat → Nat → Int32) → Prop) (h : F_X5_doubtWords v1 v2 pt hr Q) : Met l yX5_doubtWords wsX5_doubtWords rmX5_doubtWords (va_Pc [.ref (ad 0), .ref (ad (22 + v1)), .long v2] (OKX D (tysX cA) (WX ad cA tl tx mn sd e0 e1 e2 e3 e4 e5 e6 e7 e8 e9 e10 fr hd nw kp pt hr lr) A)) (QC_X5_doubtWords D A ad cA tl tx mn sd e0 e1 e2 e3 e4 e5 e6 e7 e8 e9 e10 fr hd nw kp pt lr Q) 0 0 A :=
  g_met (own := RX5) (by decide) rfl rfl (Nat.le_of_ble_eq_true rfl) (fun p e s m below meth c C hrt9 hlk _ => g_sub [0, 1, 2] rfl (t_B_X5_doubtWords_0 C hrt9 hlk v1 v2 hr hv1 h))
theorem k_X5_doubtWords {ws : List Cond} {own : String} {cc : ByteArray} {nL pc index kc ks : Nat} {lv : List (Nat × Value)} {st : List Value} {Q : State → Prop} {R : Room} {K : Int32 → (Nat → Nat → Int32) → Prop} {v1 : Nat} {v2 : Int64} (C : CxX p s m args c D (tysX cA) own cc nL ws) (hT : GoodIn ws (wsV own index RX5 yX5_doubtWords wsX5_doubtWords)) (hR : rmX5_doubtWords.frames + 1 ≤ R.frames ∧ 8 + (6 + 11) + rmX5_doubtWords.locals ≤ R.locals) (hk9 : kc ≤ R.cells ∧ ks ≤ R.slots) (hcat : (st.map fun v => v.category).sum ≤ 8) (hdg : decode cc pc = .ok (.invokevirtual index, 3)) (hv1 : v1 < 30) (h : F_X5_doubtWords v1 v2 pt hr K) (kk : ∀ (r : Int32) (hrq : (Nat → Nat → Int32)), K r hrq → GoX p l e R s m args below meth c D A nL kc ks Q (pc + 3) lv (.int r :: st) (WX ad cA tl tx mn sd e0 e1 e2 e3 e4 e5 e6 e7 e8 e9 e10 fr hd nw kp pt hrq lr)) : GoX p l e R s m args below meth c D A nL kc ks Q pc lv (.long v2 :: .ref (ad (22 + v1)) :: .ref (ad 0) :: st) (WX ad cA tl tx mn sd e0 e1 e2 e3 e4 e5 e6 e7 e8 e9 e10 fr hd nw kp pt hr lr) :=
  g_callVi C (As := [.ref (ad (22 + v1)), .long v2]) 2 (c_X5_doubtWords l D A ad cA v1 v2 hv1 K h) hT rfl rfl rfl (by decide +kernel) hR hk9 0 WXg0 rfl rfl rfl hcat hdg (fun r u hu => kk r u hu)
/-! X5_say -/
abbrev rmX5_say : Room := { frames := 5, cells := 0, slots := 0, locals := 113 }
abbrev QC_X5_say (D : va_G) (A : Nat → Prop) (ad : Nat → Nat) (cA : Nat → ClassId) (tl : Int32) (tx : (Nat → Int32)) (mn : Int32) (sd : (Nat → Int64)) (Q : Int32 → Int32 → Int32 → Int32 → Int32 → Int32 → Int32 → Int32 → Int32 → Int32 → Int32 → Int32 → Int32 → Int32 → (Nat → Int32) → (Nat → Int32) → (Nat → Int32) → (Nat → Nat → Int32) → (Nat → Nat → Int32) → Prop) : Array Value → State → Outcome → State → Prop := va_Qi (fun (r : Int32) (u : Int32 × Int32 × Int32 × Int32 × Int32 × Int32 × Int32 × Int32 × Int32 × Int32 × Int32 × Int32 × Int32 × (Nat → Int32) × (Nat → Int32) × (Nat → Int32) × (Nat → Nat → Int32) × (Nat → Nat → Int32)) => Q r u.1 u.2.1 u.2.2.1 u.2.2.2.1 u.2.2.2.2.1 u.2.2.2.2.2.1 u.2.2.2.2.2.2.1 u.2.2.2.2.2.2.2.1 u.2.2.2.2.2.2.2.2.1 u.2.2.2.2.2.2.2.2.2.1 u.2.2.2.2.2.2.2.2.2.2.1 u.2.2.2.2.2.2.2.2.2.2.2.1 u.2.2.2.2.2.2.2.2.2.2.2.2.1 u.2.2.2.2.2.2.2.2.2.2.2.2.2.1 u.2.2.2.2.2.2.2.2.2.2.2.2.2.2.1 u.2.2.2.2.2.2.2.2.2.2.2.2.2.2.2.1 u.2.2.2.2.2.2.2.2.2.2.2.2.2.2.2.2.1 u.2.2.2.2.2.2.2.2.2.2.2.2.2.2.2.2.2) (fun u t => OKX D (tysX cA) ((fun u : Int32 × Int32 × Int32 × Int32 × Int32 × Int32 × Int32 × Int32 × Int32 × Int32 × Int32 × Int32 × Int32 × (Nat → Int32) × (Nat → Int32) × (Nat → Int32) × (Nat → Nat → Int32) × (Nat → Nat → Int32) => WX ad cA tl tx mn sd u.1 u.2.1 u.2.2.1 u.2.2.2.1 u.2.2.2.2.1 u.2.2.2.2.2.1 u.2.2.2.2.2.2.1 u.2.2.2.2.2.2.2.1 u.2.2.2.2.2.2.2.2.1 u.2.2.2.2.2.2.2.2.2.1 u.2.2.2.2.2.2.2.2.2.2.1 u.2.2.2.2.2.2.2.2.2.2.2.1 u.2.2.2.2.2.2.2.2.2.2.2.2.1 u.2.2.2.2.2.2.2.2.2.2.2.2.2.1 u.2.2.2.2.2.2.2.2.2.2.2.2.2.2.1 u.2.2.2.2.2.2.2.2.2.2.2.2.2.2.2.1 u.2.2.2.2.2.2.2.2.2.2.2.2.2.2.2.2.1 u.2.2.2.2.2.2.2.2.2.2.2.2.2.2.2.2.2) u) A t) A
abbrev QP_X5_say (D : va_G) (A : Nat → Prop) (ad : Nat → Nat) (cA : Nat → ClassId) (tl : Int32) (tx : (Nat → Int32)) (mn : Int32) (sd : (Nat → Int64)) (Q : Int32 → Int32 → Int32 → Int32 → Int32 → Int32 → Int32 → Int32 → Int32 → Int32 → Int32 → Int32 → Int32 → Int32 → (Nat → Int32) → (Nat → Int32) → (Nat → Int32) → (Nat → Nat → Int32) → (Nat → Nat → Int32) → Prop) (below : List Frame) (args : Array Value) (s : State) : State → Prop := MQ below (QC_X5_say D A ad cA tl tx mn sd Q) args s 0 0 A
def B_X5_say_135  (Q : Int32 → Int32 → Int32 → Int32 → Int32 → Int32 → Int32 → Int32 → Int32 → Int32 → Int32 → Int32 → Int32 → Int32 → (Nat → Int32) → (Nat → Int32) → (Nat → Int32) → (Nat → Nat → Int32) → (Nat → Nat → Int32) → Prop)  (s0 : Int32) (e0 : Int32) (e1 : Int32) (e2 : Int32) (e3 : Int32) (e4 : Int32) (e5 : Int32) (e6 : Int32) (e7 : Int32) (e8 : Int32) (e9 : Int32) (e10 : Int32) (fr : Int32) (hd : Int32) (nw : (Nat → Int32)) (kp : (Nat → Int32)) (pt : (Nat → Int32)) (hr : (Nat → Nat → Int32)) (lr : (Nat → Nat → Int32)) : Prop := (Q s0 e0 e1 e2 e3 e4 e5 e6 e7 e8 e9 e10 fr hd nw kp pt hr lr)
def B_X5_say_124  (Q : Int32 → Int32 → Int32 → Int32 → Int32 → Int32 → Int32 → Int32 → Int32 → Int32 → Int32 → Int32 → Int32 → Int32 → (Nat → Int32) → (Nat → Int32) → (Nat → Int32) → (Nat → Nat → Int32) → (Nat → Nat → Int32) → Prop)  (v6 : Int32) (s0 : Nat) (s1 : Int32) (s2 : Int32) (e0 : Int32) (e1 : Int32) (e2 : Int32) (e3 : Int32) (e4 : Int32) (e5 : Int32) (e6 : Int32) (e7 : Int32) (e8 : Int32) (e9 : Int32) (e10 : Int32) (fr : Int32) (hd : Int32) (nw : (Nat → Int32)) (kp : (Nat → Int32)) (pt : (Nat → Int32)) (hr : (Nat → Nat → Int32)) (lr : (Nat → Nat → Int32)) : Prop := (vp_in s1 5 ∧ ((v6 = 0 → (B_X5_say_135  Q  (1 : Int32) e0 e1 e2 e3 e4 e5 e6 e7 e8 e9 e10 fr hd nw kp pt hr (va_up lr s0 (upd (lr s0) s1.toNatClampNeg s2)))) ∧ (¬ v6 = 0 → (B_X5_say_135  Q  (0 : Int32) e0 e1 e2 e3 e4 e5 e6 e7 e8 e9 e10 fr hd nw kp pt hr (va_up lr s0 (upd (lr s0) s1.toNatClampNeg s2))))))
def B_X5_say_78  (Q : Int32 → Int32 → Int32 → Int32 → Int32 → Int32 → Int32 → Int32 → Int32 → Int32 → Int32 → Int32 → Int32 → Int32 → (Nat → Int32) → (Nat → Int32) → (Nat → Int32) → (Nat → Nat → Int32) → (Nat → Nat → Int32) → Prop)  (v1 : Int32) (v2 : Int32) (v3 : Int64) (v5 : Int32) (v6 : Int32) (v8 : Int32) (e0 : Int32) (e1 : Int32) (e2 : Int32) (e3 : Int32) (e4 : Int32) (e5 : Int32) (e6 : Int32) (e7 : Int32) (e8 : Int32) (e9 : Int32) (e10 : Int32) (fr : Int32) (hd : Int32) (nw : (Nat → Int32)) (kp : (Nat → Int32)) (pt : (Nat → Int32)) (hr : (Nat → Nat → Int32)) (lr : (Nat → Nat → Int32)) : Prop := (F_X3_nextLine 0 nw kp (fun n_2 nw_3 kp_4 => (vp_in (0 : Int32) 5 ∧ (vp_in (1 : Int32) 5 ∧ (F_X2_length v3 (fun r_6 => (vp_in (2 : Int32) 5 ∧ (vp_in (3 : Int32) 5 ∧ ((v8 = 0 → (B_X5_say_124  Q  v6 n_2 (4 : Int32) (0 : Int32) e0 e1 e2 e3 e4 e5 e6 e7 e8 e9 e10 fr hd nw_3 kp_4 pt hr (va_up (va_up (va_up (va_up lr n_2 (upd (lr n_2) (0 : Int32).toNatClampNeg v1)) n_2 (upd ((va_up lr n_2 (upd (lr n_2) (0 : Int32).toNatClampNeg v1)) n_2) (1 : Int32).toNatClampNeg v2)) n_2 (upd ((va_up (va_up lr n_2 (upd (lr n_2) (0 : Int32).toNatClampNeg v1)) n_2 (upd ((va_up lr n_2 (upd (lr n_2) (0 : Int32).toNatClampNeg v1)) n_2) (1 : Int32).toNatClampNeg v2)) n_2) (2 : Int32).toNatClampNeg r_6)) n_2 (upd ((va_up (va_up (va_up lr n_2 (upd (lr n_2) (0 : Int32).toNatClampNeg v1)) n_2 (upd ((va_up lr n_2 (upd (lr n_2) (0 : Int32).toNatClampNeg v1)) n_2) (1 : Int32).toNatClampNeg v2)) n_2 (upd ((va_up (va_up lr n_2 (upd (lr n_2) (0 : Int32).toNatClampNeg v1)) n_2 (upd ((va_up lr n_2 (upd (lr n_2) (0 : Int32).toNatClampNeg v1)) n_2) (1 : Int32).toNatClampNeg v2)) n_2) (2 : Int32).toNatClampNeg r_6)) n_2) (3 : Int32).toNatClampNeg v5)))) ∧ (¬ v8 = 0 → (B_X5_say_124  Q  v6 n_2 (4 : Int32) (1 : Int32) e0 e1 e2 e3 e4 e5 e6 e7 e8 e9 e10 fr hd nw_3 kp_4 pt hr (va_up (va_up (va_up (va_up lr n_2 (upd (lr n_2) (0 : Int32).toNatClampNeg v1)) n_2 (upd ((va_up lr n_2 (upd (lr n_2) (0 : Int32).toNatClampNeg v1)) n_2) (1 : Int32).toNatClampNeg v2)) n_2 (upd ((va_up (va_up lr n_2 (upd (lr n_2) (0 : Int32).toNatClampNeg v1)) n_2 (upd ((va_up lr n_2 (upd (lr n_2) (0 : Int32).toNatClampNeg v1)) n_2) (1 : Int32).toNatClampNeg v2)) n_2) (2 : Int32).toNatClampNeg r_6)) n_2 (upd ((va_up (va_up (va_up lr n_2 (upd (lr n_2) (0 : Int32).toNatClampNeg v1)) n_2 (upd ((va_up lr n_2 (upd (lr n_2) (0 : Int32).toNatClampNeg v1)) n_2) (1 : Int32).toNatClampNeg v2)) n_2 (upd ((va_up (va_up lr n_2 (upd (lr n_2) (0 : Int32).toNatClampNeg v1)) n_2 (upd ((va_up lr n_2 (upd (lr n_2) (0 : Int32).toNatClampNeg v1)) n_2) (1 : Int32).toNatClampNeg v2)) n_2) (2 : Int32).toNatClampNeg r_6)) n_2) (3 : Int32).toNatClampNeg v5)))))))))))))
def B_X5_say_30  (Q : Int32 → Int32 → Int32 → Int32 → Int32 → Int32 → Int32 → Int32 → Int32 → Int32 → Int32 → Int32 → Int32 → Int32 → (Nat → Int32) → (Nat → Int32) → (Nat → Int32) → (Nat → Nat → Int32) → (Nat → Nat → Int32) → Prop)  (v1 : Int32) (v2 : Int32) (v3 : Int64) (v5 : Int32) (s0 : Int32) (e0 : Int32) (e1 : Int32) (e2 : Int32) (e3 : Int32) (e4 : Int32) (e5 : Int32) (e6 : Int32) (e7 : Int32) (e8 : Int32) (e9 : Int32) (e10 : Int32) (fr : Int32) (hd : Int32) (nw : (Nat → Int32)) (kp : (Nat → Int32)) (pt : (Nat → Int32)) (hr : (Nat → Nat → Int32)) (lr : (Nat → Nat → Int32)) : Prop := (vp_in v1 6 ∧ (vp_in (7 : Int32) 9 ∧ (vp_in (7 : Int32) 9 ∧ ((s0 = 0 → (B_X5_say_78  Q  v1 v2 v3 v5 s0 (0 : Int32) e0 e1 e2 e3 e4 e5 e6 e7 e8 e9 e10 fr hd nw kp pt (va_up hr (6 * 0 + v1.toNatClampNeg) (upd (hr (6 * 0 + v1.toNatClampNeg)) (7 : Int32).toNatClampNeg (((hr (6 * 0 + v1.toNatClampNeg)) (7 : Int32).toNatClampNeg) + (1 : Int32)))) lr)) ∧ (¬ s0 = 0 → (vp_in (8 : Int32) 9 ∧ (vp_in (8 : Int32) 9 ∧ (F_X5_doubtWords (6 * 0 + v1.toNatClampNeg) v3 pt (va_up (va_up hr (6 * 0 + v1.toNatClampNeg) (upd (hr (6 * 0 + v1.toNatClampNeg)) (7 : Int32).toNatClampNeg (((hr (6 * 0 + v1.toNatClampNeg)) (7 : Int32).toNatClampNeg) + (1 : Int32)))) (6 * 0 + v1.toNatClampNeg) (upd ((va_up hr (6 * 0 + v1.toNatClampNeg) (upd (hr (6 * 0 + v1.toNatClampNeg)) (7 : Int32).toNatClampNeg (((hr (6 * 0 + v1.toNatClampNeg)) (7 : Int32).toNatClampNeg) + (1 : Int32)))) (6 * 0 + v1.toNatClampNeg)) (8 : Int32).toNatClampNeg ((((va_up hr (6 * 0 + v1.toNatClampNeg) (upd (hr (6 * 0 + v1.toNatClampNeg)) (7 : Int32).toNatClampNeg (((hr (6 * 0 + v1.toNatClampNeg)) (7 : Int32).toNatClampNeg) + (1 : Int32)))) (6 * 0 + v1.toNatClampNeg)) (8 : Int32).toNatClampNeg) + (1 : Int32)))) (fun r_10 hr_11 => (B_X5_say_78  Q  v1 v2 v3 v5 s0 r_10 e0 e1 e2 e3 e4 e5 e6 e7 e8 e9 e10 fr hd nw kp pt hr_11 lr))))))))))
def B_X5_say_0  (Q : Int32 → Int32 → Int32 → Int32 → Int32 → Int32 → Int32 → Int32 → Int32 → Int32 → Int32 → Int32 → Int32 → Int32 → (Nat → Int32) → (Nat → Int32) → (Nat → Int32) → (Nat → Nat → Int32) → (Nat → Nat → Int32) → Prop)  (v1 : Int32) (v2 : Int32) (v3 : Int64) (e0 : Int32) (e1 : Int32) (e2 : Int32) (e3 : Int32) (e4 : Int32) (e5 : Int32) (e6 : Int32) (e7 : Int32) (e8 : Int32) (e9 : Int32) (e10 : Int32) (fr : Int32) (hd : Int32) (nw : (Nat → Int32)) (kp : (Nat → Int32)) (pt : (Nat → Int32)) (hr : (Nat → Nat → Int32)) (lr : (Nat → Nat → Int32)) : Prop := (F_X1_record 0 fr hd nw kp pt hr lr (fun fr_12 hd_13 nw_14 kp_15 pt_16 hr_17 lr_18 => (F_X5_heard v1 v3 hr_17 e0 e1 e2 e3 e4 e5 e6 e7 e8 e9 e10 (fun r_19 e0_20 e1_21 e2_22 e3_23 e4_24 e5_25 e6_26 e7_27 e8_28 e9_29 e10_30 => ((r_19 = v2 → (B_X5_say_30  Q  v1 v2 v3 r_19 (0 : Int32) e0_20 e1_21 e2_22 e3_23 e4_24 e5_25 e6_26 e7_27 e8_28 e9_29 e10_30 fr_12 hd_13 nw_14 kp_15 pt_16 hr_17 lr_18)) ∧ (¬ r_19 = v2 → (B_X5_say_30  Q  v1 v2 v3 r_19 (1 : Int32) e0_20 e1_21 e2_22 e3_23 e4_24 e5_25 e6_26 e7_27 e8_28 e9_29 e10_30 fr_12 hd_13 nw_14 kp_15 pt_16 hr_17 lr_18)))))))
def F_X5_say (v1 : Int32) (v2 : Int32) (v3 : Int64)  (e0 : Int32) (e1 : Int32) (e2 : Int32) (e3 : Int32) (e4 : Int32) (e5 : Int32) (e6 : Int32) (e7 : Int32) (e8 : Int32) (e9 : Int32) (e10 : Int32) (fr : Int32) (hd : Int32) (nw : (Nat → Int32)) (kp : (Nat → Int32)) (pt : (Nat → Int32)) (hr : (Nat → Nat → Int32)) (lr : (Nat → Nat → Int32)) (Q : Int32 → Int32 → Int32 → Int32 → Int32 → Int32 → Int32 → Int32 → Int32 → Int32 → Int32 → Int32 → Int32 → Int32 → (Nat → Int32) → (Nat → Int32) → (Nat → Int32) → (Nat → Nat → Int32) → (Nat → Nat → Int32) → Prop) : Prop := B_X5_say_0 Q  v1 v2 v3 e0 e1 e2 e3 e4 e5 e6 e7 e8 e9 e10 fr hd nw kp pt hr lr
theorem lkX5_say_19 : Cond.fieldLink RX5 19 (TX5 1).1 (TX5 1).2.1 (TX5 1).2.2.1 ∈ wsX5_say := by decide +kernel
theorem lkX5_say_57 : Cond.fieldLink RX5 57 (TX3 0).1 (TX3 0).2.1 (TX3 0).2.2.1 ∈ wsX5_say := by decide +kernel
theorem inX5_say_3 : ∀ q ∈ u_ws RX3 TX3 5, q ∈ wsX5_say := by decide +kernel
theorem lkX5_say_10 : Cond.fieldLink RX5 10 (TX5 0).1 (TX5 0).2.1 (TX5 0).2.2.1 ∈ wsX5_say := by decide +kernel
theorem inX5_say_5 : ∀ q ∈ u_ws RX5 TX5 6, q ∈ wsX5_say := by decide +kernel
set_option maxHeartbeats 4000000 in
set_option maxRecDepth 100000 in
theorem t_B_X5_say_135  {Q : Int32 → Int32 → Int32 → Int32 → Int32 → Int32 → Int32 → Int32 → Int32 → Int32 → Int32 → Int32 → Int32 → Int32 → (Nat → Int32) → (Nat → Int32) → (Nat → Int32) → (Nat → Nat → Int32) → (Nat → Nat → Int32) → Prop} (C : CxX p s m args c D (tysX cA) RX5 cX5_say 10 wsX5_say) (hrt9 : meth.sig.returnType = (some .int)) (hlk : meth.locks = false) (s0 : Int32) (e0 : Int32) (e1 : Int32) (e2 : Int32) (e3 : Int32) (e4 : Int32) (e5 : Int32) (e6 : Int32) (e7 : Int32) (e8 : Int32) (e9 : Int32) (e10 : Int32) (fr : Int32) (hd : Int32) (nw : (Nat → Int32)) (kp : (Nat → Int32)) (pt : (Nat → Int32)) (hr : (Nat → Nat → Int32)) (lr : (Nat → Nat → Int32))  (h : B_X5_say_135  Q  s0 e0 e1 e2 e3 e4 e5 e6 e7 e8 e9 e10 fr hd nw kp pt hr lr) : GoX p l e rmX5_say s m args below meth c D A 10 0 0 (QP_X5_say D A ad cA tl tx mn sd Q below args s) 135 [] [.int s0] (WX ad cA tl tx mn sd e0 e1 e2 e3 e4 e5 e6 e7 e8 e9 e10 fr hd nw kp pt hr lr) := by
  replace h : (Q s0 e0 e1 e2 e3 e4 e5 e6 e7 e8 e9 e10 fr hd nw kp pt hr lr) := h
  exact g_iret C hrt9 hlk (u := (e0, e1, e2, e3, e4, e5, e6, e7, e8, e9, e10, fr, hd, nw, kp, pt, hr, lr)) rfl h dX5_say_135
set_option maxHeartbeats 4000000 in
set_option maxRecDepth 100000 in
theorem t_B_X5_say_124  {Q : Int32 → Int32 → Int32 → Int32 → Int32 → Int32 → Int32 → Int32 → Int32 → Int32 → Int32 → Int32 → Int32 → Int32 → (Nat → Int32) → (Nat → Int32) → (Nat → Int32) → (Nat → Nat → Int32) → (Nat → Nat → Int32) → Prop} (C : CxX p s m args c D (tysX cA) RX5 cX5_say 10 wsX5_say) (hrt9 : meth.sig.returnType = (some .int)) (hlk : meth.locks = false) (v6 : Int32) (s0 : Nat) (s1 : Int32) (s2 : Int32) (e0 : Int32) (e1 : Int32) (e2 : Int32) (e3 : Int32) (e4 : Int32) (e5 : Int32) (e6 : Int32) (e7 : Int32) (e8 : Int32) (e9 : Int32) (e10 : Int32) (fr : Int32) (hd : Int32) (nw : (Nat → Int32)) (kp : (Nat → Int32)) (pt : (Nat → Int32)) (hr : (Nat → Nat → Int32)) (lr : (Nat → Nat → Int32)) (hs0 : s0 < 50) (h : B_X5_say_124  Q  v6 s0 s1 s2 e0 e1 e2 e3 e4 e5 e6 e7 e8 e9 e10 fr hd nw kp pt hr lr) : GoX p l e rmX5_say s m args below meth c D A 10 0 0 (QP_X5_say D A ad cA tl tx mn sd Q below args s) 124 [(6, .int v6)] [.int s2, .int s1, .ref (ad (52 + s0))] (WX ad cA tl tx mn sd e0 e1 e2 e3 e4 e5 e6 e7 e8 e9 e10 fr hd nw kp pt hr lr) := by
  replace h : (vp_in s1 5 ∧ ((v6 = 0 → (B_X5_say_135  Q  (1 : Int32) e0 e1 e2 e3 e4 e5 e6 e7 e8 e9 e10 fr hd nw kp pt hr (va_up lr s0 (upd (lr s0) s1.toNatClampNeg s2)))) ∧ (¬ v6 = 0 → (B_X5_say_135  Q  (0 : Int32) e0 e1 e2 e3 e4 e5 e6 e7 e8 e9 e10 fr hd nw kp pt hr (va_up lr s0 (upd (lr s0) s1.toNatClampNeg s2)))))) := h
  refine g_iast C (52 + s0) 1 (WXg_LR (by omega)) rfl h.1 (WXs_lr (by omega)) dX5_say_124 ?_
  replace h := h.2
  refine g_iload C 0 dX5_say_125 rfl ?_
  refine g_if_eq C 134 dX5_say_127 (by decide) (fun c_1 => ?_) (fun c_1 => ?_)
  · replace h := h.1 c_1
    refine g_iconst C (1 : Int32) dX5_say_134 (by decide) ?_
    exact g_sub [] rfl (t_B_X5_say_135 C hrt9 hlk  (1 : Int32) e0 e1 e2 e3 e4 e5 e6 e7 e8 e9 e10 fr hd nw kp pt hr (va_up lr s0 (upd (lr s0) s1.toNatClampNeg s2))  h)
  · replace h := h.2 c_1
    refine g_iconst C (0 : Int32) dX5_say_130 (by decide) ?_
    refine g_goto C 135 dX5_say_131 (by decide) ?_
    exact g_sub [] rfl (t_B_X5_say_135 C hrt9 hlk  (0 : Int32) e0 e1 e2 e3 e4 e5 e6 e7 e8 e9 e10 fr hd nw kp pt hr (va_up lr s0 (upd (lr s0) s1.toNatClampNeg s2))  h)
set_option maxHeartbeats 4000000 in
set_option maxRecDepth 100000 in
theorem t_B_X5_say_78  {Q : Int32 → Int32 → Int32 → Int32 → Int32 → Int32 → Int32 → Int32 → Int32 → Int32 → Int32 → Int32 → Int32 → Int32 → (Nat → Int32) → (Nat → Int32) → (Nat → Int32) → (Nat → Nat → Int32) → (Nat → Nat → Int32) → Prop} (C : CxX p s m args c D (tysX cA) RX5 cX5_say 10 wsX5_say) (hrt9 : meth.sig.returnType = (some .int)) (hlk : meth.locks = false) (v1 : Int32) (v2 : Int32) (v3 : Int64) (v5 : Int32) (v6 : Int32) (v8 : Int32) (e0 : Int32) (e1 : Int32) (e2 : Int32) (e3 : Int32) (e4 : Int32) (e5 : Int32) (e6 : Int32) (e7 : Int32) (e8 : Int32) (e9 : Int32) (e10 : Int32) (fr : Int32) (hd : Int32) (nw : (Nat → Int32)) (kp : (Nat → Int32)) (pt : (Nat → Int32)) (hr : (Nat → Nat → Int32)) (lr : (Nat → Nat → Int32))  (h : B_X5_say_78  Q  v1 v2 v3 v5 v6 v8 e0 e1 e2 e3 e4 e5 e6 e7 e8 e9 e10 fr hd nw kp pt hr lr) : GoX p l e rmX5_say s m args below meth c D A 10 0 0 (QP_X5_say D A ad cA tl tx mn sd Q below args s) 78 [(0, .ref (ad 0)), (1, .int v1), (2, .int v2), (3, .long v3), (5, .int v5), (6, .int v6), (8, .int v8)] [] (WX ad cA tl tx mn sd e0 e1 e2 e3 e4 e5 e6 e7 e8 e9 e10 fr hd nw kp pt hr lr) := by
  replace h : (F_X3_nextLine 0 nw kp (fun n_2 nw_3 kp_4 => (vp_in (0 : Int32) 5 ∧ (vp_in (1 : Int32) 5 ∧ (F_X2_length v3 (fun r_6 => (vp_in (2 : Int32) 5 ∧ (vp_in (3 : Int32) 5 ∧ ((v8 = 0 → (B_X5_say_124  Q  v6 n_2 (4 : Int32) (0 : Int32) e0 e1 e2 e3 e4 e5 e6 e7 e8 e9 e10 fr hd nw_3 kp_4 pt hr (va_up (va_up (va_up (va_up lr n_2 (upd (lr n_2) (0 : Int32).toNatClampNeg v1)) n_2 (upd ((va_up lr n_2 (upd (lr n_2) (0 : Int32).toNatClampNeg v1)) n_2) (1 : Int32).toNatClampNeg v2)) n_2 (upd ((va_up (va_up lr n_2 (upd (lr n_2) (0 : Int32).toNatClampNeg v1)) n_2 (upd ((va_up lr n_2 (upd (lr n_2) (0 : Int32).toNatClampNeg v1)) n_2) (1 : Int32).toNatClampNeg v2)) n_2) (2 : Int32).toNatClampNeg r_6)) n_2 (upd ((va_up (va_up (va_up lr n_2 (upd (lr n_2) (0 : Int32).toNatClampNeg v1)) n_2 (upd ((va_up lr n_2 (upd (lr n_2) (0 : Int32).toNatClampNeg v1)) n_2) (1 : Int32).toNatClampNeg v2)) n_2 (upd ((va_up (va_up lr n_2 (upd (lr n_2) (0 : Int32).toNatClampNeg v1)) n_2 (upd ((va_up lr n_2 (upd (lr n_2) (0 : Int32).toNatClampNeg v1)) n_2) (1 : Int32).toNatClampNeg v2)) n_2) (2 : Int32).toNatClampNeg r_6)) n_2) (3 : Int32).toNatClampNeg v5)))) ∧ (¬ v8 = 0 → (B_X5_say_124  Q  v6 n_2 (4 : Int32) (1 : Int32) e0 e1 e2 e3 e4 e5 e6 e7 e8 e9 e10 fr hd nw_3 kp_4 pt hr (va_up (va_up (va_up (va_up lr n_2 (upd (lr n_2) (0 : Int32).toNatClampNeg v1)) n_2 (upd ((va_up lr n_2 (upd (lr n_2) (0 : Int32).toNatClampNeg v1)) n_2) (1 : Int32).toNatClampNeg v2)) n_2 (upd ((va_up (va_up lr n_2 (upd (lr n_2) (0 : Int32).toNatClampNeg v1)) n_2 (upd ((va_up lr n_2 (upd (lr n_2) (0 : Int32).toNatClampNeg v1)) n_2) (1 : Int32).toNatClampNeg v2)) n_2) (2 : Int32).toNatClampNeg r_6)) n_2 (upd ((va_up (va_up (va_up lr n_2 (upd (lr n_2) (0 : Int32).toNatClampNeg v1)) n_2 (upd ((va_up lr n_2 (upd (lr n_2) (0 : Int32).toNatClampNeg v1)) n_2) (1 : Int32).toNatClampNeg v2)) n_2 (upd ((va_up (va_up lr n_2 (upd (lr n_2) (0 : Int32).toNatClampNeg v1)) n_2 (upd ((va_up lr n_2 (upd (lr n_2) (0 : Int32).toNatClampNeg v1)) n_2) (1 : Int32).toNatClampNeg v2)) n_2) (2 : Int32).toNatClampNeg r_6)) n_2) (3 : Int32).toNatClampNeg v5))))))))))))) := h
  refine g_aload_n C 0 dX5_say_78 rfl rfl ?_
  refine g_get C inX5_say_5 0 WXg0 rfl 0 (by decide) lkX5_say_10 rfl dX5_say_79 ?_
  refine k_X3_nextLine C gX5_say_X3_nextLine ⟨Nat.le_of_ble_eq_true rfl, Nat.le_of_ble_eq_true rfl⟩ ⟨Nat.zero_le _, Nat.zero_le _⟩ (Nat.le_of_ble_eq_true rfl) dX5_say_82 (by omega) h (fun n_2 nw_3 kp_4 b_5 h => ?_)
  refine g_astore C (lv2 := [(9, .ref (ad (52 + n_2))), (0, .ref (ad 0)), (1, .int v1), (2, .int v2), (3, .long v3), (5, .int v5), (6, .int v6), (8, .int v8)]) dX5_say_85 (by decide) rfl ?_
  refine g_aload C 0 dX5_say_87 rfl ?_
  refine g_iconst C (0 : Int32) dX5_say_89 (by decide) ?_
  refine g_iload_n C 2 dX5_say_90 rfl rfl ?_
  refine g_iast C (52 + n_2) 1 (WXg_LR (by omega)) rfl h.1 (WXs_lr (by omega)) dX5_say_91 ?_
  replace h := h.2
  refine g_aload C 0 dX5_say_92 rfl ?_
  refine g_iconst C (1 : Int32) dX5_say_94 (by decide) ?_
  refine g_iload_n C 3 dX5_say_95 rfl rfl ?_
  refine g_iast C (52 + n_2) 1 (WXg_LR (by omega)) rfl h.1 (WXs_lr (by omega)) dX5_say_96 ?_
  replace h := h.2
  refine g_aload C 0 dX5_say_97 rfl ?_
  refine g_iconst C (2 : Int32) dX5_say_99 (by decide) ?_
  refine g_lload_n C 4 dX5_say_100 rfl rfl ?_
  refine k_X2_length C gX5_say_X2_length ⟨Nat.le_of_ble_eq_true rfl, Nat.le_of_ble_eq_true rfl⟩ ⟨Nat.zero_le _, Nat.zero_le _⟩ (Nat.le_of_ble_eq_true rfl) dX5_say_101  h (fun r_6 h => ?_)
  refine g_iast C (52 + n_2) 1 (WXg_LR (by omega)) rfl h.1 (WXs_lr (by omega)) dX5_say_104 ?_
  replace h := h.2
  refine g_aload C 0 dX5_say_105 rfl ?_
  refine g_iconst C (3 : Int32) dX5_say_107 (by decide) ?_
  refine g_iload C 5 dX5_say_108 rfl ?_
  refine g_iast C (52 + n_2) 1 (WXg_LR (by omega)) rfl h.1 (WXs_lr (by omega)) dX5_say_110 ?_
  replace h := h.2
  refine g_aload C 0 dX5_say_111 rfl ?_
  refine g_iconst C (4 : Int32) dX5_say_113 (by decide) ?_
  refine g_iload C 7 dX5_say_114 rfl ?_
  refine g_if_eq C 123 dX5_say_116 (by decide) (fun c_7 => ?_) (fun c_7 => ?_)
  · replace h := h.1 c_7
    refine g_iconst C (0 : Int32) dX5_say_123 (by decide) ?_
    exact g_sub [6] rfl (t_B_X5_say_124 C hrt9 hlk  v6 n_2 (4 : Int32) (0 : Int32) e0 e1 e2 e3 e4 e5 e6 e7 e8 e9 e10 fr hd nw_3 kp_4 pt hr (va_up (va_up (va_up (va_up lr n_2 (upd (lr n_2) (0 : Int32).toNatClampNeg v1)) n_2 (upd ((va_up lr n_2 (upd (lr n_2) (0 : Int32).toNatClampNeg v1)) n_2) (1 : Int32).toNatClampNeg v2)) n_2 (upd ((va_up (va_up lr n_2 (upd (lr n_2) (0 : Int32).toNatClampNeg v1)) n_2 (upd ((va_up lr n_2 (upd (lr n_2) (0 : Int32).toNatClampNeg v1)) n_2) (1 : Int32).toNatClampNeg v2)) n_2) (2 : Int32).toNatClampNeg r_6)) n_2 (upd ((va_up (va_up (va_up lr n_2 (upd (lr n_2) (0 : Int32).toNatClampNeg v1)) n_2 (upd ((va_up lr n_2 (upd (lr n_2) (0 : Int32).toNatClampNeg v1)) n_2) (1 : Int32).toNatClampNeg v2)) n_2 (upd ((va_up (va_up lr n_2 (upd (lr n_2) (0 : Int32).toNatClampNeg v1)) n_2 (upd ((va_up lr n_2 (upd (lr n_2) (0 : Int32).toNatClampNeg v1)) n_2) (1 : Int32).toNatClampNeg v2)) n_2) (2 : Int32).toNatClampNeg r_6)) n_2) (3 : Int32).toNatClampNeg v5)) (by omega) h)
  · replace h := h.2 c_7
    refine g_iconst C (1 : Int32) dX5_say_119 (by decide) ?_
    refine g_goto C 124 dX5_say_120 (by decide) ?_
    exact g_sub [6] rfl (t_B_X5_say_124 C hrt9 hlk  v6 n_2 (4 : Int32) (1 : Int32) e0 e1 e2 e3 e4 e5 e6 e7 e8 e9 e10 fr hd nw_3 kp_4 pt hr (va_up (va_up (va_up (va_up lr n_2 (upd (lr n_2) (0 : Int32).toNatClampNeg v1)) n_2 (upd ((va_up lr n_2 (upd (lr n_2) (0 : Int32).toNatClampNeg v1)) n_2) (1 : Int32).toNatClampNeg v2)) n_2 (upd ((va_up (va_up lr n_2 (upd (lr n_2) (0 : Int32).toNatClampNeg v1)) n_2 (upd ((va_up lr n_2 (upd (lr n_2) (0 : Int32).toNatClampNeg v1)) n_2) (1 : Int32).toNatClampNeg v2)) n_2) (2 : Int32).toNatClampNeg r_6)) n_2 (upd ((va_up (va_up (va_up lr n_2 (upd (lr n_2) (0 : Int32).toNatClampNeg v1)) n_2 (upd ((va_up lr n_2 (upd (lr n_2) (0 : Int32).toNatClampNeg v1)) n_2) (1 : Int32).toNatClampNeg v2)) n_2 (upd ((va_up (va_up lr n_2 (upd (lr n_2) (0 : Int32).toNatClampNeg v1)) n_2 (upd ((va_up lr n_2 (upd (lr n_2) (0 : Int32).toNatClampNeg v1)) n_2) (1 : Int32).toNatClampNeg v2)) n_2) (2 : Int32).toNatClampNeg r_6)) n_2) (3 : Int32).toNatClampNeg v5)) (by omega) h)
set_option maxHeartbeats 4000000 in
set_option maxRecDepth 100000 in
theorem t_B_X5_say_30  {Q : Int32 → Int32 → Int32 → Int32 → Int32 → Int32 → Int32 → Int32 → Int32 → Int32 → Int32 → Int32 → Int32 → Int32 → (Nat → Int32) → (Nat → Int32) → (Nat → Int32) → (Nat → Nat → Int32) → (Nat → Nat → Int32) → Prop} (C : CxX p s m args c D (tysX cA) RX5 cX5_say 10 wsX5_say) (hrt9 : meth.sig.returnType = (some .int)) (hlk : meth.locks = false) (v1 : Int32) (v2 : Int32) (v3 : Int64) (v5 : Int32) (s0 : Int32) (e0 : Int32) (e1 : Int32) (e2 : Int32) (e3 : Int32) (e4 : Int32) (e5 : Int32) (e6 : Int32) (e7 : Int32) (e8 : Int32) (e9 : Int32) (e10 : Int32) (fr : Int32) (hd : Int32) (nw : (Nat → Int32)) (kp : (Nat → Int32)) (pt : (Nat → Int32)) (hr : (Nat → Nat → Int32)) (lr : (Nat → Nat → Int32))  (h : B_X5_say_30  Q  v1 v2 v3 v5 s0 e0 e1 e2 e3 e4 e5 e6 e7 e8 e9 e10 fr hd nw kp pt hr lr) : GoX p l e rmX5_say s m args below meth c D A 10 0 0 (QP_X5_say D A ad cA tl tx mn sd Q below args s) 30 [(0, .ref (ad 0)), (1, .int v1), (2, .int v2), (3, .long v3), (5, .int v5)] [.int s0] (WX ad cA tl tx mn sd e0 e1 e2 e3 e4 e5 e6 e7 e8 e9 e10 fr hd nw kp pt hr lr) := by
  replace h : (vp_in v1 6 ∧ (vp_in (7 : Int32) 9 ∧ (vp_in (7 : Int32) 9 ∧ ((s0 = 0 → (B_X5_say_78  Q  v1 v2 v3 v5 s0 (0 : Int32) e0 e1 e2 e3 e4 e5 e6 e7 e8 e9 e10 fr hd nw kp pt (va_up hr (6 * 0 + v1.toNatClampNeg) (upd (hr (6 * 0 + v1.toNatClampNeg)) (7 : Int32).toNatClampNeg (((hr (6 * 0 + v1.toNatClampNeg)) (7 : Int32).toNatClampNeg) + (1 : Int32)))) lr)) ∧ (¬ s0 = 0 → (vp_in (8 : Int32) 9 ∧ (vp_in (8 : Int32) 9 ∧ (F_X5_doubtWords (6 * 0 + v1.toNatClampNeg) v3 pt (va_up (va_up hr (6 * 0 + v1.toNatClampNeg) (upd (hr (6 * 0 + v1.toNatClampNeg)) (7 : Int32).toNatClampNeg (((hr (6 * 0 + v1.toNatClampNeg)) (7 : Int32).toNatClampNeg) + (1 : Int32)))) (6 * 0 + v1.toNatClampNeg) (upd ((va_up hr (6 * 0 + v1.toNatClampNeg) (upd (hr (6 * 0 + v1.toNatClampNeg)) (7 : Int32).toNatClampNeg (((hr (6 * 0 + v1.toNatClampNeg)) (7 : Int32).toNatClampNeg) + (1 : Int32)))) (6 * 0 + v1.toNatClampNeg)) (8 : Int32).toNatClampNeg ((((va_up hr (6 * 0 + v1.toNatClampNeg) (upd (hr (6 * 0 + v1.toNatClampNeg)) (7 : Int32).toNatClampNeg (((hr (6 * 0 + v1.toNatClampNeg)) (7 : Int32).toNatClampNeg) + (1 : Int32)))) (6 * 0 + v1.toNatClampNeg)) (8 : Int32).toNatClampNeg) + (1 : Int32)))) (fun r_10 hr_11 => (B_X5_say_78  Q  v1 v2 v3 v5 s0 r_10 e0 e1 e2 e3 e4 e5 e6 e7 e8 e9 e10 fr hd nw kp pt hr_11 lr)))))))))) := h
  refine g_istore C (lv2 := [(6, .int s0), (0, .ref (ad 0)), (1, .int v1), (2, .int v2), (3, .long v3), (5, .int v5)]) dX5_say_30 (by decide) rfl ?_
  refine g_aload_n C 1 dX5_say_32 rfl rfl ?_
  refine g_get C inX5_say_5 0 WXg0 rfl 0 (by decide) lkX5_say_10 rfl dX5_say_33 ?_
  refine g_get C inX5_say_3 (7 + 0) (WXg_ST (by omega)) rfl 0 (by decide) lkX5_say_57 rfl dX5_say_36 ?_
  refine g_iload_n C 2 dX5_say_39 rfl rfl ?_
  have b_8 := vp_lt h.1
  refine g_aald C (12 + 0) 4 (WXg_HO (by omega)) rfl rfl h.1 rfl dX5_say_40 ?_
  replace h := h.2
  refine g_astore C (lv2 := [(7, .ref (ad (22 + (6 * 0 + v1.toNatClampNeg)))), (6, .int s0), (0, .ref (ad 0)), (1, .int v1), (2, .int v2), (3, .long v3), (5, .int v5)]) dX5_say_41 (by decide) rfl ?_
  refine g_aload C 0 dX5_say_43 rfl ?_
  refine g_bipush C (7 : Int32) dX5_say_45 (by decide) ?_
  refine g_dup2 C dX5_say_47 rfl rfl ?_
  refine g_iald C (22 + (6 * 0 + v1.toNatClampNeg)) 1 (WXg_HR (by omega)) rfl h.1 dX5_say_48 ?_
  replace h := h.2
  refine g_iconst C (1 : Int32) dX5_say_49 (by decide) ?_
  refine g_iadd C dX5_say_50 ?_
  refine g_iast C (22 + (6 * 0 + v1.toNatClampNeg)) 1 (WXg_HR (by omega)) rfl h.1 (WXs_hr (by omega)) dX5_say_51 ?_
  replace h := h.2
  refine g_iconst C (0 : Int32) dX5_say_52 (by decide) ?_
  refine g_istore C (lv2 := [(8, .int (0 : Int32)), (7, .ref (ad (22 + (6 * 0 + v1.toNatClampNeg)))), (6, .int s0), (0, .ref (ad 0)), (1, .int v1), (2, .int v2), (3, .long v3), (5, .int v5)]) dX5_say_53 (by decide) rfl ?_
  refine g_iload C 2 dX5_say_55 rfl ?_
  refine g_if_eq C 78 dX5_say_57 (by decide) (fun c_9 => ?_) (fun c_9 => ?_)
  · replace h := h.1 c_9
    exact g_sub [3, 4, 5, 6, 7, 2, 0] rfl (t_B_X5_say_78 C hrt9 hlk  v1 v2 v3 v5 s0 (0 : Int32) e0 e1 e2 e3 e4 e5 e6 e7 e8 e9 e10 fr hd nw kp pt (va_up hr (6 * 0 + v1.toNatClampNeg) (upd (hr (6 * 0 + v1.toNatClampNeg)) (7 : Int32).toNatClampNeg (((hr (6 * 0 + v1.toNatClampNeg)) (7 : Int32).toNatClampNeg) + (1 : Int32)))) lr  h)
  · replace h := h.2 c_9
    refine g_aload C 1 dX5_say_60 rfl ?_
    refine g_bipush C (8 : Int32) dX5_say_62 (by decide) ?_
    refine g_dup2 C dX5_say_64 rfl rfl ?_
    refine g_iald C (22 + (6 * 0 + v1.toNatClampNeg)) 1 (WXg_HR (by omega)) rfl h.1 dX5_say_65 ?_
    replace h := h.2
    refine g_iconst C (1 : Int32) dX5_say_66 (by decide) ?_
    refine g_iadd C dX5_say_67 ?_
    refine g_iast C (22 + (6 * 0 + v1.toNatClampNeg)) 1 (WXg_HR (by omega)) rfl h.1 (WXs_hr (by omega)) dX5_say_68 ?_
    replace h := h.2
    refine g_aload_n C 3 dX5_say_69 rfl rfl ?_
    refine g_aload C 1 dX5_say_70 rfl ?_
    refine g_lload_n C 6 dX5_say_72 rfl rfl ?_
    refine k_X5_doubtWords C gX5_say_X5_doubtWords ⟨Nat.le_of_ble_eq_true rfl, Nat.le_of_ble_eq_true rfl⟩ ⟨Nat.zero_le _, Nat.zero_le _⟩ (Nat.le_of_ble_eq_true rfl) dX5_say_73 (by omega) h (fun r_10 hr_11 h => ?_)
    refine g_istore C (lv2 := [(8, .int r_10), (7, .ref (ad (22 + (6 * 0 + v1.toNatClampNeg)))), (6, .int s0), (0, .ref (ad 0)), (1, .int v1), (2, .int v2), (3, .long v3), (5, .int v5)]) dX5_say_76 (by decide) rfl ?_
    exact g_sub [3, 4, 5, 6, 7, 2, 0] rfl (t_B_X5_say_78 C hrt9 hlk  v1 v2 v3 v5 s0 r_10 e0 e1 e2 e3 e4 e5 e6 e7 e8 e9 e10 fr hd nw kp pt hr_11 lr  h)
set_option maxHeartbeats 4000000 in
set_option maxRecDepth 100000 in
theorem t_B_X5_say_0  {Q : Int32 → Int32 → Int32 → Int32 → Int32 → Int32 → Int32 → Int32 → Int32 → Int32 → Int32 → Int32 → Int32 → Int32 → (Nat → Int32) → (Nat → Int32) → (Nat → Int32) → (Nat → Nat → Int32) → (Nat → Nat → Int32) → Prop} (C : CxX p s m args c D (tysX cA) RX5 cX5_say 10 wsX5_say) (hrt9 : meth.sig.returnType = (some .int)) (hlk : meth.locks = false) (v1 : Int32) (v2 : Int32) (v3 : Int64) (e0 : Int32) (e1 : Int32) (e2 : Int32) (e3 : Int32) (e4 : Int32) (e5 : Int32) (e6 : Int32) (e7 : Int32) (e8 : Int32) (e9 : Int32) (e10 : Int32) (fr : Int32) (hd : Int32) (nw : (Nat → Int32)) (kp : (Nat → Int32)) (pt : (Nat → Int32)) (hr : (Nat → Nat → Int32)) (lr : (Nat → Nat → Int32))  (h : B_X5_say_0  Q  v1 v2 v3 e0 e1 e2 e3 e4 e5 e6 e7 e8 e9 e10 fr hd nw kp pt hr lr) : GoX p l e rmX5_say s m args below meth c D A 10 0 0 (QP_X5_say D A ad cA tl tx mn sd Q below args s) 0 [(0, .ref (ad 0)), (1, .int v1), (2, .int v2), (3, .long v3)] [] (WX ad cA tl tx mn sd e0 e1 e2 e3 e4 e5 e6 e7 e8 e9 e10 fr hd nw kp pt hr lr) := by
  replace h : (F_X1_record 0 fr hd nw kp pt hr lr (fun fr_12 hd_13 nw_14 kp_15 pt_16 hr_17 lr_18 => (F_X5_heard v1 v3 hr_17 e0 e1 e2 e3 e4 e5 e6 e7 e8 e9 e10 (fun r_19 e0_20 e1_21 e2_22 e3_23 e4_24 e5_25 e6_26 e7_27 e8_28 e9_29 e10_30 => ((r_19 = v2 → (B_X5_say_30  Q  v1 v2 v3 r_19 (0 : Int32) e0_20 e1_21 e2_22 e3_23 e4_24 e5_25 e6_26 e7_27 e8_28 e9_29 e10_30 fr_12 hd_13 nw_14 kp_15 pt_16 hr_17 lr_18)) ∧ (¬ r_19 = v2 → (B_X5_say_30  Q  v1 v2 v3 r_19 (1 : Int32) e0_20 e1_21 e2_22 e3_23 e4_24 e5_25 e6_26 e7_27 e8_28 e9_29 e10_30 fr_12 hd_13 nw_14 kp_15 pt_16 hr_17 lr_18))))))) := h
  refine g_aload_n C 0 dX5_say_0 rfl rfl ?_
  refine g_get C inX5_say_5 0 WXg0 rfl 1 (by decide) lkX5_say_19 rfl dX5_say_1 ?_
  refine g_aload_n C 0 dX5_say_4 rfl rfl ?_
  refine g_get C inX5_say_5 0 WXg0 rfl 0 (by decide) lkX5_say_10 rfl dX5_say_5 ?_
  refine k_X1_record C gX5_say_X1_record ⟨Nat.le_of_ble_eq_true rfl, Nat.le_of_ble_eq_true rfl⟩ ⟨Nat.zero_le _, Nat.zero_le _⟩ (Nat.le_of_ble_eq_true rfl) dX5_say_8 (by omega) h (fun fr_12 hd_13 nw_14 kp_15 pt_16 hr_17 lr_18 h => ?_)
  refine g_aload_n C 0 dX5_say_11 rfl rfl ?_
  refine g_iload_n C 1 dX5_say_12 rfl rfl ?_
  refine g_lload_n C 3 dX5_say_13 rfl rfl ?_
  refine k_X5_heard C gX5_say_X5_heard ⟨Nat.le_of_ble_eq_true rfl, Nat.le_of_ble_eq_true rfl⟩ ⟨Nat.zero_le _, Nat.zero_le _⟩ (Nat.le_of_ble_eq_true rfl) dX5_say_14  h (fun r_19 e0_20 e1_21 e2_22 e3_23 e4_24 e5_25 e6_26 e7_27 e8_28 e9_29 e10_30 h => ?_)
  refine g_istore C (lv2 := [(5, .int r_19), (0, .ref (ad 0)), (1, .int v1), (2, .int v2), (3, .long v3)]) dX5_say_17 (by decide) rfl ?_
  refine g_iload C 0 dX5_say_19 rfl ?_
  refine g_iload_n C 3 dX5_say_21 rfl rfl ?_
  refine g_icmp_eq C 29 dX5_say_22 (by decide) (fun c_31 => ?_) (fun c_31 => ?_)
  · replace h := h.1 c_31
    refine g_iconst C (0 : Int32) dX5_say_29 (by decide) ?_
    exact g_sub [1, 2, 3, 4, 0] rfl (t_B_X5_say_30 C hrt9 hlk  v1 v2 v3 r_19 (0 : Int32) e0_20 e1_21 e2_22 e3_23 e4_24 e5_25 e6_26 e7_27 e8_28 e9_29 e10_30 fr_12 hd_13 nw_14 kp_15 pt_16 hr_17 lr_18  h)
  · replace h := h.2 c_31
    refine g_iconst C (1 : Int32) dX5_say_25 (by decide) ?_
    refine g_goto C 30 dX5_say_26 (by decide) ?_
    exact g_sub [1, 2, 3, 4, 0] rfl (t_B_X5_say_30 C hrt9 hlk  v1 v2 v3 r_19 (1 : Int32) e0_20 e1_21 e2_22 e3_23 e4_24 e5_25 e6_26 e7_27 e8_28 e9_29 e10_30 fr_12 hd_13 nw_14 kp_15 pt_16 hr_17 lr_18  h)
theorem c_X5_say (l : Launch) (D : va_G) (A : Nat → Prop) (ad : Nat → Nat) (cA : Nat → ClassId) (v1 : Int32) (v2 : Int32) (v3 : Int64) {tl : Int32} {tx : (Nat → Int32)} {mn : Int32} {sd : (Nat → Int64)} {e0 : Int32} {e1 : Int32} {e2 : Int32} {e3 : Int32} {e4 : Int32} {e5 : Int32} {e6 : Int32} {e7 : Int32} {e8 : Int32} {e9 : Int32} {e10 : Int32} {fr : Int32} {hd : Int32} {nw : (Nat → Int32)} {kp : (Nat → Int32)} {pt : (Nat → Int32)} {hr : (Nat → Nat → Int32)} {lr : (Nat → Nat → Int32)}  (Q : Int32 → Int32 → Int32 → Int32 → Int32 → Int32 → Int32 → Int32 → Int32 → Int32 → Int32 → Int32 → Int32 → Int32 → (Nat → Int32) → (Nat → Int32) → (Nat → Int32) → (Nat → Nat → Int32) → (Nat → Nat → Int32) → Prop) (h : F_X5_say v1 v2 v3 e0 e1 e2 e3 e4 e5 e6 e7 e8 e9 e10 fr hd nw kp pt hr lr Q) : Met l yX5_say wsX5_say rmX5_say (va_Pc [.ref (ad 0), .int v1, .int v2, .long v3] (OKX D (tysX cA) (WX ad cA tl tx mn sd e0 e1 e2 e3 e4 e5 e6 e7 e8 e9 e10 fr hd nw kp pt hr lr) A)) (QC_X5_say D A ad cA tl tx mn sd Q) 0 0 A :=
  g_met (own := RX5) (by decide) rfl rfl (Nat.le_of_ble_eq_true rfl) (fun p e s m below meth c C hrt9 hlk _ => g_sub [0, 1, 2, 3] rfl (t_B_X5_say_0 C hrt9 hlk v1 v2 v3 e0 e1 e2 e3 e4 e5 e6 e7 e8 e9 e10 fr hd nw kp pt hr lr  h))
theorem k_X5_say {ws : List Cond} {own : String} {cc : ByteArray} {nL pc index kc ks : Nat} {lv : List (Nat × Value)} {st : List Value} {Q : State → Prop} {R : Room} {K : Int32 → Int32 → Int32 → Int32 → Int32 → Int32 → Int32 → Int32 → Int32 → Int32 → Int32 → Int32 → Int32 → Int32 → (Nat → Int32) → (Nat → Int32) → (Nat → Int32) → (Nat → Nat → Int32) → (Nat → Nat → Int32) → Prop} {v1 : Int32} {v2 : Int32} {v3 : Int64} (C : CxX p s m args c D (tysX cA) own cc nL ws) (hT : GoodIn ws (wsV own index RX5 yX5_say wsX5_say)) (hR : rmX5_say.frames + 1 ≤ R.frames ∧ 8 + (10 + 11) + rmX5_say.locals ≤ R.locals) (hk9 : kc ≤ R.cells ∧ ks ≤ R.slots) (hcat : (st.map fun v => v.category).sum ≤ 8) (hdg : decode cc pc = .ok (.invokevirtual index, 3))  (h : F_X5_say v1 v2 v3 e0 e1 e2 e3 e4 e5 e6 e7 e8 e9 e10 fr hd nw kp pt hr lr K) (kk : ∀ (r : Int32) (e0q : Int32) (e1q : Int32) (e2q : Int32) (e3q : Int32) (e4q : Int32) (e5q : Int32) (e6q : Int32) (e7q : Int32) (e8q : Int32) (e9q : Int32) (e10q : Int32) (frq : Int32) (hdq : Int32) (nwq : (Nat → Int32)) (kpq : (Nat → Int32)) (ptq : (Nat → Int32)) (hrq : (Nat → Nat → Int32)) (lrq : (Nat → Nat → Int32)), K r e0q e1q e2q e3q e4q e5q e6q e7q e8q e9q e10q frq hdq nwq kpq ptq hrq lrq → GoX p l e R s m args below meth c D A nL kc ks Q (pc + 3) lv (.int r :: st) (WX ad cA tl tx mn sd e0q e1q e2q e3q e4q e5q e6q e7q e8q e9q e10q frq hdq nwq kpq ptq hrq lrq)) : GoX p l e R s m args below meth c D A nL kc ks Q pc lv (.long v3 :: .int v2 :: .int v1 :: .ref (ad 0) :: st) (WX ad cA tl tx mn sd e0 e1 e2 e3 e4 e5 e6 e7 e8 e9 e10 fr hd nw kp pt hr lr) :=
  g_callVi C (As := [.int v1, .int v2, .long v3]) 3 (c_X5_say l D A ad cA v1 v2 v3  K h) hT rfl rfl rfl (by decide +kernel) hR hk9 0 WXg0 rfl rfl rfl hcat hdg (fun r u hu => kk r u.1 u.2.1 u.2.2.1 u.2.2.2.1 u.2.2.2.2.1 u.2.2.2.2.2.1 u.2.2.2.2.2.2.1 u.2.2.2.2.2.2.2.1 u.2.2.2.2.2.2.2.2.1 u.2.2.2.2.2.2.2.2.2.1 u.2.2.2.2.2.2.2.2.2.2.1 u.2.2.2.2.2.2.2.2.2.2.2.1 u.2.2.2.2.2.2.2.2.2.2.2.2.1 u.2.2.2.2.2.2.2.2.2.2.2.2.2.1 u.2.2.2.2.2.2.2.2.2.2.2.2.2.2.1 u.2.2.2.2.2.2.2.2.2.2.2.2.2.2.2.1 u.2.2.2.2.2.2.2.2.2.2.2.2.2.2.2.2.1 u.2.2.2.2.2.2.2.2.2.2.2.2.2.2.2.2.2 hu)
/-! X5_fault -/
abbrev rmX5_fault : Room := { frames := 3, cells := 0, slots := 0, locals := 64 }
abbrev QC_X5_fault (D : va_G) (A : Nat → Prop) (ad : Nat → Nat) (cA : Nat → ClassId) (tl : Int32) (tx : (Nat → Int32)) (mn : Int32) (sd : (Nat → Int64)) (fr : Int32) (hd : Int32) (nw : (Nat → Int32)) (kp : (Nat → Int32)) (pt : (Nat → Int32)) (hr : (Nat → Nat → Int32)) (lr : (Nat → Nat → Int32)) (Q : Int32 → Int32 → Int32 → Int32 → Int32 → Int32 → Int32 → Int32 → Int32 → Int32 → Int32 → Int32 → Prop) : Array Value → State → Outcome → State → Prop := va_Qi (fun (r : Int32) (u : Int32 × Int32 × Int32 × Int32 × Int32 × Int32 × Int32 × Int32 × Int32 × Int32 × Int32) => Q r u.1 u.2.1 u.2.2.1 u.2.2.2.1 u.2.2.2.2.1 u.2.2.2.2.2.1 u.2.2.2.2.2.2.1 u.2.2.2.2.2.2.2.1 u.2.2.2.2.2.2.2.2.1 u.2.2.2.2.2.2.2.2.2.1 u.2.2.2.2.2.2.2.2.2.2) (fun u t => OKX D (tysX cA) ((fun u : Int32 × Int32 × Int32 × Int32 × Int32 × Int32 × Int32 × Int32 × Int32 × Int32 × Int32 => WX ad cA tl tx mn sd u.1 u.2.1 u.2.2.1 u.2.2.2.1 u.2.2.2.2.1 u.2.2.2.2.2.1 u.2.2.2.2.2.2.1 u.2.2.2.2.2.2.2.1 u.2.2.2.2.2.2.2.2.1 u.2.2.2.2.2.2.2.2.2.1 u.2.2.2.2.2.2.2.2.2.2 fr hd nw kp pt hr lr) u) A t) A
abbrev QP_X5_fault (D : va_G) (A : Nat → Prop) (ad : Nat → Nat) (cA : Nat → ClassId) (tl : Int32) (tx : (Nat → Int32)) (mn : Int32) (sd : (Nat → Int64)) (fr : Int32) (hd : Int32) (nw : (Nat → Int32)) (kp : (Nat → Int32)) (pt : (Nat → Int32)) (hr : (Nat → Nat → Int32)) (lr : (Nat → Nat → Int32)) (Q : Int32 → Int32 → Int32 → Int32 → Int32 → Int32 → Int32 → Int32 → Int32 → Int32 → Int32 → Int32 → Prop) (below : List Frame) (args : Array Value) (s : State) : State → Prop := MQ below (QC_X5_fault D A ad cA tl tx mn sd fr hd nw kp pt hr lr Q) args s 0 0 A
def B_X5_fault_69  (Q : Int32 → Int32 → Int32 → Int32 → Int32 → Int32 → Int32 → Int32 → Int32 → Int32 → Int32 → Int32 → Prop) (tl : Int32) (tx : (Nat → Int32)) (s0 : Int32) (e0 : Int32) (e1 : Int32) (e2 : Int32) (e3 : Int32) (e4 : Int32) (e5 : Int32) (e6 : Int32) (e7 : Int32) (e8 : Int32) (e9 : Int32) (e10 : Int32) : Prop := (Q s0 e0 e1 e2 e3 e4 e5 e6 e7 e8 e9 e10)
def B_X5_fault_50  (Q : Int32 → Int32 → Int32 → Int32 → Int32 → Int32 → Int32 → Int32 → Int32 → Int32 → Int32 → Int32 → Prop) (tl : Int32) (tx : (Nat → Int32))  (e0 : Int32) (e1 : Int32) (e2 : Int32) (e3 : Int32) (e4 : Int32) (e5 : Int32) (e6 : Int32) (e7 : Int32) (e8 : Int32) (e9 : Int32) (e10 : Int32) : Prop := (F_X0_isComplete e3 (fun r_1 => ((r_1 = 0 → (B_X5_fault_69  Q tl tx tl e0 e1 e2 e3 e4 e5 e6 e7 e8 e9 e10)) ∧ (¬ r_1 = 0 → (B_X5_fault_69  Q tl tx (-5 : Int32) e0 e1 e2 e3 e4 e5 e6 e7 e8 e9 e10)))))
noncomputable def L_X5_fault_12  (Q : Int32 → Int32 → Int32 → Int32 → Int32 → Int32 → Int32 → Int32 → Int32 → Int32 → Int32 → Int32 → Prop) (tl : Int32) (tx : (Nat → Int32)) (n9 : Nat) : Int32 → Int32 → Int32 → Int32 → Int32 → Int32 → Int32 → Int32 → Int32 → Int32 → Int32 → Int32 → Prop := Nat.rec (motive := fun _ => Int32 → Int32 → Int32 → Int32 → Int32 → Int32 → Int32 → Int32 → Int32 → Int32 → Int32 → Int32 → Prop) (fun _ _ _ _ _ _ _ _ _ _ _ _ => False) (fun _ kh12 => fun v1 e0 e1 e2 e3 e4 e5 e6 e7 e8 e9 e10 => ((tl ≤ v1 → (B_X5_fault_50  Q tl tx e0 e1 e2 e3 e4 e5 e6 e7 e8 e9 e10)) ∧ (¬ tl ≤ v1 → (((20 : Int32) ≤ v1 → (B_X5_fault_50  Q tl tx e0 e1 e2 e3 e4 e5 e6 e7 e8 e9 e10)) ∧ (¬ (20 : Int32) ≤ v1 → (vp_in v1 20 ∧ (F_X0_take (tx v1.toNatClampNeg) e0 e2 e3 e4 e5 e6 e7 e8 e9 e10 (fun r_5 e3_6 e4_7 e5_8 e6_9 e7_10 e8_11 e9_12 e10_13 => ((r_5 = 0 → (Q v1 e0 e1 e2 e3_6 e4_7 e5_8 e6_9 e7_10 e8_11 e9_12 e10_13)) ∧ (¬ r_5 = 0 → (kh12 (v1 + (1 : Int32)) e0 e1 e2 e3_6 e4_7 e5_8 e6_9 e7_10 e8_11 e9_12 e10_13))))))))))) n9
def B_X5_fault_0  (Q : Int32 → Int32 → Int32 → Int32 → Int32 → Int32 → Int32 → Int32 → Int32 → Int32 → Int32 → Int32 → Prop) (tl : Int32) (tx : (Nat → Int32))  (e0 : Int32) (e1 : Int32) (e2 : Int32) (e3 : Int32) (e4 : Int32) (e5 : Int32) (e6 : Int32) (e7 : Int32) (e8 : Int32) (e9 : Int32) (e10 : Int32) : Prop := (F_X0_listen (1 : Int32) (1 : Int32) (1 : Int32) e0 e1 e2 e3 e4 e5 e6 e7 e8 e9 e10 (fun e0_15 e1_16 e2_17 e3_18 e4_19 e5_20 e6_21 e7_22 e8_23 e9_24 e10_25 => (∃ n9 : Nat, L_X5_fault_12  Q tl tx n9 (0 : Int32) e0_15 e1_16 e2_17 e3_18 e4_19 e5_20 e6_21 e7_22 e8_23 e9_24 e10_25)))
def F_X5_fault  (tl : Int32) (tx : (Nat → Int32)) (e0 : Int32) (e1 : Int32) (e2 : Int32) (e3 : Int32) (e4 : Int32) (e5 : Int32) (e6 : Int32) (e7 : Int32) (e8 : Int32) (e9 : Int32) (e10 : Int32) (Q : Int32 → Int32 → Int32 → Int32 → Int32 → Int32 → Int32 → Int32 → Int32 → Int32 → Int32 → Int32 → Prop) : Prop := B_X5_fault_0 Q tl tx  e0 e1 e2 e3 e4 e5 e6 e7 e8 e9 e10
theorem lkX5_fault_23 : Cond.fieldLink RX5 23 (TX5 2).1 (TX5 2).2.1 (TX5 2).2.2.1 ∈ wsX5_fault := by decide +kernel
theorem lkX5_fault_27 : Cond.fieldLink RX5 27 (TX5 3).1 (TX5 3).2.1 (TX5 3).2.2.1 ∈ wsX5_fault := by decide +kernel
theorem lkX5_fault_41 : Cond.fieldLink RX5 41 (TX5 5).1 (TX5 5).2.1 (TX5 5).2.2.1 ∈ wsX5_fault := by decide +kernel
theorem inX5_fault_5 : ∀ q ∈ u_ws RX5 TX5 6, q ∈ wsX5_fault := by decide +kernel
set_option maxHeartbeats 4000000 in
set_option maxRecDepth 100000 in
theorem t_B_X5_fault_69  {Q : Int32 → Int32 → Int32 → Int32 → Int32 → Int32 → Int32 → Int32 → Int32 → Int32 → Int32 → Int32 → Prop} (C : CxX p s m args c D (tysX cA) RX5 cX5_fault 2 wsX5_fault) (hrt9 : meth.sig.returnType = (some .int)) (hlk : meth.locks = false) (s0 : Int32) (e0 : Int32) (e1 : Int32) (e2 : Int32) (e3 : Int32) (e4 : Int32) (e5 : Int32) (e6 : Int32) (e7 : Int32) (e8 : Int32) (e9 : Int32) (e10 : Int32)  (h : B_X5_fault_69  Q tl tx s0 e0 e1 e2 e3 e4 e5 e6 e7 e8 e9 e10) : GoX p l e rmX5_fault s m args below meth c D A 2 0 0 (QP_X5_fault D A ad cA tl tx mn sd fr hd nw kp pt hr lr Q below args s) 69 [] [.int s0] (WX ad cA tl tx mn sd e0 e1 e2 e3 e4 e5 e6 e7 e8 e9 e10 fr hd nw kp pt hr lr) := by
  replace h : (Q s0 e0 e1 e2 e3 e4 e5 e6 e7 e8 e9 e10) := h
  exact g_iret C hrt9 hlk (u := (e0, e1, e2, e3, e4, e5, e6, e7, e8, e9, e10)) rfl h dX5_fault_69
set_option maxHeartbeats 4000000 in
set_option maxRecDepth 100000 in
theorem t_B_X5_fault_50  {Q : Int32 → Int32 → Int32 → Int32 → Int32 → Int32 → Int32 → Int32 → Int32 → Int32 → Int32 → Int32 → Prop} (C : CxX p s m args c D (tysX cA) RX5 cX5_fault 2 wsX5_fault) (hrt9 : meth.sig.returnType = (some .int)) (hlk : meth.locks = false)  (e0 : Int32) (e1 : Int32) (e2 : Int32) (e3 : Int32) (e4 : Int32) (e5 : Int32) (e6 : Int32) (e7 : Int32) (e8 : Int32) (e9 : Int32) (e10 : Int32)  (h : B_X5_fault_50  Q tl tx e0 e1 e2 e3 e4 e5 e6 e7 e8 e9 e10) : GoX p l e rmX5_fault s m args below meth c D A 2 0 0 (QP_X5_fault D A ad cA tl tx mn sd fr hd nw kp pt hr lr Q below args s) 50 [(0, .ref (ad 0))] [] (WX ad cA tl tx mn sd e0 e1 e2 e3 e4 e5 e6 e7 e8 e9 e10 fr hd nw kp pt hr lr) := by
  replace h : (F_X0_isComplete e3 (fun r_1 => ((r_1 = 0 → (B_X5_fault_69  Q tl tx tl e0 e1 e2 e3 e4 e5 e6 e7 e8 e9 e10)) ∧ (¬ r_1 = 0 → (B_X5_fault_69  Q tl tx (-5 : Int32) e0 e1 e2 e3 e4 e5 e6 e7 e8 e9 e10))))) := h
  refine g_aload_n C 0 dX5_fault_50 rfl rfl ?_
  refine g_get C inX5_fault_5 0 WXg0 rfl 5 (by decide) lkX5_fault_41 rfl dX5_fault_51 ?_
  refine k_X0_isComplete C gX5_fault_X0_isComplete ⟨Nat.le_of_ble_eq_true rfl, Nat.le_of_ble_eq_true rfl⟩ ⟨Nat.zero_le _, Nat.zero_le _⟩ (Nat.le_of_ble_eq_true rfl) dX5_fault_54  h (fun r_1 h => ?_)
  refine g_if_eq C 65 dX5_fault_57 (by decide) (fun c_2 => ?_) (fun c_2 => ?_)
  · replace h := h.1 c_2
    refine g_aload_n C 0 dX5_fault_65 rfl rfl ?_
    refine g_get C inX5_fault_5 0 WXg0 rfl 3 (by decide) lkX5_fault_27 rfl dX5_fault_66 ?_
    exact g_sub [] rfl (t_B_X5_fault_69 C hrt9 hlk  tl e0 e1 e2 e3 e4 e5 e6 e7 e8 e9 e10  h)
  · replace h := h.2 c_2
    refine g_bipush C (-5 : Int32) dX5_fault_60 (by decide) ?_
    refine g_goto C 69 dX5_fault_62 (by decide) ?_
    exact g_sub [] rfl (t_B_X5_fault_69 C hrt9 hlk  (-5 : Int32) e0 e1 e2 e3 e4 e5 e6 e7 e8 e9 e10  h)
set_option maxHeartbeats 4000000 in
set_option maxRecDepth 100000 in
theorem t_L_X5_fault_12  {Q : Int32 → Int32 → Int32 → Int32 → Int32 → Int32 → Int32 → Int32 → Int32 → Int32 → Int32 → Int32 → Prop} (C : CxX p s m args c D (tysX cA) RX5 cX5_fault 2 wsX5_fault) (hrt9 : meth.sig.returnType = (some .int)) (hlk : meth.locks = false) (m9 : Nat) : ∀ (v1 : Int32) (e0 : Int32) (e1 : Int32) (e2 : Int32) (e3 : Int32) (e4 : Int32) (e5 : Int32) (e6 : Int32) (e7 : Int32) (e8 : Int32) (e9 : Int32) (e10 : Int32) , L_X5_fault_12  Q tl tx m9 v1 e0 e1 e2 e3 e4 e5 e6 e7 e8 e9 e10 → GoX p l e rmX5_fault s m args below meth c D A 2 0 0 (QP_X5_fault D A ad cA tl tx mn sd fr hd nw kp pt hr lr Q below args s) 12 [(0, .ref (ad 0)), (1, .int v1)] [] (WX ad cA tl tx mn sd e0 e1 e2 e3 e4 e5 e6 e7 e8 e9 e10 fr hd nw kp pt hr lr) := by
  induction m9 with
  | zero =>
    intro v1 e0 e1 e2 e3 e4 e5 e6 e7 e8 e9 e10 h
    exact False.elim h
  | succ m9 Hk12 =>
    intro v1 e0 e1 e2 e3 e4 e5 e6 e7 e8 e9 e10 h
    replace h : ((tl ≤ v1 → (B_X5_fault_50  Q tl tx e0 e1 e2 e3 e4 e5 e6 e7 e8 e9 e10)) ∧ (¬ tl ≤ v1 → (((20 : Int32) ≤ v1 → (B_X5_fault_50  Q tl tx e0 e1 e2 e3 e4 e5 e6 e7 e8 e9 e10)) ∧ (¬ (20 : Int32) ≤ v1 → (vp_in v1 20 ∧ (F_X0_take (tx v1.toNatClampNeg) e0 e2 e3 e4 e5 e6 e7 e8 e9 e10 (fun r_5 e3_6 e4_7 e5_8 e6_9 e7_10 e8_11 e9_12 e10_13 => ((r_5 = 0 → (Q v1 e0 e1 e2 e3_6 e4_7 e5_8 e6_9 e7_10 e8_11 e9_12 e10_13)) ∧ (¬ r_5 = 0 → ((L_X5_fault_12  Q tl tx m9) (v1 + (1 : Int32)) e0 e1 e2 e3_6 e4_7 e5_8 e6_9 e7_10 e8_11 e9_12 e10_13)))))))))) := h
    refine g_iload_n C 1 dX5_fault_12 rfl rfl ?_
    refine g_aload_n C 0 dX5_fault_13 rfl rfl ?_
    refine g_get C inX5_fault_5 0 WXg0 rfl 3 (by decide) lkX5_fault_27 rfl dX5_fault_14 ?_
    refine g_icmp_ge C 50 dX5_fault_17 (by decide) (fun c_3 => ?_) (fun c_3 => ?_)
    · replace h := h.1 c_3
      exact g_sub [0] rfl (t_B_X5_fault_50 C hrt9 hlk  e0 e1 e2 e3 e4 e5 e6 e7 e8 e9 e10  h)
    · replace h := h.2 c_3
      refine g_iload_n C 1 dX5_fault_20 rfl rfl ?_
      refine g_bipush C (20 : Int32) dX5_fault_21 (by decide) ?_
      refine g_icmp_ge C 50 dX5_fault_23 (by decide) (fun c_4 => ?_) (fun c_4 => ?_)
      · replace h := h.1 c_4
        exact g_sub [0] rfl (t_B_X5_fault_50 C hrt9 hlk  e0 e1 e2 e3 e4 e5 e6 e7 e8 e9 e10  h)
      · replace h := h.2 c_4
        refine g_aload_n C 0 dX5_fault_26 rfl rfl ?_
        refine g_get C inX5_fault_5 0 WXg0 rfl 5 (by decide) lkX5_fault_41 rfl dX5_fault_27 ?_
        refine g_aload_n C 0 dX5_fault_30 rfl rfl ?_
        refine g_get C inX5_fault_5 0 WXg0 rfl 2 (by decide) lkX5_fault_23 rfl dX5_fault_31 ?_
        refine g_iload_n C 1 dX5_fault_34 rfl rfl ?_
        refine g_cald C 1 0 WXg1 rfl h.1 dX5_fault_35 ?_
        replace h := h.2
        refine k_X0_take C gX5_fault_X0_take ⟨Nat.le_of_ble_eq_true rfl, Nat.le_of_ble_eq_true rfl⟩ ⟨Nat.zero_le _, Nat.zero_le _⟩ (Nat.le_of_ble_eq_true rfl) dX5_fault_36  h (fun r_5 e3_6 e4_7 e5_8 e6_9 e7_10 e8_11 e9_12 e10_13 h => ?_)
        refine g_if_ne C 44 dX5_fault_39 (by decide) (fun c_14 => ?_) (fun c_14 => ?_)
        · replace h := h.2 c_14
          refine g_iinc C (v := (v1 + (1 : Int32))) (lv2 := [(1, .int (v1 + (1 : Int32))), (0, .ref (ad 0))]) 1 dX5_fault_44 rfl rfl (by decide) rfl ?_
          refine g_goto C 12 dX5_fault_47 (by decide) ?_
          exact g_sub [1, 0] rfl (Hk12 (v1 + (1 : Int32)) e0 e1 e2 e3_6 e4_7 e5_8 e6_9 e7_10 e8_11 e9_12 e10_13  h)
        · replace h := h.1 c_14
          refine g_iload_n C 1 dX5_fault_42 rfl rfl ?_
          exact g_iret C hrt9 hlk (u := (e0, e1, e2, e3_6, e4_7, e5_8, e6_9, e7_10, e8_11, e9_12, e10_13)) rfl h dX5_fault_43
set_option maxHeartbeats 4000000 in
set_option maxRecDepth 100000 in
theorem t_B_X5_fault_0  {Q : Int32 → Int32 → Int32 → Int32 → Int32 → Int32 → Int32 → Int32 → Int32 → Int32 → Int32 → Int32 → Prop} (C : CxX p s m args c D (tysX cA) RX5 cX5_fault 2 wsX5_fault) (hrt9 : meth.sig.returnType = (some .int)) (hlk : meth.locks = false)  (e0 : Int32) (e1 : Int32) (e2 : Int32) (e3 : Int32) (e4 : Int32) (e5 : Int32) (e6 : Int32) (e7 : Int32) (e8 : Int32) (e9 : Int32) (e10 : Int32)  (h : B_X5_fault_0  Q tl tx e0 e1 e2 e3 e4 e5 e6 e7 e8 e9 e10) : GoX p l e rmX5_fault s m args below meth c D A 2 0 0 (QP_X5_fault D A ad cA tl tx mn sd fr hd nw kp pt hr lr Q below args s) 0 [(0, .ref (ad 0))] [] (WX ad cA tl tx mn sd e0 e1 e2 e3 e4 e5 e6 e7 e8 e9 e10 fr hd nw kp pt hr lr) := by
  replace h : (F_X0_listen (1 : Int32) (1 : Int32) (1 : Int32) e0 e1 e2 e3 e4 e5 e6 e7 e8 e9 e10 (fun e0_15 e1_16 e2_17 e3_18 e4_19 e5_20 e6_21 e7_22 e8_23 e9_24 e10_25 => (∃ n9 : Nat, L_X5_fault_12  Q tl tx n9 (0 : Int32) e0_15 e1_16 e2_17 e3_18 e4_19 e5_20 e6_21 e7_22 e8_23 e9_24 e10_25))) := h
  refine g_aload_n C 0 dX5_fault_0 rfl rfl ?_
  refine g_get C inX5_fault_5 0 WXg0 rfl 5 (by decide) lkX5_fault_41 rfl dX5_fault_1 ?_
  refine g_iconst C (1 : Int32) dX5_fault_4 (by decide) ?_
  refine g_iconst C (1 : Int32) dX5_fault_5 (by decide) ?_
  refine g_iconst C (1 : Int32) dX5_fault_6 (by decide) ?_
  refine k_X0_listen C gX5_fault_X0_listen ⟨Nat.le_of_ble_eq_true rfl, Nat.le_of_ble_eq_true rfl⟩ ⟨Nat.zero_le _, Nat.zero_le _⟩ (Nat.le_of_ble_eq_true rfl) dX5_fault_7  h (fun e0_15 e1_16 e2_17 e3_18 e4_19 e5_20 e6_21 e7_22 e8_23 e9_24 e10_25 h => ?_)
  refine g_iconst C (0 : Int32) dX5_fault_10 (by decide) ?_
  refine g_istore_n C (lv2 := [(1, .int (0 : Int32)), (0, .ref (ad 0))]) dX5_fault_11 rfl (by decide) rfl ?_
  obtain ⟨n9, h⟩ := h
  exact g_sub [1, 0] rfl (t_L_X5_fault_12 C hrt9 hlk  n9 (0 : Int32) e0_15 e1_16 e2_17 e3_18 e4_19 e5_20 e6_21 e7_22 e8_23 e9_24 e10_25  h)
theorem c_X5_fault (l : Launch) (D : va_G) (A : Nat → Prop) (ad : Nat → Nat) (cA : Nat → ClassId)  {tl : Int32} {tx : (Nat → Int32)} {mn : Int32} {sd : (Nat → Int64)} {e0 : Int32} {e1 : Int32} {e2 : Int32} {e3 : Int32} {e4 : Int32} {e5 : Int32} {e6 : Int32} {e7 : Int32} {e8 : Int32} {e9 : Int32} {e10 : Int32} {fr : Int32} {hd : Int32} {nw : (Nat → Int32)} {kp : (Nat → Int32)} {pt : (Nat → Int32)} {hr : (Nat → Nat → Int32)} {lr : (Nat → Nat → Int32)}  (Q : Int32 → Int32 → Int32 → Int32 → Int32 → Int32 → Int32 → Int32 → Int32 → Int32 → Int32 → Int32 → Prop) (h : F_X5_fault tl tx e0 e1 e2 e3 e4 e5 e6 e7 e8 e9 e10 Q) : Met l yX5_fault wsX5_fault rmX5_fault (va_Pc [.ref (ad 0)] (OKX D (tysX cA) (WX ad cA tl tx mn sd e0 e1 e2 e3 e4 e5 e6 e7 e8 e9 e10 fr hd nw kp pt hr lr) A)) (QC_X5_fault D A ad cA tl tx mn sd fr hd nw kp pt hr lr Q) 0 0 A :=
  g_met (own := RX5) (by decide) rfl rfl (Nat.le_of_ble_eq_true rfl) (fun p e s m below meth c C hrt9 hlk _ => g_sub [0] rfl (t_B_X5_fault_0 C hrt9 hlk  e0 e1 e2 e3 e4 e5 e6 e7 e8 e9 e10  h))
theorem k_X5_fault {ws : List Cond} {own : String} {cc : ByteArray} {nL pc index kc ks : Nat} {lv : List (Nat × Value)} {st : List Value} {Q : State → Prop} {R : Room} {K : Int32 → Int32 → Int32 → Int32 → Int32 → Int32 → Int32 → Int32 → Int32 → Int32 → Int32 → Int32 → Prop}  (C : CxX p s m args c D (tysX cA) own cc nL ws) (hT : GoodIn ws (wsV own index RX5 yX5_fault wsX5_fault)) (hR : rmX5_fault.frames + 1 ≤ R.frames ∧ 8 + (2 + 11) + rmX5_fault.locals ≤ R.locals) (hk9 : kc ≤ R.cells ∧ ks ≤ R.slots) (hcat : (st.map fun v => v.category).sum ≤ 8) (hdg : decode cc pc = .ok (.invokevirtual index, 3))  (h : F_X5_fault tl tx e0 e1 e2 e3 e4 e5 e6 e7 e8 e9 e10 K) (kk : ∀ (r : Int32) (e0q : Int32) (e1q : Int32) (e2q : Int32) (e3q : Int32) (e4q : Int32) (e5q : Int32) (e6q : Int32) (e7q : Int32) (e8q : Int32) (e9q : Int32) (e10q : Int32), K r e0q e1q e2q e3q e4q e5q e6q e7q e8q e9q e10q → GoX p l e R s m args below meth c D A nL kc ks Q (pc + 3) lv (.int r :: st) (WX ad cA tl tx mn sd e0q e1q e2q e3q e4q e5q e6q e7q e8q e9q e10q fr hd nw kp pt hr lr)) : GoX p l e R s m args below meth c D A nL kc ks Q pc lv (.ref (ad 0) :: st) (WX ad cA tl tx mn sd e0 e1 e2 e3 e4 e5 e6 e7 e8 e9 e10 fr hd nw kp pt hr lr) :=
  g_callVi C (As := []) 0 (c_X5_fault l D A ad cA   K h) hT rfl rfl rfl (by decide +kernel) hR hk9 0 WXg0 rfl rfl rfl hcat hdg (fun r u hu => kk r u.1 u.2.1 u.2.2.1 u.2.2.2.1 u.2.2.2.2.1 u.2.2.2.2.2.1 u.2.2.2.2.2.2.1 u.2.2.2.2.2.2.2.1 u.2.2.2.2.2.2.2.2.1 u.2.2.2.2.2.2.2.2.2.1 u.2.2.2.2.2.2.2.2.2.2 hu)
