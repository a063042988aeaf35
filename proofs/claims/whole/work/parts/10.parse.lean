variable {p : Program} {l : Launch} {e : Env} {s : State} {m : MethodId} {args : Array Value} {below : List Frame} {meth : Method} {c : Code} {D : va_G} {A : Nat → Prop} {ad : Nat → Nat} {cA : Nat → ClassId}
variable {ms : (Nat → Int32)} {mb : (Nat → Int32)} {my : (Nat → Int32)} {mt : (Nat → Int32)} {mw : (Nat → Int32)} {ml : (Nat → Int32)} {mo : (Nat → Int32)} {gm : Int32} {gs : Int32} {ga : Int32} {gg : Int32} {gb : Int32} {gu : Int32} {gh : Int32} {gk : Int32} {gl : Int32} {gn : Int32} {gt : Int32}
/-! X6_in -/
abbrev rmX6_in : Room := { frames := 0, cells := 0, slots := 0, locals := 0 }
abbrev QC_X6_in (D : va_G) (A : Nat → Prop) (ad : Nat → Nat) (cA : Nat → ClassId) (ms : (Nat → Int32)) (mb : (Nat → Int32)) (my : (Nat → Int32)) (mt : (Nat → Int32)) (mw : (Nat → Int32)) (ml : (Nat → Int32)) (mo : (Nat → Int32)) (gm : Int32) (gs : Int32) (ga : Int32) (gg : Int32) (gb : Int32) (gu : Int32) (gh : Int32) (gk : Int32) (gl : Int32) (gn : Int32) (gt : Int32) (Q : Int32 → Prop) : Array Value → State → Outcome → State → Prop := va_Qi (fun (r : Int32) (u : Unit) => Q r ) (fun u t => OKX D (tysX cA) ((fun u : Unit => WM ad cA ms mb my mt mw ml mo gm gs ga gg gb gu gh gk gl gn gt) u) A t) A
abbrev QP_X6_in (D : va_G) (A : Nat → Prop) (ad : Nat → Nat) (cA : Nat → ClassId) (ms : (Nat → Int32)) (mb : (Nat → Int32)) (my : (Nat → Int32)) (mt : (Nat → Int32)) (mw : (Nat → Int32)) (ml : (Nat → Int32)) (mo : (Nat → Int32)) (gm : Int32) (gs : Int32) (ga : Int32) (gg : Int32) (gb : Int32) (gu : Int32) (gh : Int32) (gk : Int32) (gl : Int32) (gn : Int32) (gt : Int32) (Q : Int32 → Prop) (below : List Frame) (args : Array Value) (s : State) : State → Prop := MQ below (QC_X6_in D A ad cA ms mb my mt mw ml mo gm gs ga gg gb gu gh gk gl gn gt Q) args s 0 0 A
def B_X6_in_15  (Q : Int32 → Prop)  (s0 : Int32)  : Prop := (isBo s0 ∧ (Q s0))
def B_X6_in_14  (Q : Int32 → Prop)    : Prop := (B_X6_in_15  Q  (0 : Int32))
def B_X6_in_0  (Q : Int32 → Prop)  (v0 : Int32) (v1 : Int32) (v2 : Int32)  : Prop := ((v0 < v1 → (B_X6_in_14  Q  )) ∧ (¬ v0 < v1 → ((v2 < v0 → (B_X6_in_14  Q  )) ∧ (¬ v2 < v0 → (B_X6_in_15  Q  (1 : Int32))))))
def F_X6_in (v0 : Int32) (v1 : Int32) (v2 : Int32)   (Q : Int32 → Prop) : Prop := B_X6_in_0 Q  v0 v1 v2 
set_option maxHeartbeats 4000000 in
set_option maxRecDepth 100000 in
theorem t_B_X6_in_15  {Q : Int32 → Prop} (C : CxX p s m args c D (tysX cA) RX6 cX6_in 3 wsX6_in) (hrt9 : meth.sig.returnType = (some .boolean)) (hlk : meth.locks = false) (s0 : Int32)   (h : B_X6_in_15  Q  s0) : GoX p l e rmX6_in s m args below meth c D A 3 0 0 (QP_X6_in D A ad cA ms mb my mt mw ml mo gm gs ga gg gb gu gh gk gl gn gt Q below args s) 15 [] [.int s0] (WM ad cA ms mb my mt mw ml mo gm gs ga gg gb gu gh gk gl gn gt) := by
  replace h : (isBo s0 ∧ (Q s0)) := h
  exact g_zret C hrt9 hlk h.1.n (u := ()) rfl h.2 dX6_in_15
set_option maxHeartbeats 4000000 in
set_option maxRecDepth 100000 in
theorem t_B_X6_in_14  {Q : Int32 → Prop} (C : CxX p s m args c D (tysX cA) RX6 cX6_in 3 wsX6_in) (hrt9 : meth.sig.returnType = (some .boolean)) (hlk : meth.locks = false)    (h : B_X6_in_14  Q  ) : GoX p l e rmX6_in s m args below meth c D A 3 0 0 (QP_X6_in D A ad cA ms mb my mt mw ml mo gm gs ga gg gb gu gh gk gl gn gt Q below args s) 14 [] [] (WM ad cA ms mb my mt mw ml mo gm gs ga gg gb gu gh gk gl gn gt) := by
  replace h : (B_X6_in_15  Q  (0 : Int32)) := h
  refine g_iconst C (0 : Int32) dX6_in_14 (by decide) ?_
  exact g_sub [] rfl (t_B_X6_in_15 C hrt9 hlk  (0 : Int32)  h)
set_option maxHeartbeats 4000000 in
set_option maxRecDepth 100000 in
theorem t_B_X6_in_0  {Q : Int32 → Prop} (C : CxX p s m args c D (tysX cA) RX6 cX6_in 3 wsX6_in) (hrt9 : meth.sig.returnType = (some .boolean)) (hlk : meth.locks = false) (v0 : Int32) (v1 : Int32) (v2 : Int32)   (h : B_X6_in_0  Q  v0 v1 v2) : GoX p l e rmX6_in s m args below meth c D A 3 0 0 (QP_X6_in D A ad cA ms mb my mt mw ml mo gm gs ga gg gb gu gh gk gl gn gt Q below args s) 0 [(0, .int v0), (1, .int v1), (2, .int v2)] [] (WM ad cA ms mb my mt mw ml mo gm gs ga gg gb gu gh gk gl gn gt) := by
  replace h : ((v0 < v1 → (B_X6_in_14  Q  )) ∧ (¬ v0 < v1 → ((v2 < v0 → (B_X6_in_14  Q  )) ∧ (¬ v2 < v0 → (B_X6_in_15  Q  (1 : Int32)))))) := h
  refine g_iload_n C 0 dX6_in_0 rfl rfl ?_
  refine g_iload_n C 1 dX6_in_1 rfl rfl ?_
  refine g_icmp_lt C 14 dX6_in_2 (by decide) (fun c_1 => ?_) (fun c_1 => ?_)
  · replace h := h.1 c_1
    exact g_sub [] rfl (t_B_X6_in_14 C hrt9 hlk    h)
  · replace h := h.2 c_1
    refine g_iload_n C 0 dX6_in_5 rfl rfl ?_
    refine g_iload_n C 2 dX6_in_6 rfl rfl ?_
    refine g_icmp_gt C 14 dX6_in_7 (by decide) (fun c_2 => ?_) (fun c_2 => ?_)
    · replace h := h.1 c_2
      exact g_sub [] rfl (t_B_X6_in_14 C hrt9 hlk    h)
    · replace h := h.2 c_2
      refine g_iconst C (1 : Int32) dX6_in_10 (by decide) ?_
      refine g_goto C 15 dX6_in_11 (by decide) ?_
      exact g_sub [] rfl (t_B_X6_in_15 C hrt9 hlk  (1 : Int32)  h)
theorem c_X6_in (l : Launch) (D : va_G) (A : Nat → Prop) (ad : Nat → Nat) (cA : Nat → ClassId) (v0 : Int32) (v1 : Int32) (v2 : Int32) {ms : (Nat → Int32)} {mb : (Nat → Int32)} {my : (Nat → Int32)} {mt : (Nat → Int32)} {mw : (Nat → Int32)} {ml : (Nat → Int32)} {mo : (Nat → Int32)} {gm : Int32} {gs : Int32} {ga : Int32} {gg : Int32} {gb : Int32} {gu : Int32} {gh : Int32} {gk : Int32} {gl : Int32} {gn : Int32} {gt : Int32}  (Q : Int32 → Prop) (h : F_X6_in v0 v1 v2 Q) : Met l yX6_in wsX6_in rmX6_in (va_Pc [.int v0, .int v1, .int v2] (OKX D (tysX cA) (WM ad cA ms mb my mt mw ml mo gm gs ga gg gb gu gh gk gl gn gt) A)) (QC_X6_in D A ad cA ms mb my mt mw ml mo gm gs ga gg gb gu gh gk gl gn gt Q) 0 0 A :=
  g_met (own := RX6) (by decide) rfl rfl (Nat.le_of_ble_eq_true rfl) (fun p e s m below meth c C hrt9 hlk _ => g_sub [0, 1, 2] rfl (t_B_X6_in_0 C hrt9 hlk v0 v1 v2   h))
theorem k_X6_in {ws : List Cond} {own : String} {cc : ByteArray} {nL pc index : Nat} {lv : List (Nat × Value)} {st : List Value} {Q : State → Prop} {R : Room} {K : Int32 → Prop} {v0 : Int32} {v1 : Int32} {v2 : Int32} (C : CxX p s m args c D (tysX cA) own cc nL ws) (hT : GoodIn ws (va_wsS own index yX6_in wsX6_in)) (hR : rmX6_in.frames + 1 ≤ R.frames ∧ 8 + (3 + 11) + rmX6_in.locals ≤ R.locals) (hcat : (st.map fun v => v.category).sum ≤ 8) (hdg : decode cc pc = .ok (.invokestatic index, 3))  (h : F_X6_in v0 v1 v2 K) (kk : ∀ (r : Int32) , K r → GoX p l e R s m args below meth c D A nL 0 0 Q (pc + 3) lv (.int r :: st) (WM ad cA ms mb my mt mw ml mo gm gs ga gg gb gu gh gk gl gn gt)) : GoX p l e R s m args below meth c D A nL 0 0 Q pc lv (.int v2 :: .int v1 :: .int v0 :: st) (WM ad cA ms mb my mt mw ml mo gm gs ga gg gb gu gh gk gl gn gt) :=
  g_callSi C (As := [.int v0, .int v1, .int v2]) 3 (c_X6_in l D A ad cA v0 v1 v2  K h) hT rfl rfl rfl (by decide +kernel) hR rfl rfl hcat hdg (fun r u hu => kk r  hu)
/-! X6_isHearer -/
abbrev rmX6_isHearer : Room := { frames := 1, cells := 0, slots := 0, locals := 22 }
abbrev QC_X6_isHearer (D : va_G) (A : Nat → Prop) (ad : Nat → Nat) (cA : Nat → ClassId) (ms : (Nat → Int32)) (mb : (Nat → Int32)) (my : (Nat → Int32)) (mt : (Nat → Int32)) (mw : (Nat → Int32)) (ml : (Nat → Int32)) (mo : (Nat → Int32)) (gm : Int32) (gs : Int32) (ga : Int32) (gg : Int32) (gb : Int32) (gu : Int32) (gh : Int32) (gk : Int32) (gl : Int32) (gn : Int32) (gt : Int32) (Q : Int32 → Prop) : Array Value → State → Outcome → State → Prop := va_Qi (fun (r : Int32) (u : Unit) => Q r ) (fun u t => OKX D (tysX cA) ((fun u : Unit => WM ad cA ms mb my mt mw ml mo gm gs ga gg gb gu gh gk gl gn gt) u) A t) A
abbrev QP_X6_isHearer (D : va_G) (A : Nat → Prop) (ad : Nat → Nat) (cA : Nat → ClassId) (ms : (Nat → Int32)) (mb : (Nat → Int32)) (my : (Nat → Int32)) (mt : (Nat → Int32)) (mw : (Nat → Int32)) (ml : (Nat → Int32)) (mo : (Nat → Int32)) (gm : Int32) (gs : Int32) (ga : Int32) (gg : Int32) (gb : Int32) (gu : Int32) (gh : Int32) (gk : Int32) (gl : Int32) (gn : Int32) (gt : Int32) (Q : Int32 → Prop) (below : List Frame) (args : Array Value) (s : State) : State → Prop := MQ below (QC_X6_isHearer D A ad cA ms mb my mt mw ml mo gm gs ga gg gb gu gh gk gl gn gt Q) args s 0 0 A
def B_X6_isHearer_0  (Q : Int32 → Prop)  (v0 : Int32)  : Prop := (F_X6_in v0 (0 : Int32) (5 : Int32) (fun r_1 => (isBo r_1 ∧ (Q r_1))))
def F_X6_isHearer (v0 : Int32)   (Q : Int32 → Prop) : Prop := B_X6_isHearer_0 Q  v0 
set_option maxHeartbeats 4000000 in
set_option maxRecDepth 100000 in
theorem t_B_X6_isHearer_0  {Q : Int32 → Prop} (C : CxX p s m args c D (tysX cA) RX6 cX6_isHearer 1 wsX6_isHearer) (hrt9 : meth.sig.returnType = (some .boolean)) (hlk : meth.locks = false) (v0 : Int32)   (h : B_X6_isHearer_0  Q  v0) : GoX p l e rmX6_isHearer s m args below meth c D A 1 0 0 (QP_X6_isHearer D A ad cA ms mb my mt mw ml mo gm gs ga gg gb gu gh gk gl gn gt Q below args s) 0 [(0, .int v0)] [] (WM ad cA ms mb my mt mw ml mo gm gs ga gg gb gu gh gk gl gn gt) := by
  replace h : (F_X6_in v0 (0 : Int32) (5 : Int32) (fun r_1 => (isBo r_1 ∧ (Q r_1)))) := h
  refine g_iload_n C 0 dX6_isHearer_0 rfl rfl ?_
  refine g_iconst C (0 : Int32) dX6_isHearer_1 (by decide) ?_
  refine g_iconst C (5 : Int32) dX6_isHearer_2 (by decide) ?_
  refine k_X6_in C gX6_isHearer_X6_in ⟨Nat.le_of_ble_eq_true rfl, Nat.le_of_ble_eq_true rfl⟩ (Nat.le_of_ble_eq_true rfl) dX6_isHearer_3  h (fun r_1 h => ?_)
  exact g_zret C hrt9 hlk h.1.n (u := ()) rfl h.2 dX6_isHearer_6
theorem c_X6_isHearer (l : Launch) (D : va_G) (A : Nat → Prop) (ad : Nat → Nat) (cA : Nat → ClassId) (v0 : Int32) {ms : (Nat → Int32)} {mb : (Nat → Int32)} {my : (Nat → Int32)} {mt : (Nat → Int32)} {mw : (Nat → Int32)} {ml : (Nat → Int32)} {mo : (Nat → Int32)} {gm : Int32} {gs : Int32} {ga : Int32} {gg : Int32} {gb : Int32} {gu : Int32} {gh : Int32} {gk : Int32} {gl : Int32} {gn : Int32} {gt : Int32}  (Q : Int32 → Prop) (h : F_X6_isHearer v0 Q) : Met l yX6_isHearer wsX6_isHearer rmX6_isHearer (va_Pc [.int v0] (OKX D (tysX cA) (WM ad cA ms mb my mt mw ml mo gm gs ga gg gb gu gh gk gl gn gt) A)) (QC_X6_isHearer D A ad cA ms mb my mt mw ml mo gm gs ga gg gb gu gh gk gl gn gt Q) 0 0 A :=
  g_met (own := RX6) (by decide) rfl rfl (Nat.le_of_ble_eq_true rfl) (fun p e s m below meth c C hrt9 hlk _ => g_sub [0] rfl (t_B_X6_isHearer_0 C hrt9 hlk v0   h))
theorem k_X6_isHearer {ws : List Cond} {own : String} {cc : ByteArray} {nL pc index : Nat} {lv : List (Nat × Value)} {st : List Value} {Q : State → Prop} {R : Room} {K : Int32 → Prop} {v0 : Int32} (C : CxX p s m args c D (tysX cA) own cc nL ws) (hT : GoodIn ws (va_wsS own index yX6_isHearer wsX6_isHearer)) (hR : rmX6_isHearer.frames + 1 ≤ R.frames ∧ 8 + (1 + 11) + rmX6_isHearer.locals ≤ R.locals) (hcat : (st.map fun v => v.category).sum ≤ 8) (hdg : decode cc pc = .ok (.invokestatic index, 3))  (h : F_X6_isHearer v0 K) (kk : ∀ (r : Int32) , K r → GoX p l e R s m args below meth c D A nL 0 0 Q (pc + 3) lv (.int r :: st) (WM ad cA ms mb my mt mw ml mo gm gs ga gg gb gu gh gk gl gn gt)) : GoX p l e R s m args below meth c D A nL 0 0 Q pc lv (.int v0 :: st) (WM ad cA ms mb my mt mw ml mo gm gs ga gg gb gu gh gk gl gn gt) :=
  g_callSi C (As := [.int v0]) 1 (c_X6_isHearer l D A ad cA v0  K h) hT rfl rfl rfl (by decide +kernel) hR rfl rfl hcat hdg (fun r u hu => kk r  hu)
/-! X6_isNumber -/
abbrev rmX6_isNumber : Room := { frames := 1, cells := 0, slots := 0, locals := 22 }
abbrev QC_X6_isNumber (D : va_G) (A : Nat → Prop) (ad : Nat → Nat) (cA : Nat → ClassId) (ms : (Nat → Int32)) (mb : (Nat → Int32)) (my : (Nat → Int32)) (mt : (Nat → Int32)) (mw : (Nat → Int32)) (ml : (Nat → Int32)) (mo : (Nat → Int32)) (gm : Int32) (gs : Int32) (ga : Int32) (gg : Int32) (gb : Int32) (gu : Int32) (gh : Int32) (gk : Int32) (gl : Int32) (gn : Int32) (gt : Int32) (Q : Int32 → Prop) : Array Value → State → Outcome → State → Prop := va_Qi (fun (r : Int32) (u : Unit) => Q r ) (fun u t => OKX D (tysX cA) ((fun u : Unit => WM ad cA ms mb my mt mw ml mo gm gs ga gg gb gu gh gk gl gn gt) u) A t) A
abbrev QP_X6_isNumber (D : va_G) (A : Nat → Prop) (ad : Nat → Nat) (cA : Nat → ClassId) (ms : (Nat → Int32)) (mb : (Nat → Int32)) (my : (Nat → Int32)) (mt : (Nat → Int32)) (mw : (Nat → Int32)) (ml : (Nat → Int32)) (mo : (Nat → Int32)) (gm : Int32) (gs : Int32) (ga : Int32) (gg : Int32) (gb : Int32) (gu : Int32) (gh : Int32) (gk : Int32) (gl : Int32) (gn : Int32) (gt : Int32) (Q : Int32 → Prop) (below : List Frame) (args : Array Value) (s : State) : State → Prop := MQ below (QC_X6_isNumber D A ad cA ms mb my mt mw ml mo gm gs ga gg gb gu gh gk gl gn gt Q) args s 0 0 A
def B_X6_isNumber_0  (Q : Int32 → Prop)  (v0 : Int32)  : Prop := (F_X6_in v0 (1 : Int32) (7999 : Int32) (fun r_1 => (isBo r_1 ∧ (Q r_1))))
def F_X6_isNumber (v0 : Int32)   (Q : Int32 → Prop) : Prop := B_X6_isNumber_0 Q  v0 
set_option maxHeartbeats 4000000 in
set_option maxRecDepth 100000 in
theorem t_B_X6_isNumber_0  {Q : Int32 → Prop} (C : CxX p s m args c D (tysX cA) RX6 cX6_isNumber 1 wsX6_isNumber) (hrt9 : meth.sig.returnType = (some .boolean)) (hlk : meth.locks = false) (v0 : Int32)   (h : B_X6_isNumber_0  Q  v0) : GoX p l e rmX6_isNumber s m args below meth c D A 1 0 0 (QP_X6_isNumber D A ad cA ms mb my mt mw ml mo gm gs ga gg gb gu gh gk gl gn gt Q below args s) 0 [(0, .int v0)] [] (WM ad cA ms mb my mt mw ml mo gm gs ga gg gb gu gh gk gl gn gt) := by
  replace h : (F_X6_in v0 (1 : Int32) (7999 : Int32) (fun r_1 => (isBo r_1 ∧ (Q r_1)))) := h
  refine g_iload_n C 0 dX6_isNumber_0 rfl rfl ?_
  refine g_iconst C (1 : Int32) dX6_isNumber_1 (by decide) ?_
  refine g_sipush C (7999 : Int32) dX6_isNumber_2 (by decide) ?_
  refine k_X6_in C gX6_isNumber_X6_in ⟨Nat.le_of_ble_eq_true rfl, Nat.le_of_ble_eq_true rfl⟩ (Nat.le_of_ble_eq_true rfl) dX6_isNumber_5  h (fun r_1 h => ?_)
  exact g_zret C hrt9 hlk h.1.n (u := ()) rfl h.2 dX6_isNumber_8
theorem c_X6_isNumber (l : Launch) (D : va_G) (A : Nat → Prop) (ad : Nat → Nat) (cA : Nat → ClassId) (v0 : Int32) {ms : (Nat → Int32)} {mb : (Nat → Int32)} {my : (Nat → Int32)} {mt : (Nat → Int32)} {mw : (Nat → Int32)} {ml : (Nat → Int32)} {mo : (Nat → Int32)} {gm : Int32} {gs : Int32} {ga : Int32} {gg : Int32} {gb : Int32} {gu : Int32} {gh : Int32} {gk : Int32} {gl : Int32} {gn : Int32} {gt : Int32}  (Q : Int32 → Prop) (h : F_X6_isNumber v0 Q) : Met l yX6_isNumber wsX6_isNumber rmX6_isNumber (va_Pc [.int v0] (OKX D (tysX cA) (WM ad cA ms mb my mt mw ml mo gm gs ga gg gb gu gh gk gl gn gt) A)) (QC_X6_isNumber D A ad cA ms mb my mt mw ml mo gm gs ga gg gb gu gh gk gl gn gt Q) 0 0 A :=
  g_met (own := RX6) (by decide) rfl rfl (Nat.le_of_ble_eq_true rfl) (fun p e s m below meth c C hrt9 hlk _ => g_sub [0] rfl (t_B_X6_isNumber_0 C hrt9 hlk v0   h))
theorem k_X6_isNumber {ws : List Cond} {own : String} {cc : ByteArray} {nL pc index : Nat} {lv : List (Nat × Value)} {st : List Value} {Q : State → Prop} {R : Room} {K : Int32 → Prop} {v0 : Int32} (C : CxX p s m args c D (tysX cA) own cc nL ws) (hT : GoodIn ws (va_wsS own index yX6_isNumber wsX6_isNumber)) (hR : rmX6_isNumber.frames + 1 ≤ R.frames ∧ 8 + (1 + 11) + rmX6_isNumber.locals ≤ R.locals) (hcat : (st.map fun v => v.category).sum ≤ 8) (hdg : decode cc pc = .ok (.invokestatic index, 3))  (h : F_X6_isNumber v0 K) (kk : ∀ (r : Int32) , K r → GoX p l e R s m args below meth c D A nL 0 0 Q (pc + 3) lv (.int r :: st) (WM ad cA ms mb my mt mw ml mo gm gs ga gg gb gu gh gk gl gn gt)) : GoX p l e R s m args below meth c D A nL 0 0 Q pc lv (.int v0 :: st) (WM ad cA ms mb my mt mw ml mo gm gs ga gg gb gu gh gk gl gn gt) :=
  g_callSi C (As := [.int v0]) 1 (c_X6_isNumber l D A ad cA v0  K h) hT rfl rfl rfl (by decide +kernel) hR rfl rfl hcat hdg (fun r u hu => kk r  hu)
/-! X6_record -/
abbrev rmX6_record : Room := { frames := 0, cells := 0, slots := 0, locals := 0 }
abbrev QC_X6_record (D : va_G) (A : Nat → Prop) (ad : Nat → Nat) (cA : Nat → ClassId) (ms : (Nat → Int32)) (my : (Nat → Int32)) (mt : (Nat → Int32)) (mw : (Nat → Int32)) (ml : (Nat → Int32)) (mo : (Nat → Int32)) (gm : Int32) (gs : Int32) (ga : Int32) (gg : Int32) (gb : Int32) (gu : Int32) (gh : Int32) (gk : Int32) (gl : Int32) (gn : Int32) (Q : (Nat → Int32) → Int32 → Prop) : Array Value → State → Outcome → State → Prop := va_Qv (fun u : (Nat → Int32) × Int32 => Q u.1 u.2) (fun u t => OKX D (tysX cA) ((fun u : (Nat → Int32) × Int32 => WM ad cA ms u.1 my mt mw ml mo gm gs ga gg gb gu gh gk gl gn u.2) u) A t) A
abbrev QP_X6_record (D : va_G) (A : Nat → Prop) (ad : Nat → Nat) (cA : Nat → ClassId) (ms : (Nat → Int32)) (my : (Nat → Int32)) (mt : (Nat → Int32)) (mw : (Nat → Int32)) (ml : (Nat → Int32)) (mo : (Nat → Int32)) (gm : Int32) (gs : Int32) (ga : Int32) (gg : Int32) (gb : Int32) (gu : Int32) (gh : Int32) (gk : Int32) (gl : Int32) (gn : Int32) (Q : (Nat → Int32) → Int32 → Prop) (below : List Frame) (args : Array Value) (s : State) : State → Prop := MQ below (QC_X6_record D A ad cA ms my mt mw ml mo gm gs ga gg gb gu gh gk gl gn Q) args s 0 0 A
noncomputable def L_X6_record_50  (Q : (Nat → Int32) → Int32 → Prop) (ms : (Nat → Int32)) (n9 : Nat) : Int32 → (Nat → Int32) → Int32 → Prop := Nat.rec (motive := fun _ => Int32 → (Nat → Int32) → Int32 → Prop) (fun _ _ _ => False) (fun _ kh50 => fun v1 mb gt => (((106 : Int32) ≤ v1 → (Q mb (gt + (1 : Int32)))) ∧ (¬ (106 : Int32) ≤ v1 → (vp_in v1 106 ∧ (vp_in (((106 : Int32) * gt) + v1) 424 ∧ (kh50 (v1 + (1 : Int32)) (upd mb (((106 : Int32) * gt) + v1).toNatClampNeg (ms v1.toNatClampNeg)) gt)))))) n9
def B_X6_record_48  (Q : (Nat → Int32) → Int32 → Prop) (ms : (Nat → Int32))  (mb : (Nat → Int32)) (gt : Int32) : Prop := (∃ n9 : Nat, L_X6_record_50  Q ms n9 (0 : Int32) mb gt)
noncomputable def L_X6_record_10  (Q : (Nat → Int32) → Int32 → Prop) (ms : (Nat → Int32)) (n9 : Nat) : Int32 → (Nat → Int32) → Int32 → Prop := Nat.rec (motive := fun _ => Int32 → (Nat → Int32) → Int32 → Prop) (fun _ _ _ => False) (fun _ kh10 => fun v1 mb gt => (((318 : Int32) ≤ v1 → (B_X6_record_48  Q ms mb (gt - (1 : Int32)))) ∧ (¬ (318 : Int32) ≤ v1 → (vp_in ((106 : Int32) + v1) 424 ∧ (vp_in v1 424 ∧ (kh10 (v1 + (1 : Int32)) (upd mb v1.toNatClampNeg (mb ((106 : Int32) + v1).toNatClampNeg)) gt)))))) n9
def B_X6_record_0  (Q : (Nat → Int32) → Int32 → Prop) (ms : (Nat → Int32))  (mb : (Nat → Int32)) (gt : Int32) : Prop := ((gt = (4 : Int32) → (∃ n9 : Nat, L_X6_record_10  Q ms n9 (0 : Int32) mb gt)) ∧ (¬ gt = (4 : Int32) → (B_X6_record_48  Q ms mb gt)))
def F_X6_record  (ms : (Nat → Int32)) (mb : (Nat → Int32)) (gt : Int32) (Q : (Nat → Int32) → Int32 → Prop) : Prop := B_X6_record_0 Q ms  mb gt
theorem lkX6_record_7 : Cond.fieldLink RX6 7 (TX6 0).1 (TX6 0).2.1 (TX6 0).2.2.1 ∈ wsX6_record := by decide +kernel
theorem lkX6_record_13 : Cond.fieldLink RX6 13 (TX6 1).1 (TX6 1).2.1 (TX6 1).2.2.1 ∈ wsX6_record := by decide +kernel
theorem lkX6_record_36 : Cond.fieldLink RX6 36 (TX6 17).1 (TX6 17).2.1 (TX6 17).2.2.1 ∈ wsX6_record := by decide +kernel
theorem inX6_record_6 : ∀ q ∈ u_ws RX6 TX6 18, q ∈ wsX6_record := by decide +kernel
set_option maxHeartbeats 4000000 in
set_option maxRecDepth 100000 in
theorem t_L_X6_record_50  {Q : (Nat → Int32) → Int32 → Prop} (C : CxX p s m args c D (tysX cA) RX6 cX6_record 2 wsX6_record) (hrt9 : meth.sig.returnType = none) (hlk : meth.locks = false) (m9 : Nat) : ∀ (v1 : Int32) (mb : (Nat → Int32)) (gt : Int32) , L_X6_record_50  Q ms m9 v1 mb gt → GoX p l e rmX6_record s m args below meth c D A 2 0 0 (QP_X6_record D A ad cA ms my mt mw ml mo gm gs ga gg gb gu gh gk gl gn Q below args s) 50 [(0, .ref (ad 0)), (1, .int v1)] [] (WM ad cA ms mb my mt mw ml mo gm gs ga gg gb gu gh gk gl gn gt) := by
  induction m9 with
  | zero =>
    intro v1 mb gt h
    exact False.elim h
  | succ m9 Hk50 =>
    intro v1 mb gt h
    replace h : (((106 : Int32) ≤ v1 → (Q mb (gt + (1 : Int32)))) ∧ (¬ (106 : Int32) ≤ v1 → (vp_in v1 106 ∧ (vp_in (((106 : Int32) * gt) + v1) 424 ∧ ((L_X6_record_50  Q ms m9) (v1 + (1 : Int32)) (upd mb (((106 : Int32) * gt) + v1).toNatClampNeg (ms v1.toNatClampNeg)) gt))))) := h
    refine g_iload_n C 1 dX6_record_50 rfl rfl ?_
    refine g_bipush C (106 : Int32) dX6_record_51 (by decide) ?_
    refine g_icmp_ge C 82 dX6_record_53 (by decide) (fun c_1 => ?_) (fun c_1 => ?_)
    · replace h := h.1 c_1
      refine g_aload_n C 0 dX6_record_82 rfl rfl ?_
      refine g_dup C dX6_record_83 rfl ?_
      refine g_get C inX6_record_6 0 WMg0 rfl 17 (by decide) lkX6_record_36 rfl dX6_record_84 ?_
      refine g_iconst C (1 : Int32) dX6_record_87 (by decide) ?_
      refine g_iadd C dX6_record_88 ?_
      refine g_put C inX6_record_6 tyX6 tyX6_ok nmX6 0 WMg0 rfl 17 (by decide) lkX6_record_36 rfl rfl rfl (Nat.le_of_ble_eq_true rfl) (WMs_gt) dX6_record_89 ?_
      exact g_vret C hrt9 hlk (u := (mb, (gt + (1 : Int32)))) rfl h dX6_record_92
    · replace h := h.2 c_1
      refine g_aload_n C 0 dX6_record_56 rfl rfl ?_
      refine g_get C inX6_record_6 0 WMg0 rfl 1 (by decide) lkX6_record_13 rfl dX6_record_57 ?_
      refine g_bipush C (106 : Int32) dX6_record_60 (by decide) ?_
      refine g_aload_n C 0 dX6_record_62 rfl rfl ?_
      refine g_get C inX6_record_6 0 WMg0 rfl 17 (by decide) lkX6_record_36 rfl dX6_record_63 ?_
      refine g_imul C dX6_record_66 ?_
      refine g_iload_n C 1 dX6_record_67 rfl rfl ?_
      refine g_iadd C dX6_record_68 ?_
      refine g_aload_n C 0 dX6_record_69 rfl rfl ?_
      refine g_get C inX6_record_6 0 WMg0 rfl 0 (by decide) lkX6_record_7 rfl dX6_record_70 ?_
      refine g_iload_n C 1 dX6_record_73 rfl rfl ?_
      refine g_iald C 1 1 WMg1 rfl h.1 dX6_record_74 ?_
      replace h := h.2
      refine g_iast C 2 1 WMg2 rfl h.1 WMs_mb dX6_record_75 ?_
      replace h := h.2
      refine g_iinc C (v := (v1 + (1 : Int32))) (lv2 := [(1, .int (v1 + (1 : Int32))), (0, .ref (ad 0))]) 1 dX6_record_76 rfl rfl (by decide) rfl ?_
      refine g_goto C 50 dX6_record_79 (by decide) ?_
      exact g_sub [1, 0] rfl (Hk50 (v1 + (1 : Int32)) (upd mb (((106 : Int32) * gt) + v1).toNatClampNeg (ms v1.toNatClampNeg)) gt  h)
set_option maxHeartbeats 4000000 in
set_option maxRecDepth 100000 in
theorem t_B_X6_record_48  {Q : (Nat → Int32) → Int32 → Prop} (C : CxX p s m args c D (tysX cA) RX6 cX6_record 2 wsX6_record) (hrt9 : meth.sig.returnType = none) (hlk : meth.locks = false)  (mb : (Nat → Int32)) (gt : Int32)  (h : B_X6_record_48  Q ms mb gt) : GoX p l e rmX6_record s m args below meth c D A 2 0 0 (QP_X6_record D A ad cA ms my mt mw ml mo gm gs ga gg gb gu gh gk gl gn Q below args s) 48 [(0, .ref (ad 0))] [] (WM ad cA ms mb my mt mw ml mo gm gs ga gg gb gu gh gk gl gn gt) := by
  replace h : (∃ n9 : Nat, L_X6_record_50  Q ms n9 (0 : Int32) mb gt) := h
  refine g_iconst C (0 : Int32) dX6_record_48 (by decide) ?_
  refine g_istore_n C (lv2 := [(1, .int (0 : Int32)), (0, .ref (ad 0))]) dX6_record_49 rfl (by decide) rfl ?_
  obtain ⟨n9, h⟩ := h
  exact g_sub [1, 0] rfl (t_L_X6_record_50 C hrt9 hlk  n9 (0 : Int32) mb gt  h)
set_option maxHeartbeats 4000000 in
set_option maxRecDepth 100000 in
theorem t_L_X6_record_10  {Q : (Nat → Int32) → Int32 → Prop} (C : CxX p s m args c D (tysX cA) RX6 cX6_record 2 wsX6_record) (hrt9 : meth.sig.returnType = none) (hlk : meth.locks = false) (m9 : Nat) : ∀ (v1 : Int32) (mb : (Nat → Int32)) (gt : Int32) , L_X6_record_10  Q ms m9 v1 mb gt → GoX p l e rmX6_record s m args below meth c D A 2 0 0 (QP_X6_record D A ad cA ms my mt mw ml mo gm gs ga gg gb gu gh gk gl gn Q below args s) 10 [(0, .ref (ad 0)), (1, .int v1)] [] (WM ad cA ms mb my mt mw ml mo gm gs ga gg gb gu gh gk gl gn gt) := by
  induction m9 with
  | zero =>
    intro v1 mb gt h
    exact False.elim h
  | succ m9 Hk10 =>
    intro v1 mb gt h
    replace h : (((318 : Int32) ≤ v1 → (B_X6_record_48  Q ms mb (gt - (1 : Int32)))) ∧ (¬ (318 : Int32) ≤ v1 → (vp_in ((106 : Int32) + v1) 424 ∧ (vp_in v1 424 ∧ ((L_X6_record_10  Q ms m9) (v1 + (1 : Int32)) (upd mb v1.toNatClampNeg (mb ((106 : Int32) + v1).toNatClampNeg)) gt))))) := h
    refine g_iload_n C 1 dX6_record_10 rfl rfl ?_
    refine g_sipush C (318 : Int32) dX6_record_11 (by decide) ?_
    refine g_icmp_ge C 38 dX6_record_14 (by decide) (fun c_2 => ?_) (fun c_2 => ?_)
    · replace h := h.1 c_2
      refine g_aload_n C 0 dX6_record_38 rfl rfl ?_
      refine g_dup C dX6_record_39 rfl ?_
      refine g_get C inX6_record_6 0 WMg0 rfl 17 (by decide) lkX6_record_36 rfl dX6_record_40 ?_
      refine g_iconst C (1 : Int32) dX6_record_43 (by decide) ?_
      refine g_isub C dX6_record_44 ?_
      refine g_put C inX6_record_6 tyX6 tyX6_ok nmX6 0 WMg0 rfl 17 (by decide) lkX6_record_36 rfl rfl rfl (Nat.le_of_ble_eq_true rfl) (WMs_gt) dX6_record_45 ?_
      exact g_sub [0] rfl (t_B_X6_record_48 C hrt9 hlk  mb (gt - (1 : Int32))  h)
    · replace h := h.2 c_2
      refine g_aload_n C 0 dX6_record_17 rfl rfl ?_
      refine g_get C inX6_record_6 0 WMg0 rfl 1 (by decide) lkX6_record_13 rfl dX6_record_18 ?_
      refine g_iload_n C 1 dX6_record_21 rfl rfl ?_
      refine g_aload_n C 0 dX6_record_22 rfl rfl ?_
      refine g_get C inX6_record_6 0 WMg0 rfl 1 (by decide) lkX6_record_13 rfl dX6_record_23 ?_
      refine g_bipush C (106 : Int32) dX6_record_26 (by decide) ?_
      refine g_iload_n C 1 dX6_record_28 rfl rfl ?_
      refine g_iadd C dX6_record_29 ?_
      refine g_iald C 2 1 WMg2 rfl h.1 dX6_record_30 ?_
      replace h := h.2
      refine g_iast C 2 1 WMg2 rfl h.1 WMs_mb dX6_record_31 ?_
      replace h := h.2
      refine g_iinc C (v := (v1 + (1 : Int32))) (lv2 := [(1, .int (v1 + (1 : Int32))), (0, .ref (ad 0))]) 1 dX6_record_32 rfl rfl (by decide) rfl ?_
      refine g_goto C 10 dX6_record_35 (by decide) ?_
      exact g_sub [1, 0] rfl (Hk10 (v1 + (1 : Int32)) (upd mb v1.toNatClampNeg (mb ((106 : Int32) + v1).toNatClampNeg)) gt  h)
set_option maxHeartbeats 4000000 in
set_option maxRecDepth 100000 in
theorem t_B_X6_record_0  {Q : (Nat → Int32) → Int32 → Prop} (C : CxX p s m args c D (tysX cA) RX6 cX6_record 2 wsX6_record) (hrt9 : meth.sig.returnType = none) (hlk : meth.locks = false)  (mb : (Nat → Int32)) (gt : Int32)  (h : B_X6_record_0  Q ms mb gt) : GoX p l e rmX6_record s m args below meth c D A 2 0 0 (QP_X6_record D A ad cA ms my mt mw ml mo gm gs ga gg gb gu gh gk gl gn Q below args s) 0 [(0, .ref (ad 0))] [] (WM ad cA ms mb my mt mw ml mo gm gs ga gg gb gu gh gk gl gn gt) := by
  replace h : ((gt = (4 : Int32) → (∃ n9 : Nat, L_X6_record_10  Q ms n9 (0 : Int32) mb gt)) ∧ (¬ gt = (4 : Int32) → (B_X6_record_48  Q ms mb gt))) := h
  refine g_aload_n C 0 dX6_record_0 rfl rfl ?_
  refine g_get C inX6_record_6 0 WMg0 rfl 17 (by decide) lkX6_record_36 rfl dX6_record_1 ?_
  refine g_iconst C (4 : Int32) dX6_record_4 (by decide) ?_
  refine g_icmp_ne C 48 dX6_record_5 (by decide) (fun c_3 => ?_) (fun c_3 => ?_)
  · replace h := h.2 c_3
    exact g_sub [0] rfl (t_B_X6_record_48 C hrt9 hlk  mb gt  h)
  · replace h := h.1 c_3
    refine g_iconst C (0 : Int32) dX6_record_8 (by decide) ?_
    refine g_istore_n C (lv2 := [(1, .int (0 : Int32)), (0, .ref (ad 0))]) dX6_record_9 rfl (by decide) rfl ?_
    obtain ⟨n9, h⟩ := h
    exact g_sub [1, 0] rfl (t_L_X6_record_10 C hrt9 hlk  n9 (0 : Int32) mb gt  h)
theorem c_X6_record (l : Launch) (D : va_G) (A : Nat → Prop) (ad : Nat → Nat) (cA : Nat → ClassId)  {ms : (Nat → Int32)} {mb : (Nat → Int32)} {my : (Nat → Int32)} {mt : (Nat → Int32)} {mw : (Nat → Int32)} {ml : (Nat → Int32)} {mo : (Nat → Int32)} {gm : Int32} {gs : Int32} {ga : Int32} {gg : Int32} {gb : Int32} {gu : Int32} {gh : Int32} {gk : Int32} {gl : Int32} {gn : Int32} {gt : Int32}  (Q : (Nat → Int32) → Int32 → Prop) (h : F_X6_record ms mb gt Q) : Met l yX6_record wsX6_record rmX6_record (va_Pc [.ref (ad 0)] (OKX D (tysX cA) (WM ad cA ms mb my mt mw ml mo gm gs ga gg gb gu gh gk gl gn gt) A)) (QC_X6_record D A ad cA ms my mt mw ml mo gm gs ga gg gb gu gh gk gl gn Q) 0 0 A :=
  g_met (own := RX6) (by decide) rfl rfl (Nat.le_of_ble_eq_true rfl) (fun p e s m below meth c C hrt9 hlk _ => g_sub [0] rfl (t_B_X6_record_0 C hrt9 hlk  mb gt  h))
theorem k_X6_record {ws : List Cond} {own : String} {cc : ByteArray} {nL pc index : Nat} {lv : List (Nat × Value)} {st : List Value} {Q : State → Prop} {R : Room} {K : (Nat → Int32) → Int32 → Prop}  (C : CxX p s m args c D (tysX cA) own cc nL ws) (hT : GoodIn ws (wsV own index RX6 yX6_record wsX6_record)) (hR : rmX6_record.frames + 1 ≤ R.frames ∧ 8 + (2 + 11) + rmX6_record.locals ≤ R.locals) (hcat : (st.map fun v => v.category).sum ≤ 8) (hdg : decode cc pc = .ok (.invokevirtual index, 3))  (h : F_X6_record ms mb gt K) (kk : ∀ (mbq : (Nat → Int32)) (gtq : Int32), K mbq gtq → GoX p l e R s m args below meth c D A nL 0 0 Q (pc + 3) lv (st) (WM ad cA ms mbq my mt mw ml mo gm gs ga gg gb gu gh gk gl gn gtq)) : GoX p l e R s m args below meth c D A nL 0 0 Q pc lv (.ref (ad 0) :: st) (WM ad cA ms mb my mt mw ml mo gm gs ga gg gb gu gh gk gl gn gt) :=
  g_callVv C (As := []) 0 (c_X6_record l D A ad cA   K h) hT rfl rfl rfl (by decide +kernel) hR 0 WMg0 rfl rfl rfl hcat hdg (fun u hu => kk u.1 u.2 hu)
/-! X6_isSign -/
abbrev rmX6_isSign : Room := { frames := 0, cells := 0, slots := 0, locals := 0 }
abbrev QC_X6_isSign (D : va_G) (A : Nat → Prop) (ad : Nat → Nat) (cA : Nat → ClassId) (ms : (Nat → Int32)) (mb : (Nat → Int32)) (my : (Nat → Int32)) (mt : (Nat → Int32)) (mw : (Nat → Int32)) (ml : (Nat → Int32)) (mo : (Nat → Int32)) (gm : Int32) (gs : Int32) (ga : Int32) (gg : Int32) (gb : Int32) (gu : Int32) (gh : Int32) (gk : Int32) (gl : Int32) (gn : Int32) (gt : Int32) (Q : Int32 → Prop) : Array Value → State → Outcome → State → Prop := va_Qi (fun (r : Int32) (u : Unit) => Q r ) (fun u t => OKX D (tysX cA) ((fun u : Unit => WM ad cA ms mb my mt mw ml mo gm gs ga gg gb gu gh gk gl gn gt) u) A t) A
abbrev QP_X6_isSign (D : va_G) (A : Nat → Prop) (ad : Nat → Nat) (cA : Nat → ClassId) (ms : (Nat → Int32)) (mb : (Nat → Int32)) (my : (Nat → Int32)) (mt : (Nat → Int32)) (mw : (Nat → Int32)) (ml : (Nat → Int32)) (mo : (Nat → Int32)) (gm : Int32) (gs : Int32) (ga : Int32) (gg : Int32) (gb : Int32) (gu : Int32) (gh : Int32) (gk : Int32) (gl : Int32) (gn : Int32) (gt : Int32) (Q : Int32 → Prop) (below : List Frame) (args : Array Value) (s : State) : State → Prop := MQ below (QC_X6_isSign D A ad cA ms mb my mt mw ml mo gm gs ga gg gb gu gh gk gl gn gt Q) args s 0 0 A
def B_X6_isSign_29  (Q : Int32 → Prop) (my : (Nat → Int32)) (gs : Int32) (ga : Int32) (s0 : Int32)  : Prop := (isBo s0 ∧ (Q s0))
def B_X6_isSign_28  (Q : Int32 → Prop) (my : (Nat → Int32)) (gs : Int32) (ga : Int32)   : Prop := (B_X6_isSign_29  Q my gs ga (0 : Int32))
def B_X6_isSign_0  (Q : Int32 → Prop) (my : (Nat → Int32)) (gs : Int32) (ga : Int32) (v1 : Int32)  : Prop := ((gs ≤ ga → (B_X6_isSign_28  Q my gs ga )) ∧ (¬ gs ≤ ga → (vp_in ga 20 ∧ (((my ga.toNatClampNeg) = v1 → (B_X6_isSign_29  Q my gs ga (1 : Int32))) ∧ (¬ (my ga.toNatClampNeg) = v1 → (B_X6_isSign_28  Q my gs ga ))))))
def F_X6_isSign (v1 : Int32) (my : (Nat → Int32)) (gs : Int32) (ga : Int32)  (Q : Int32 → Prop) : Prop := B_X6_isSign_0 Q my gs ga v1 
theorem lkX6_isSign_16 : Cond.fieldLink RX6 16 (TX6 2).1 (TX6 2).2.1 (TX6 2).2.2.1 ∈ wsX6_isSign := by decide +kernel
theorem lkX6_isSign_43 : Cond.fieldLink RX6 43 (TX6 8).1 (TX6 8).2.1 (TX6 8).2.2.1 ∈ wsX6_isSign := by decide +kernel
theorem lkX6_isSign_40 : Cond.fieldLink RX6 40 (TX6 9).1 (TX6 9).2.1 (TX6 9).2.2.1 ∈ wsX6_isSign := by decide +kernel
theorem inX6_isSign_6 : ∀ q ∈ u_ws RX6 TX6 18, q ∈ wsX6_isSign := by decide +kernel
set_option maxHeartbeats 4000000 in
set_option maxRecDepth 100000 in
theorem t_B_X6_isSign_29  {Q : Int32 → Prop} (C : CxX p s m args c D (tysX cA) RX6 cX6_isSign 2 wsX6_isSign) (hrt9 : meth.sig.returnType = (some .boolean)) (hlk : meth.locks = false) (s0 : Int32)   (h : B_X6_isSign_29  Q my gs ga s0) : GoX p l e rmX6_isSign s m args below meth c D A 2 0 0 (QP_X6_isSign D A ad cA ms mb my mt mw ml mo gm gs ga gg gb gu gh gk gl gn gt Q below args s) 29 [] [.int s0] (WM ad cA ms mb my mt mw ml mo gm gs ga gg gb gu gh gk gl gn gt) := by
  replace h : (isBo s0 ∧ (Q s0)) := h
  exact g_zret C hrt9 hlk h.1.n (u := ()) rfl h.2 dX6_isSign_29
set_option maxHeartbeats 4000000 in
set_option maxRecDepth 100000 in
theorem t_B_X6_isSign_28  {Q : Int32 → Prop} (C : CxX p s m args c D (tysX cA) RX6 cX6_isSign 2 wsX6_isSign) (hrt9 : meth.sig.returnType = (some .boolean)) (hlk : meth.locks = false)    (h : B_X6_isSign_28  Q my gs ga ) : GoX p l e rmX6_isSign s m args below meth c D A 2 0 0 (QP_X6_isSign D A ad cA ms mb my mt mw ml mo gm gs ga gg gb gu gh gk gl gn gt Q below args s) 28 [] [] (WM ad cA ms mb my mt mw ml mo gm gs ga gg gb gu gh gk gl gn gt) := by
  replace h : (B_X6_isSign_29  Q my gs ga (0 : Int32)) := h
  refine g_iconst C (0 : Int32) dX6_isSign_28 (by decide) ?_
  exact g_sub [] rfl (t_B_X6_isSign_29 C hrt9 hlk  (0 : Int32)  h)
set_option maxHeartbeats 4000000 in
set_option maxRecDepth 100000 in
theorem t_B_X6_isSign_0  {Q : Int32 → Prop} (C : CxX p s m args c D (tysX cA) RX6 cX6_isSign 2 wsX6_isSign) (hrt9 : meth.sig.returnType = (some .boolean)) (hlk : meth.locks = false) (v1 : Int32)   (h : B_X6_isSign_0  Q my gs ga v1) : GoX p l e rmX6_isSign s m args below meth c D A 2 0 0 (QP_X6_isSign D A ad cA ms mb my mt mw ml mo gm gs ga gg gb gu gh gk gl gn gt Q below args s) 0 [(0, .ref (ad 0)), (1, .int v1)] [] (WM ad cA ms mb my mt mw ml mo gm gs ga gg gb gu gh gk gl gn gt) := by
  replace h : ((gs ≤ ga → (B_X6_isSign_28  Q my gs ga )) ∧ (¬ gs ≤ ga → (vp_in ga 20 ∧ (((my ga.toNatClampNeg) = v1 → (B_X6_isSign_29  Q my gs ga (1 : Int32))) ∧ (¬ (my ga.toNatClampNeg) = v1 → (B_X6_isSign_28  Q my gs ga )))))) := h
  refine g_aload_n C 0 dX6_isSign_0 rfl rfl ?_
  refine g_get C inX6_isSign_6 0 WMg0 rfl 9 (by decide) lkX6_isSign_40 rfl dX6_isSign_1 ?_
  refine g_aload_n C 0 dX6_isSign_4 rfl rfl ?_
  refine g_get C inX6_isSign_6 0 WMg0 rfl 8 (by decide) lkX6_isSign_43 rfl dX6_isSign_5 ?_
  refine g_icmp_ge C 28 dX6_isSign_8 (by decide) (fun c_1 => ?_) (fun c_1 => ?_)
  · replace h := h.1 c_1
    exact g_sub [] rfl (t_B_X6_isSign_28 C hrt9 hlk    h)
  · replace h := h.2 c_1
    refine g_aload_n C 0 dX6_isSign_11 rfl rfl ?_
    refine g_get C inX6_isSign_6 0 WMg0 rfl 2 (by decide) lkX6_isSign_16 rfl dX6_isSign_12 ?_
    refine g_aload_n C 0 dX6_isSign_15 rfl rfl ?_
    refine g_get C inX6_isSign_6 0 WMg0 rfl 9 (by decide) lkX6_isSign_40 rfl dX6_isSign_16 ?_
    refine g_cald C 3 0 WMg3 rfl h.1 dX6_isSign_19 ?_
    replace h := h.2
    refine g_iload_n C 1 dX6_isSign_20 rfl rfl ?_
    refine g_icmp_ne C 28 dX6_isSign_21 (by decide) (fun c_2 => ?_) (fun c_2 => ?_)
    · replace h := h.2 c_2
      exact g_sub [] rfl (t_B_X6_isSign_28 C hrt9 hlk    h)
    · replace h := h.1 c_2
      refine g_iconst C (1 : Int32) dX6_isSign_24 (by decide) ?_
      refine g_goto C 29 dX6_isSign_25 (by decide) ?_
      exact g_sub [] rfl (t_B_X6_isSign_29 C hrt9 hlk  (1 : Int32)  h)
theorem c_X6_isSign (l : Launch) (D : va_G) (A : Nat → Prop) (ad : Nat → Nat) (cA : Nat → ClassId) (v1 : Int32) {ms : (Nat → Int32)} {mb : (Nat → Int32)} {my : (Nat → Int32)} {mt : (Nat → Int32)} {mw : (Nat → Int32)} {ml : (Nat → Int32)} {mo : (Nat → Int32)} {gm : Int32} {gs : Int32} {ga : Int32} {gg : Int32} {gb : Int32} {gu : Int32} {gh : Int32} {gk : Int32} {gl : Int32} {gn : Int32} {gt : Int32}  (Q : Int32 → Prop) (h : F_X6_isSign v1 my gs ga Q) : Met l yX6_isSign wsX6_isSign rmX6_isSign (va_Pc [.ref (ad 0), .int v1] (OKX D (tysX cA) (WM ad cA ms mb my mt mw ml mo gm gs ga gg gb gu gh gk gl gn gt) A)) (QC_X6_isSign D A ad cA ms mb my mt mw ml mo gm gs ga gg gb gu gh gk gl gn gt Q) 0 0 A :=
  g_met (own := RX6) (by decide) rfl rfl (Nat.le_of_ble_eq_true rfl) (fun p e s m below meth c C hrt9 hlk _ => g_sub [0, 1] rfl (t_B_X6_isSign_0 C hrt9 hlk v1   h))
theorem k_X6_isSign {ws : List Cond} {own : String} {cc : ByteArray} {nL pc index : Nat} {lv : List (Nat × Value)} {st : List Value} {Q : State → Prop} {R : Room} {K : Int32 → Prop} {v1 : Int32} (C : CxX p s m args c D (tysX cA) own cc nL ws) (hT : GoodIn ws (wsV own index RX6 yX6_isSign wsX6_isSign)) (hR : rmX6_isSign.frames + 1 ≤ R.frames ∧ 8 + (2 + 11) + rmX6_isSign.locals ≤ R.locals) (hcat : (st.map fun v => v.category).sum ≤ 8) (hdg : decode cc pc = .ok (.invokevirtual index, 3))  (h : F_X6_isSign v1 my gs ga K) (kk : ∀ (r : Int32) , K r → GoX p l e R s m args below meth c D A nL 0 0 Q (pc + 3) lv (.int r :: st) (WM ad cA ms mb my mt mw ml mo gm gs ga gg gb gu gh gk gl gn gt)) : GoX p l e R s m args below meth c D A nL 0 0 Q pc lv (.int v1 :: .ref (ad 0) :: st) (WM ad cA ms mb my mt mw ml mo gm gs ga gg gb gu gh gk gl gn gt) :=
  g_callVi C (As := [.int v1]) 1 (c_X6_isSign l D A ad cA v1  K h) hT rfl rfl rfl (by decide +kernel) hR 0 WMg0 rfl rfl rfl hcat hdg (fun r u hu => kk r  hu)
/-! X6_accepts -/
abbrev rmX6_accepts : Room := { frames := 1, cells := 0, slots := 0, locals := 21 }
abbrev QC_X6_accepts (D : va_G) (A : Nat → Prop) (ad : Nat → Nat) (cA : Nat → ClassId) (ms : (Nat → Int32)) (mb : (Nat → Int32)) (my : (Nat → Int32)) (mt : (Nat → Int32)) (mw : (Nat → Int32)) (ml : (Nat → Int32)) (mo : (Nat → Int32)) (gm : Int32) (gs : Int32) (gg : Int32) (gb : Int32) (gu : Int32) (gh : Int32) (gk : Int32) (gl : Int32) (gn : Int32) (gt : Int32) (Q : Int32 → Int32 → Prop) : Array Value → State → Outcome → State → Prop := va_Qi (fun (r : Int32) (u : Int32) => Q r u) (fun u t => OKX D (tysX cA) ((fun u : Int32 => WM ad cA ms mb my mt mw ml mo gm gs u gg gb gu gh gk gl gn gt) u) A t) A
abbrev QP_X6_accepts (D : va_G) (A : Nat → Prop) (ad : Nat → Nat) (cA : Nat → ClassId) (ms : (Nat → Int32)) (mb : (Nat → Int32)) (my : (Nat → Int32)) (mt : (Nat → Int32)) (mw : (Nat → Int32)) (ml : (Nat → Int32)) (mo : (Nat → Int32)) (gm : Int32) (gs : Int32) (gg : Int32) (gb : Int32) (gu : Int32) (gh : Int32) (gk : Int32) (gl : Int32) (gn : Int32) (gt : Int32) (Q : Int32 → Int32 → Prop) (below : List Frame) (args : Array Value) (s : State) : State → Prop := MQ below (QC_X6_accepts D A ad cA ms mb my mt mw ml mo gm gs gg gb gu gh gk gl gn gt Q) args s 0 0 A
def B_X6_accepts_20  (Q : Int32 → Int32 → Prop) (my : (Nat → Int32)) (gs : Int32) (v2 : Int32) (s1 : Int32) (s2 : Int32) (ga : Int32) : Prop := (isBo v2 ∧ (Q v2 (s1 + s2)))
def B_X6_accepts_0  (Q : Int32 → Int32 → Prop) (my : (Nat → Int32)) (gs : Int32) (v1 : Int32) (ga : Int32) : Prop := (F_X6_isSign v1 my gs ga (fun r_1 => ((r_1 = 0 → (B_X6_accepts_20  Q my gs r_1 ga (0 : Int32) ga)) ∧ (¬ r_1 = 0 → (B_X6_accepts_20  Q my gs r_1 ga (1 : Int32) ga)))))
def F_X6_accepts (v1 : Int32) (my : (Nat → Int32)) (gs : Int32) (ga : Int32) (Q : Int32 → Int32 → Prop) : Prop := B_X6_accepts_0 Q my gs v1 ga
theorem lkX6_accepts_40 : Cond.fieldLink RX6 40 (TX6 9).1 (TX6 9).2.1 (TX6 9).2.2.1 ∈ wsX6_accepts := by decide +kernel
theorem inX6_accepts_6 : ∀ q ∈ u_ws RX6 TX6 18, q ∈ wsX6_accepts := by decide +kernel
set_option maxHeartbeats 4000000 in
set_option maxRecDepth 100000 in
theorem t_B_X6_accepts_20  {Q : Int32 → Int32 → Prop} (C : CxX p s m args c D (tysX cA) RX6 cX6_accepts 3 wsX6_accepts) (hrt9 : meth.sig.returnType = (some .boolean)) (hlk : meth.locks = false) (v2 : Int32) (s1 : Int32) (s2 : Int32) (ga : Int32)  (h : B_X6_accepts_20  Q my gs v2 s1 s2 ga) : GoX p l e rmX6_accepts s m args below meth c D A 3 0 0 (QP_X6_accepts D A ad cA ms mb my mt mw ml mo gm gs gg gb gu gh gk gl gn gt Q below args s) 20 [(2, .int v2)] [.int s2, .int s1, .ref (ad 0)] (WM ad cA ms mb my mt mw ml mo gm gs ga gg gb gu gh gk gl gn gt) := by
  replace h : (isBo v2 ∧ (Q v2 (s1 + s2))) := h
  refine g_iadd C dX6_accepts_20 ?_
  refine g_put C inX6_accepts_6 tyX6 tyX6_ok nmX6 0 WMg0 rfl 9 (by decide) lkX6_accepts_40 rfl rfl rfl (Nat.le_of_ble_eq_true rfl) (WMs_ga) dX6_accepts_21 ?_
  refine g_iload_n C 0 dX6_accepts_24 rfl rfl ?_
  exact g_zret C hrt9 hlk h.1.n (u := (s1 + s2)) rfl h.2 dX6_accepts_25
set_option maxHeartbeats 4000000 in
set_option maxRecDepth 100000 in
theorem t_B_X6_accepts_0  {Q : Int32 → Int32 → Prop} (C : CxX p s m args c D (tysX cA) RX6 cX6_accepts 3 wsX6_accepts) (hrt9 : meth.sig.returnType = (some .boolean)) (hlk : meth.locks = false) (v1 : Int32) (ga : Int32)  (h : B_X6_accepts_0  Q my gs v1 ga) : GoX p l e rmX6_accepts s m args below meth c D A 3 0 0 (QP_X6_accepts D A ad cA ms mb my mt mw ml mo gm gs gg gb gu gh gk gl gn gt Q below args s) 0 [(0, .ref (ad 0)), (1, .int v1)] [] (WM ad cA ms mb my mt mw ml mo gm gs ga gg gb gu gh gk gl gn gt) := by
  replace h : (F_X6_isSign v1 my gs ga (fun r_1 => ((r_1 = 0 → (B_X6_accepts_20  Q my gs r_1 ga (0 : Int32) ga)) ∧ (¬ r_1 = 0 → (B_X6_accepts_20  Q my gs r_1 ga (1 : Int32) ga))))) := h
  refine g_aload_n C 0 dX6_accepts_0 rfl rfl ?_
  refine g_iload_n C 1 dX6_accepts_1 rfl rfl ?_
  refine k_X6_isSign C gX6_accepts_X6_isSign ⟨Nat.le_of_ble_eq_true rfl, Nat.le_of_ble_eq_true rfl⟩ (Nat.le_of_ble_eq_true rfl) dX6_accepts_2  h (fun r_1 h => ?_)
  refine g_istore_n C (lv2 := [(2, .int r_1), (0, .ref (ad 0)), (1, .int v1)]) dX6_accepts_5 rfl (by decide) rfl ?_
  refine g_aload_n C 1 dX6_accepts_6 rfl rfl ?_
  refine g_dup C dX6_accepts_7 rfl ?_
  refine g_get C inX6_accepts_6 0 WMg0 rfl 9 (by decide) lkX6_accepts_40 rfl dX6_accepts_8 ?_
  refine g_iload_n C 0 dX6_accepts_11 rfl rfl ?_
  refine g_if_eq C 19 dX6_accepts_12 (by decide) (fun c_2 => ?_) (fun c_2 => ?_)
  · replace h := h.1 c_2
    refine g_iconst C (0 : Int32) dX6_accepts_19 (by decide) ?_
    exact g_sub [0] rfl (t_B_X6_accepts_20 C hrt9 hlk  r_1 ga (0 : Int32) ga  h)
  · replace h := h.2 c_2
    refine g_iconst C (1 : Int32) dX6_accepts_15 (by decide) ?_
    refine g_goto C 20 dX6_accepts_16 (by decide) ?_
    exact g_sub [0] rfl (t_B_X6_accepts_20 C hrt9 hlk  r_1 ga (1 : Int32) ga  h)
theorem c_X6_accepts (l : Launch) (D : va_G) (A : Nat → Prop) (ad : Nat → Nat) (cA : Nat → ClassId) (v1 : Int32) {ms : (Nat → Int32)} {mb : (Nat → Int32)} {my : (Nat → Int32)} {mt : (Nat → Int32)} {mw : (Nat → Int32)} {ml : (Nat → Int32)} {mo : (Nat → Int32)} {gm : Int32} {gs : Int32} {ga : Int32} {gg : Int32} {gb : Int32} {gu : Int32} {gh : Int32} {gk : Int32} {gl : Int32} {gn : Int32} {gt : Int32}  (Q : Int32 → Int32 → Prop) (h : F_X6_accepts v1 my gs ga Q) : Met l yX6_accepts wsX6_accepts rmX6_accepts (va_Pc [.ref (ad 0), .int v1] (OKX D (tysX cA) (WM ad cA ms mb my mt mw ml mo gm gs ga gg gb gu gh gk gl gn gt) A)) (QC_X6_accepts D A ad cA ms mb my mt mw ml mo gm gs gg gb gu gh gk gl gn gt Q) 0 0 A :=
  g_met (own := RX6) (by decide) rfl rfl (Nat.le_of_ble_eq_true rfl) (fun p e s m below meth c C hrt9 hlk _ => g_sub [0, 1] rfl (t_B_X6_accepts_0 C hrt9 hlk v1 ga  h))
theorem k_X6_accepts {ws : List Cond} {own : String} {cc : ByteArray} {nL pc index : Nat} {lv : List (Nat × Value)} {st : List Value} {Q : State → Prop} {R : Room} {K : Int32 → Int32 → Prop} {v1 : Int32} (C : CxX p s m args c D (tysX cA) own cc nL ws) (hT : GoodIn ws (wsV own index RX6 yX6_accepts wsX6_accepts)) (hR : rmX6_accepts.frames + 1 ≤ R.frames ∧ 8 + (3 + 11) + rmX6_accepts.locals ≤ R.locals) (hcat : (st.map fun v => v.category).sum ≤ 8) (hdg : decode cc pc = .ok (.invokevirtual index, 3))  (h : F_X6_accepts v1 my gs ga K) (kk : ∀ (r : Int32) (gaq : Int32), K r gaq → GoX p l e R s m args below meth c D A nL 0 0 Q (pc + 3) lv (.int r :: st) (WM ad cA ms mb my mt mw ml mo gm gs gaq gg gb gu gh gk gl gn gt)) : GoX p l e R s m args below meth c D A nL 0 0 Q pc lv (.int v1 :: .ref (ad 0) :: st) (WM ad cA ms mb my mt mw ml mo gm gs ga gg gb gu gh gk gl gn gt) :=
  g_callVi C (As := [.int v1]) 1 (c_X6_accepts l D A ad cA v1  K h) hT rfl rfl rfl (by decide +kernel) hR 0 WMg0 rfl rfl rfl hcat hdg (fun r u hu => kk r u hu)
/-! X6_unitFrom -/
abbrev rmX6_unitFrom : Room := { frames := 0, cells := 0, slots := 0, locals := 0 }
abbrev QC_X6_unitFrom (D : va_G) (A : Nat → Prop) (ad : Nat → Nat) (cA : Nat → ClassId) (ms : (Nat → Int32)) (mb : (Nat → Int32)) (my : (Nat → Int32)) (mt : (Nat → Int32)) (mw : (Nat → Int32)) (ml : (Nat → Int32)) (mo : (Nat → Int32)) (gm : Int32) (gs : Int32) (gg : Int32) (gb : Int32) (gu : Int32) (gh : Int32) (gk : Int32) (gl : Int32) (gn : Int32) (gt : Int32) (Q : Int32 → Int32 → Prop) : Array Value → State → Outcome → State → Prop := va_Qi (fun (r : Int32) (u : Int32) => Q r u) (fun u t => OKX D (tysX cA) ((fun u : Int32 => WM ad cA ms mb my mt mw ml mo gm gs u gg gb gu gh gk gl gn gt) u) A t) A
abbrev QP_X6_unitFrom (D : va_G) (A : Nat → Prop) (ad : Nat → Nat) (cA : Nat → ClassId) (ms : (Nat → Int32)) (mb : (Nat → Int32)) (my : (Nat → Int32)) (mt : (Nat → Int32)) (mw : (Nat → Int32)) (ml : (Nat → Int32)) (mo : (Nat → Int32)) (gm : Int32) (gs : Int32) (gg : Int32) (gb : Int32) (gu : Int32) (gh : Int32) (gk : Int32) (gl : Int32) (gn : Int32) (gt : Int32) (Q : Int32 → Int32 → Prop) (below : List Frame) (args : Array Value) (s : State) : State → Prop := MQ below (QC_X6_unitFrom D A ad cA ms mb my mt mw ml mo gm gs gg gb gu gh gk gl gn gt Q) args s 0 0 A
def B_X6_unitFrom_38  (Q : Int32 → Int32 → Prop) (my : (Nat → Int32)) (gs : Int32)  (ga : Int32) : Prop := (Q (0 : Int32) ga)
def B_X6_unitFrom_0  (Q : Int32 → Int32 → Prop) (my : (Nat → Int32)) (gs : Int32) (v1 : Int32) (ga : Int32) : Prop := ((ga = gs → (B_X6_unitFrom_38  Q my gs ga)) ∧ (¬ ga = gs → (vp_in ga 20 ∧ (((my ga.toNatClampNeg) < v1 → (B_X6_unitFrom_38  Q my gs ga)) ∧ (¬ (my ga.toNatClampNeg) < v1 → (vp_in ga 20 ∧ (((my ga.toNatClampNeg) ≤ (115 : Int32) → (vp_in ((ga + (1 : Int32)) - (1 : Int32)) 20 ∧ (Q (((my ((ga + (1 : Int32)) - (1 : Int32)).toNatClampNeg) - (97 : Int32)) + (1 : Int32)) (ga + (1 : Int32))))) ∧ (¬ (my ga.toNatClampNeg) ≤ (115 : Int32) → (B_X6_unitFrom_38  Q my gs ga)))))))))
def F_X6_unitFrom (v1 : Int32) (my : (Nat → Int32)) (gs : Int32) (ga : Int32) (Q : Int32 → Int32 → Prop) : Prop := B_X6_unitFrom_0 Q my gs v1 ga
theorem lkX6_unitFrom_16 : Cond.fieldLink RX6 16 (TX6 2).1 (TX6 2).2.1 (TX6 2).2.2.1 ∈ wsX6_unitFrom := by decide +kernel
theorem lkX6_unitFrom_43 : Cond.fieldLink RX6 43 (TX6 8).1 (TX6 8).2.1 (TX6 8).2.2.1 ∈ wsX6_unitFrom := by decide +kernel
theorem lkX6_unitFrom_40 : Cond.fieldLink RX6 40 (TX6 9).1 (TX6 9).2.1 (TX6 9).2.2.1 ∈ wsX6_unitFrom := by decide +kernel
theorem inX6_unitFrom_6 : ∀ q ∈ u_ws RX6 TX6 18, q ∈ wsX6_unitFrom := by decide +kernel
set_option maxHeartbeats 4000000 in
set_option maxRecDepth 100000 in
theorem t_B_X6_unitFrom_38  {Q : Int32 → Int32 → Prop} (C : CxX p s m args c D (tysX cA) RX6 cX6_unitFrom 2 wsX6_unitFrom) (hrt9 : meth.sig.returnType = (some .int)) (hlk : meth.locks = false)  (ga : Int32)  (h : B_X6_unitFrom_38  Q my gs ga) : GoX p l e rmX6_unitFrom s m args below meth c D A 2 0 0 (QP_X6_unitFrom D A ad cA ms mb my mt mw ml mo gm gs gg gb gu gh gk gl gn gt Q below args s) 38 [] [] (WM ad cA ms mb my mt mw ml mo gm gs ga gg gb gu gh gk gl gn gt) := by
  replace h : (Q (0 : Int32) ga) := h
  refine g_iconst C (0 : Int32) dX6_unitFrom_38 (by decide) ?_
  exact g_iret C hrt9 hlk (u := ga) rfl h dX6_unitFrom_39
set_option maxHeartbeats 4000000 in
set_option maxRecDepth 100000 in
theorem t_B_X6_unitFrom_0  {Q : Int32 → Int32 → Prop} (C : CxX p s m args c D (tysX cA) RX6 cX6_unitFrom 2 wsX6_unitFrom) (hrt9 : meth.sig.returnType = (some .int)) (hlk : meth.locks = false) (v1 : Int32) (ga : Int32)  (h : B_X6_unitFrom_0  Q my gs v1 ga) : GoX p l e rmX6_unitFrom s m args below meth c D A 2 0 0 (QP_X6_unitFrom D A ad cA ms mb my mt mw ml mo gm gs gg gb gu gh gk gl gn gt Q below args s) 0 [(0, .ref (ad 0)), (1, .int v1)] [] (WM ad cA ms mb my mt mw ml mo gm gs ga gg gb gu gh gk gl gn gt) := by
  replace h : ((ga = gs → (B_X6_unitFrom_38  Q my gs ga)) ∧ (¬ ga = gs → (vp_in ga 20 ∧ (((my ga.toNatClampNeg) < v1 → (B_X6_unitFrom_38  Q my gs ga)) ∧ (¬ (my ga.toNatClampNeg) < v1 → (vp_in ga 20 ∧ (((my ga.toNatClampNeg) ≤ (115 : Int32) → (vp_in ((ga + (1 : Int32)) - (1 : Int32)) 20 ∧ (Q (((my ((ga + (1 : Int32)) - (1 : Int32)).toNatClampNeg) - (97 : Int32)) + (1 : Int32)) (ga + (1 : Int32))))) ∧ (¬ (my ga.toNatClampNeg) ≤ (115 : Int32) → (B_X6_unitFrom_38  Q my gs ga))))))))) := h
  refine g_aload_n C 0 dX6_unitFrom_0 rfl rfl ?_
  refine g_get C inX6_unitFrom_6 0 WMg0 rfl 9 (by decide) lkX6_unitFrom_40 rfl dX6_unitFrom_1 ?_
  refine g_aload_n C 0 dX6_unitFrom_4 rfl rfl ?_
  refine g_get C inX6_unitFrom_6 0 WMg0 rfl 8 (by decide) lkX6_unitFrom_43 rfl dX6_unitFrom_5 ?_
  refine g_icmp_eq C 38 dX6_unitFrom_8 (by decide) (fun c_1 => ?_) (fun c_1 => ?_)
  · replace h := h.1 c_1
    exact g_sub [] rfl (t_B_X6_unitFrom_38 C hrt9 hlk  ga  h)
  · replace h := h.2 c_1
    refine g_aload_n C 0 dX6_unitFrom_11 rfl rfl ?_
    refine g_get C inX6_unitFrom_6 0 WMg0 rfl 2 (by decide) lkX6_unitFrom_16 rfl dX6_unitFrom_12 ?_
    refine g_aload_n C 0 dX6_unitFrom_15 rfl rfl ?_
    refine g_get C inX6_unitFrom_6 0 WMg0 rfl 9 (by decide) lkX6_unitFrom_40 rfl dX6_unitFrom_16 ?_
    refine g_cald C 3 0 WMg3 rfl h.1 dX6_unitFrom_19 ?_
    replace h := h.2
    refine g_iload_n C 1 dX6_unitFrom_20 rfl rfl ?_
    refine g_icmp_lt C 38 dX6_unitFrom_21 (by decide) (fun c_2 => ?_) (fun c_2 => ?_)
    · replace h := h.1 c_2
      exact g_sub [] rfl (t_B_X6_unitFrom_38 C hrt9 hlk  ga  h)
    · replace h := h.2 c_2
      refine g_aload_n C 0 dX6_unitFrom_24 rfl rfl ?_
      refine g_get C inX6_unitFrom_6 0 WMg0 rfl 2 (by decide) lkX6_unitFrom_16 rfl dX6_unitFrom_25 ?_
      refine g_aload_n C 0 dX6_unitFrom_28 rfl rfl ?_
      refine g_get C inX6_unitFrom_6 0 WMg0 rfl 9 (by decide) lkX6_unitFrom_40 rfl dX6_unitFrom_29 ?_
      refine g_cald C 3 0 WMg3 rfl h.1 dX6_unitFrom_32 ?_
      replace h := h.2
      refine g_bipush C (115 : Int32) dX6_unitFrom_33 (by decide) ?_
      refine g_icmp_le C 40 dX6_unitFrom_35 (by decide) (fun c_3 => ?_) (fun c_3 => ?_)
      · replace h := h.1 c_3
        refine g_aload_n C 0 dX6_unitFrom_40 rfl rfl ?_
        refine g_dup C dX6_unitFrom_41 rfl ?_
        refine g_get C inX6_unitFrom_6 0 WMg0 rfl 9 (by decide) lkX6_unitFrom_40 rfl dX6_unitFrom_42 ?_
        refine g_iconst C (1 : Int32) dX6_unitFrom_45 (by decide) ?_
        refine g_iadd C dX6_unitFrom_46 ?_
        refine g_put C inX6_unitFrom_6 tyX6 tyX6_ok nmX6 0 WMg0 rfl 9 (by decide) lkX6_unitFrom_40 rfl rfl rfl (Nat.le_of_ble_eq_true rfl) (WMs_ga) dX6_unitFrom_47 ?_
        refine g_aload_n C 0 dX6_unitFrom_50 rfl rfl ?_
        refine g_get C inX6_unitFrom_6 0 WMg0 rfl 2 (by decide) lkX6_unitFrom_16 rfl dX6_unitFrom_51 ?_
        refine g_aload_n C 0 dX6_unitFrom_54 rfl rfl ?_
        refine g_get C inX6_unitFrom_6 0 WMg0 rfl 9 (by decide) lkX6_unitFrom_40 rfl dX6_unitFrom_55 ?_
        refine g_iconst C (1 : Int32) dX6_unitFrom_58 (by decide) ?_
        refine g_isub C dX6_unitFrom_59 ?_
        refine g_cald C 3 0 WMg3 rfl h.1 dX6_unitFrom_60 ?_
        replace h := h.2
        refine g_bipush C (97 : Int32) dX6_unitFrom_61 (by decide) ?_
        refine g_isub C dX6_unitFrom_63 ?_
        refine g_iconst C (1 : Int32) dX6_unitFrom_64 (by decide) ?_
        refine g_iadd C dX6_unitFrom_65 ?_
        exact g_iret C hrt9 hlk (u := (ga + (1 : Int32))) rfl h dX6_unitFrom_66
      · replace h := h.2 c_3
        exact g_sub [] rfl (t_B_X6_unitFrom_38 C hrt9 hlk  ga  h)
theorem c_X6_unitFrom (l : Launch) (D : va_G) (A : Nat → Prop) (ad : Nat → Nat) (cA : Nat → ClassId) (v1 : Int32) {ms : (Nat → Int32)} {mb : (Nat → Int32)} {my : (Nat → Int32)} {mt : (Nat → Int32)} {mw : (Nat → Int32)} {ml : (Nat → Int32)} {mo : (Nat → Int32)} {gm : Int32} {gs : Int32} {ga : Int32} {gg : Int32} {gb : Int32} {gu : Int32} {gh : Int32} {gk : Int32} {gl : Int32} {gn : Int32} {gt : Int32}  (Q : Int32 → Int32 → Prop) (h : F_X6_unitFrom v1 my gs ga Q) : Met l yX6_unitFrom wsX6_unitFrom rmX6_unitFrom (va_Pc [.ref (ad 0), .int v1] (OKX D (tysX cA) (WM ad cA ms mb my mt mw ml mo gm gs ga gg gb gu gh gk gl gn gt) A)) (QC_X6_unitFrom D A ad cA ms mb my mt mw ml mo gm gs gg gb gu gh gk gl gn gt Q) 0 0 A :=
  g_met (own := RX6) (by decide) rfl rfl (Nat.le_of_ble_eq_true rfl) (fun p e s m below meth c C hrt9 hlk _ => g_sub [0, 1] rfl (t_B_X6_unitFrom_0 C hrt9 hlk v1 ga  h))
theorem k_X6_unitFrom {ws : List Cond} {own : String} {cc : ByteArray} {nL pc index : Nat} {lv : List (Nat × Value)} {st : List Value} {Q : State → Prop} {R : Room} {K : Int32 → Int32 → Prop} {v1 : Int32} (C : CxX p s m args c D (tysX cA) own cc nL ws) (hT : GoodIn ws (wsV own index RX6 yX6_unitFrom wsX6_unitFrom)) (hR : rmX6_unitFrom.frames + 1 ≤ R.frames ∧ 8 + (2 + 11) + rmX6_unitFrom.locals ≤ R.locals) (hcat : (st.map fun v => v.category).sum ≤ 8) (hdg : decode cc pc = .ok (.invokevirtual index, 3))  (h : F_X6_unitFrom v1 my gs ga K) (kk : ∀ (r : Int32) (gaq : Int32), K r gaq → GoX p l e R s m args below meth c D A nL 0 0 Q (pc + 3) lv (.int r :: st) (WM ad cA ms mb my mt mw ml mo gm gs gaq gg gb gu gh gk gl gn gt)) : GoX p l e R s m args below meth c D A nL 0 0 Q pc lv (.int v1 :: .ref (ad 0) :: st) (WM ad cA ms mb my mt mw ml mo gm gs ga gg gb gu gh gk gl gn gt) :=
  g_callVi C (As := [.int v1]) 1 (c_X6_unitFrom l D A ad cA v1  K h) hT rfl rfl rfl (by decide +kernel) hR 0 WMg0 rfl rfl rfl hcat hdg (fun r u hu => kk r u hu)
/-! X6_base -/
abbrev rmX6_base : Room := { frames := 2, cells := 0, slots := 0, locals := 43 }
abbrev QC_X6_base (D : va_G) (A : Nat → Prop) (ad : Nat → Nat) (cA : Nat → ClassId) (ms : (Nat → Int32)) (mb : (Nat → Int32)) (my : (Nat → Int32)) (mt : (Nat → Int32)) (mw : (Nat → Int32)) (ml : (Nat → Int32)) (mo : (Nat → Int32)) (gm : Int32) (gs : Int32) (gg : Int32) (gu : Int32) (gh : Int32) (gl : Int32) (gn : Int32) (gt : Int32) (Q : Int32 → Int32 → Int32 → Int32 → Prop) : Array Value → State → Outcome → State → Prop := va_Qi (fun (r : Int32) (u : Int32 × Int32 × Int32) => Q r u.1 u.2.1 u.2.2) (fun u t => OKX D (tysX cA) ((fun u : Int32 × Int32 × Int32 => WM ad cA ms mb my mt mw ml mo gm gs u.1 gg u.2.1 gu gh u.2.2 gl gn gt) u) A t) A
abbrev QP_X6_base (D : va_G) (A : Nat → Prop) (ad : Nat → Nat) (cA : Nat → ClassId) (ms : (Nat → Int32)) (mb : (Nat → Int32)) (my : (Nat → Int32)) (mt : (Nat → Int32)) (mw : (Nat → Int32)) (ml : (Nat → Int32)) (mo : (Nat → Int32)) (gm : Int32) (gs : Int32) (gg : Int32) (gu : Int32) (gh : Int32) (gl : Int32) (gn : Int32) (gt : Int32) (Q : Int32 → Int32 → Int32 → Int32 → Prop) (below : List Frame) (args : Array Value) (s : State) : State → Prop := MQ below (QC_X6_base D A ad cA ms mb my mt mw ml mo gm gs gg gu gh gl gn gt Q) args s 0 0 A
def B_X6_base_57  (Q : Int32 → Int32 → Int32 → Int32 → Prop) (my : (Nat → Int32)) (gs : Int32) (s0 : Int32) (ga : Int32) (gb : Int32) (gk : Int32) : Prop := (isBo s0 ∧ (Q s0 ga gb gk))
def B_X6_base_56  (Q : Int32 → Int32 → Int32 → Int32 → Prop) (my : (Nat → Int32)) (gs : Int32)  (ga : Int32) (gb : Int32) (gk : Int32) : Prop := (B_X6_base_57  Q my gs (0 : Int32) ga gb gk)
def B_X6_base_0  (Q : Int32 → Int32 → Int32 → Int32 → Prop) (my : (Nat → Int32)) (gs : Int32)  (ga : Int32) (gb : Int32) (gk : Int32) : Prop := (F_X6_accepts (83 : Int32) my gs ga (fun r_1 ga_2 => ((r_1 = 0 → (F_X6_accepts (72 : Int32) my gs ga_2 (fun r_4 ga_5 => (isBo r_4 ∧ (F_X6_unitFrom (98 : Int32) my gs ga_5 (fun r_6 ga_7 => ((r_6 ≤ 0 → (B_X6_base_56  Q my gs ga_7 r_6 r_4)) ∧ (¬ r_6 ≤ 0 → (F_X6_accepts (83 : Int32) my gs ga_7 (fun r_9 ga_10 => ((r_9 = 0 → (B_X6_base_56  Q my gs ga_10 r_6 r_4)) ∧ (¬ r_9 = 0 → (B_X6_base_57  Q my gs (1 : Int32) ga_10 r_6 r_4))))))))))))) ∧ (¬ r_1 = 0 → (Q (1 : Int32) ga_2 (1 : Int32) gk)))))
def F_X6_base  (my : (Nat → Int32)) (gs : Int32) (ga : Int32) (gb : Int32) (gk : Int32) (Q : Int32 → Int32 → Int32 → Int32 → Prop) : Prop := B_X6_base_0 Q my gs  ga gb gk
theorem lkX6_base_53 : Cond.fieldLink RX6 53 (TX6 11).1 (TX6 11).2.1 (TX6 11).2.2.1 ∈ wsX6_base := by decide +kernel
theorem lkX6_base_56 : Cond.fieldLink RX6 56 (TX6 14).1 (TX6 14).2.1 (TX6 14).2.2.1 ∈ wsX6_base := by decide +kernel
theorem inX6_base_6 : ∀ q ∈ u_ws RX6 TX6 18, q ∈ wsX6_base := by decide +kernel
set_option maxHeartbeats 4000000 in
set_option maxRecDepth 100000 in
theorem t_B_X6_base_57  {Q : Int32 → Int32 → Int32 → Int32 → Prop} (C : CxX p s m args c D (tysX cA) RX6 cX6_base 1 wsX6_base) (hrt9 : meth.sig.returnType = (some .boolean)) (hlk : meth.locks = false) (s0 : Int32) (ga : Int32) (gb : Int32) (gk : Int32)  (h : B_X6_base_57  Q my gs s0 ga gb gk) : GoX p l e rmX6_base s m args below meth c D A 1 0 0 (QP_X6_base D A ad cA ms mb my mt mw ml mo gm gs gg gu gh gl gn gt Q below args s) 57 [] [.int s0] (WM ad cA ms mb my mt mw ml mo gm gs ga gg gb gu gh gk gl gn gt) := by
  replace h : (isBo s0 ∧ (Q s0 ga gb gk)) := h
  exact g_zret C hrt9 hlk h.1.n (u := (ga, gb, gk)) rfl h.2 dX6_base_57
set_option maxHeartbeats 4000000 in
set_option maxRecDepth 100000 in
theorem t_B_X6_base_56  {Q : Int32 → Int32 → Int32 → Int32 → Prop} (C : CxX p s m args c D (tysX cA) RX6 cX6_base 1 wsX6_base) (hrt9 : meth.sig.returnType = (some .boolean)) (hlk : meth.locks = false)  (ga : Int32) (gb : Int32) (gk : Int32)  (h : B_X6_base_56  Q my gs ga gb gk) : GoX p l e rmX6_base s m args below meth c D A 1 0 0 (QP_X6_base D A ad cA ms mb my mt mw ml mo gm gs gg gu gh gl gn gt Q below args s) 56 [] [] (WM ad cA ms mb my mt mw ml mo gm gs ga gg gb gu gh gk gl gn gt) := by
  replace h : (B_X6_base_57  Q my gs (0 : Int32) ga gb gk) := h
  refine g_iconst C (0 : Int32) dX6_base_56 (by decide) ?_
  exact g_sub [] rfl (t_B_X6_base_57 C hrt9 hlk  (0 : Int32) ga gb gk  h)
set_option maxHeartbeats 4000000 in
set_option maxRecDepth 100000 in
theorem t_B_X6_base_0  {Q : Int32 → Int32 → Int32 → Int32 → Prop} (C : CxX p s m args c D (tysX cA) RX6 cX6_base 1 wsX6_base) (hrt9 : meth.sig.returnType = (some .boolean)) (hlk : meth.locks = false)  (ga : Int32) (gb : Int32) (gk : Int32)  (h : B_X6_base_0  Q my gs ga gb gk) : GoX p l e rmX6_base s m args below meth c D A 1 0 0 (QP_X6_base D A ad cA ms mb my mt mw ml mo gm gs gg gu gh gl gn gt Q below args s) 0 [(0, .ref (ad 0))] [] (WM ad cA ms mb my mt mw ml mo gm gs ga gg gb gu gh gk gl gn gt) := by
  replace h : (F_X6_accepts (83 : Int32) my gs ga (fun r_1 ga_2 => ((r_1 = 0 → (F_X6_accepts (72 : Int32) my gs ga_2 (fun r_4 ga_5 => (isBo r_4 ∧ (F_X6_unitFrom (98 : Int32) my gs ga_5 (fun r_6 ga_7 => ((r_6 ≤ 0 → (B_X6_base_56  Q my gs ga_7 r_6 r_4)) ∧ (¬ r_6 ≤ 0 → (F_X6_accepts (83 : Int32) my gs ga_7 (fun r_9 ga_10 => ((r_9 = 0 → (B_X6_base_56  Q my gs ga_10 r_6 r_4)) ∧ (¬ r_9 = 0 → (B_X6_base_57  Q my gs (1 : Int32) ga_10 r_6 r_4))))))))))))) ∧ (¬ r_1 = 0 → (Q (1 : Int32) ga_2 (1 : Int32) gk))))) := h
  refine g_aload_n C 0 dX6_base_0 rfl rfl ?_
  refine g_bipush C (83 : Int32) dX6_base_1 (by decide) ?_
  refine k_X6_accepts C gX6_base_X6_accepts ⟨Nat.le_of_ble_eq_true rfl, Nat.le_of_ble_eq_true rfl⟩ (Nat.le_of_ble_eq_true rfl) dX6_base_3  h (fun r_1 ga_2 h => ?_)
  refine g_if_eq C 16 dX6_base_6 (by decide) (fun c_3 => ?_) (fun c_3 => ?_)
  · replace h := h.1 c_3
    refine g_aload_n C 0 dX6_base_16 rfl rfl ?_
    refine g_aload_n C 0 dX6_base_17 rfl rfl ?_
    refine g_bipush C (72 : Int32) dX6_base_18 (by decide) ?_
    refine k_X6_accepts C gX6_base_X6_accepts ⟨Nat.le_of_ble_eq_true rfl, Nat.le_of_ble_eq_true rfl⟩ (Nat.le_of_ble_eq_true rfl) dX6_base_20  h (fun r_4 ga_5 h => ?_)
    refine g_put C inX6_base_6 tyX6 tyX6_ok nmX6 0 WMg0 rfl 14 (by decide) lkX6_base_56 rfl h.1.n h.1.f (Nat.le_of_ble_eq_true rfl) (WMs_gk) dX6_base_23 ?_
    replace h := h.2
    refine g_aload_n C 0 dX6_base_26 rfl rfl ?_
    refine g_aload_n C 0 dX6_base_27 rfl rfl ?_
    refine g_bipush C (98 : Int32) dX6_base_28 (by decide) ?_
    refine k_X6_unitFrom C gX6_base_X6_unitFrom ⟨Nat.le_of_ble_eq_true rfl, Nat.le_of_ble_eq_true rfl⟩ (Nat.le_of_ble_eq_true rfl) dX6_base_30  h (fun r_6 ga_7 h => ?_)
    refine g_put C inX6_base_6 tyX6 tyX6_ok nmX6 0 WMg0 rfl 11 (by decide) lkX6_base_53 rfl rfl rfl (Nat.le_of_ble_eq_true rfl) (WMs_gb) dX6_base_33 ?_
    refine g_aload_n C 0 dX6_base_36 rfl rfl ?_
    refine g_get C inX6_base_6 0 WMg0 rfl 11 (by decide) lkX6_base_53 rfl dX6_base_37 ?_
    refine g_if_le C 56 dX6_base_40 (by decide) (fun c_8 => ?_) (fun c_8 => ?_)
    · replace h := h.1 c_8
      exact g_sub [] rfl (t_B_X6_base_56 C hrt9 hlk  ga_7 r_6 r_4  h)
    · replace h := h.2 c_8
      refine g_aload_n C 0 dX6_base_43 rfl rfl ?_
      refine g_bipush C (83 : Int32) dX6_base_44 (by decide) ?_
      refine k_X6_accepts C gX6_base_X6_accepts ⟨Nat.le_of_ble_eq_true rfl, Nat.le_of_ble_eq_true rfl⟩ (Nat.le_of_ble_eq_true rfl) dX6_base_46  h (fun r_9 ga_10 h => ?_)
      refine g_if_eq C 56 dX6_base_49 (by decide) (fun c_11 => ?_) (fun c_11 => ?_)
      · replace h := h.1 c_11
        exact g_sub [] rfl (t_B_X6_base_56 C hrt9 hlk  ga_10 r_6 r_4  h)
      · replace h := h.2 c_11
        refine g_iconst C (1 : Int32) dX6_base_52 (by decide) ?_
        refine g_goto C 57 dX6_base_53 (by decide) ?_
        exact g_sub [] rfl (t_B_X6_base_57 C hrt9 hlk  (1 : Int32) ga_10 r_6 r_4  h)
  · replace h := h.2 c_3
    refine g_aload_n C 0 dX6_base_9 rfl rfl ?_
    refine g_iconst C (1 : Int32) dX6_base_10 (by decide) ?_
    refine g_put C inX6_base_6 tyX6 tyX6_ok nmX6 0 WMg0 rfl 11 (by decide) lkX6_base_53 rfl rfl rfl (Nat.le_of_ble_eq_true rfl) (WMs_gb) dX6_base_11 ?_
    refine g_iconst C (1 : Int32) dX6_base_14 (by decide) ?_
    exact g_zret C hrt9 hlk rfl (u := (ga_2, (1 : Int32), gk)) rfl h dX6_base_15
theorem c_X6_base (l : Launch) (D : va_G) (A : Nat → Prop) (ad : Nat → Nat) (cA : Nat → ClassId)  {ms : (Nat → Int32)} {mb : (Nat → Int32)} {my : (Nat → Int32)} {mt : (Nat → Int32)} {mw : (Nat → Int32)} {ml : (Nat → Int32)} {mo : (Nat → Int32)} {gm : Int32} {gs : Int32} {ga : Int32} {gg : Int32} {gb : Int32} {gu : Int32} {gh : Int32} {gk : Int32} {gl : Int32} {gn : Int32} {gt : Int32}  (Q : Int32 → Int32 → Int32 → Int32 → Prop) (h : F_X6_base my gs ga gb gk Q) : Met l yX6_base wsX6_base rmX6_base (va_Pc [.ref (ad 0)] (OKX D (tysX cA) (WM ad cA ms mb my mt mw ml mo gm gs ga gg gb gu gh gk gl gn gt) A)) (QC_X6_base D A ad cA ms mb my mt mw ml mo gm gs gg gu gh gl gn gt Q) 0 0 A :=
  g_met (own := RX6) (by decide) rfl rfl (Nat.le_of_ble_eq_true rfl) (fun p e s m below meth c C hrt9 hlk _ => g_sub [0] rfl (t_B_X6_base_0 C hrt9 hlk  ga gb gk  h))
theorem k_X6_base {ws : List Cond} {own : String} {cc : ByteArray} {nL pc index : Nat} {lv : List (Nat × Value)} {st : List Value} {Q : State → Prop} {R : Room} {K : Int32 → Int32 → Int32 → Int32 → Prop}  (C : CxX p s m args c D (tysX cA) own cc nL ws) (hT : GoodIn ws (wsV own index RX6 yX6_base wsX6_base)) (hR : rmX6_base.frames + 1 ≤ R.frames ∧ 8 + (1 + 11) + rmX6_base.locals ≤ R.locals) (hcat : (st.map fun v => v.category).sum ≤ 8) (hdg : decode cc pc = .ok (.invokevirtual index, 3))  (h : F_X6_base my gs ga gb gk K) (kk : ∀ (r : Int32) (gaq : Int32) (gbq : Int32) (gkq : Int32), K r gaq gbq gkq → GoX p l e R s m args below meth c D A nL 0 0 Q (pc + 3) lv (.int r :: st) (WM ad cA ms mb my mt mw ml mo gm gs gaq gg gbq gu gh gkq gl gn gt)) : GoX p l e R s m args below meth c D A nL 0 0 Q pc lv (.ref (ad 0) :: st) (WM ad cA ms mb my mt mw ml mo gm gs ga gg gb gu gh gk gl gn gt) :=
  g_callVi C (As := []) 0 (c_X6_base l D A ad cA   K h) hT rfl rfl rfl (by decide +kernel) hR 0 WMg0 rfl rfl rfl hcat hdg (fun r u hu => kk r u.1 u.2.1 u.2.2 hu)
/-! X6_plus -/
abbrev rmX6_plus : Room := { frames := 2, cells := 0, slots := 0, locals := 43 }
abbrev QC_X6_plus (D : va_G) (A : Nat → Prop) (ad : Nat → Nat) (cA : Nat → ClassId) (ms : (Nat → Int32)) (mb : (Nat → Int32)) (my : (Nat → Int32)) (mt : (Nat → Int32)) (mw : (Nat → Int32)) (ml : (Nat → Int32)) (mo : (Nat → Int32)) (gm : Int32) (gs : Int32) (gg : Int32) (gb : Int32) (gh : Int32) (gk : Int32) (gl : Int32) (gn : Int32) (gt : Int32) (Q : Int32 → Int32 → Int32 → Prop) : Array Value → State → Outcome → State → Prop := va_Qi (fun (r : Int32) (u : Int32 × Int32) => Q r u.1 u.2) (fun u t => OKX D (tysX cA) ((fun u : Int32 × Int32 => WM ad cA ms mb my mt mw ml mo gm gs u.1 gg gb u.2 gh gk gl gn gt) u) A t) A
abbrev QP_X6_plus (D : va_G) (A : Nat → Prop) (ad : Nat → Nat) (cA : Nat → ClassId) (ms : (Nat → Int32)) (mb : (Nat → Int32)) (my : (Nat → Int32)) (mt : (Nat → Int32)) (mw : (Nat → Int32)) (ml : (Nat → Int32)) (mo : (Nat → Int32)) (gm : Int32) (gs : Int32) (gg : Int32) (gb : Int32) (gh : Int32) (gk : Int32) (gl : Int32) (gn : Int32) (gt : Int32) (Q : Int32 → Int32 → Int32 → Prop) (below : List Frame) (args : Array Value) (s : State) : State → Prop := MQ below (QC_X6_plus D A ad cA ms mb my mt mw ml mo gm gs gg gb gh gk gl gn gt Q) args s 0 0 A
def B_X6_plus_33  (Q : Int32 → Int32 → Int32 → Prop) (my : (Nat → Int32)) (gs : Int32) (s0 : Int32) (ga : Int32) (gu : Int32) : Prop := (isBo s0 ∧ (Q s0 ga gu))
def B_X6_plus_0  (Q : Int32 → Int32 → Int32 → Prop) (my : (Nat → Int32)) (gs : Int32)  (ga : Int32) (gu : Int32) : Prop := (F_X6_accepts (43 : Int32) my gs ga (fun r_1 ga_2 => ((r_1 = 0 → (Q (1 : Int32) ga_2 gu)) ∧ (¬ r_1 = 0 → (F_X6_unitFrom (97 : Int32) my gs ga_2 (fun r_4 ga_5 => ((r_4 ≤ 0 → (B_X6_plus_33  Q my gs (0 : Int32) ga_5 r_4)) ∧ (¬ r_4 ≤ 0 → (B_X6_plus_33  Q my gs (1 : Int32) ga_5 r_4)))))))))
def F_X6_plus  (my : (Nat → Int32)) (gs : Int32) (ga : Int32) (gu : Int32) (Q : Int32 → Int32 → Int32 → Prop) : Prop := B_X6_plus_0 Q my gs  ga gu
theorem lkX6_plus_64 : Cond.fieldLink RX6 64 (TX6 12).1 (TX6 12).2.1 (TX6 12).2.2.1 ∈ wsX6_plus := by decide +kernel
theorem inX6_plus_6 : ∀ q ∈ u_ws RX6 TX6 18, q ∈ wsX6_plus := by decide +kernel
set_option maxHeartbeats 4000000 in
set_option maxRecDepth 100000 in
theorem t_B_X6_plus_33  {Q : Int32 → Int32 → Int32 → Prop} (C : CxX p s m args c D (tysX cA) RX6 cX6_plus 1 wsX6_plus) (hrt9 : meth.sig.returnType = (some .boolean)) (hlk : meth.locks = false) (s0 : Int32) (ga : Int32) (gu : Int32)  (h : B_X6_plus_33  Q my gs s0 ga gu) : GoX p l e rmX6_plus s m args below meth c D A 1 0 0 (QP_X6_plus D A ad cA ms mb my mt mw ml mo gm gs gg gb gh gk gl gn gt Q below args s) 33 [] [.int s0] (WM ad cA ms mb my mt mw ml mo gm gs ga gg gb gu gh gk gl gn gt) := by
  replace h : (isBo s0 ∧ (Q s0 ga gu)) := h
  exact g_zret C hrt9 hlk h.1.n (u := (ga, gu)) rfl h.2 dX6_plus_33
set_option maxHeartbeats 4000000 in
set_option maxRecDepth 100000 in
theorem t_B_X6_plus_0  {Q : Int32 → Int32 → Int32 → Prop} (C : CxX p s m args c D (tysX cA) RX6 cX6_plus 1 wsX6_plus) (hrt9 : meth.sig.returnType = (some .boolean)) (hlk : meth.locks = false)  (ga : Int32) (gu : Int32)  (h : B_X6_plus_0  Q my gs ga gu) : GoX p l e rmX6_plus s m args below meth c D A 1 0 0 (QP_X6_plus D A ad cA ms mb my mt mw ml mo gm gs gg gb gh gk gl gn gt Q below args s) 0 [(0, .ref (ad 0))] [] (WM ad cA ms mb my mt mw ml mo gm gs ga gg gb gu gh gk gl gn gt) := by
  replace h : (F_X6_accepts (43 : Int32) my gs ga (fun r_1 ga_2 => ((r_1 = 0 → (Q (1 : Int32) ga_2 gu)) ∧ (¬ r_1 = 0 → (F_X6_unitFrom (97 : Int32) my gs ga_2 (fun r_4 ga_5 => ((r_4 ≤ 0 → (B_X6_plus_33  Q my gs (0 : Int32) ga_5 r_4)) ∧ (¬ r_4 ≤ 0 → (B_X6_plus_33  Q my gs (1 : Int32) ga_5 r_4))))))))) := h
  refine g_aload_n C 0 dX6_plus_0 rfl rfl ?_
  refine g_bipush C (43 : Int32) dX6_plus_1 (by decide) ?_
  refine k_X6_accepts C gX6_plus_X6_accepts ⟨Nat.le_of_ble_eq_true rfl, Nat.le_of_ble_eq_true rfl⟩ (Nat.le_of_ble_eq_true rfl) dX6_plus_3  h (fun r_1 ga_2 h => ?_)
  refine g_if_ne C 11 dX6_plus_6 (by decide) (fun c_3 => ?_) (fun c_3 => ?_)
  · replace h := h.2 c_3
    refine g_aload_n C 0 dX6_plus_11 rfl rfl ?_
    refine g_aload_n C 0 dX6_plus_12 rfl rfl ?_
    refine g_bipush C (97 : Int32) dX6_plus_13 (by decide) ?_
    refine k_X6_unitFrom C gX6_plus_X6_unitFrom ⟨Nat.le_of_ble_eq_true rfl, Nat.le_of_ble_eq_true rfl⟩ (Nat.le_of_ble_eq_true rfl) dX6_plus_15  h (fun r_4 ga_5 h => ?_)
    refine g_put C inX6_plus_6 tyX6 tyX6_ok nmX6 0 WMg0 rfl 12 (by decide) lkX6_plus_64 rfl rfl rfl (Nat.le_of_ble_eq_true rfl) (WMs_gu) dX6_plus_18 ?_
    refine g_aload_n C 0 dX6_plus_21 rfl rfl ?_
    refine g_get C inX6_plus_6 0 WMg0 rfl 12 (by decide) lkX6_plus_64 rfl dX6_plus_22 ?_
    refine g_if_le C 32 dX6_plus_25 (by decide) (fun c_6 => ?_) (fun c_6 => ?_)
    · replace h := h.1 c_6
      refine g_iconst C (0 : Int32) dX6_plus_32 (by decide) ?_
      exact g_sub [] rfl (t_B_X6_plus_33 C hrt9 hlk  (0 : Int32) ga_5 r_4  h)
    · replace h := h.2 c_6
      refine g_iconst C (1 : Int32) dX6_plus_28 (by decide) ?_
      refine g_goto C 33 dX6_plus_29 (by decide) ?_
      exact g_sub [] rfl (t_B_X6_plus_33 C hrt9 hlk  (1 : Int32) ga_5 r_4  h)
  · replace h := h.1 c_3
    refine g_iconst C (1 : Int32) dX6_plus_9 (by decide) ?_
    exact g_zret C hrt9 hlk rfl (u := (ga_2, gu)) rfl h dX6_plus_10
theorem c_X6_plus (l : Launch) (D : va_G) (A : Nat → Prop) (ad : Nat → Nat) (cA : Nat → ClassId)  {ms : (Nat → Int32)} {mb : (Nat → Int32)} {my : (Nat → Int32)} {mt : (Nat → Int32)} {mw : (Nat → Int32)} {ml : (Nat → Int32)} {mo : (Nat → Int32)} {gm : Int32} {gs : Int32} {ga : Int32} {gg : Int32} {gb : Int32} {gu : Int32} {gh : Int32} {gk : Int32} {gl : Int32} {gn : Int32} {gt : Int32}  (Q : Int32 → Int32 → Int32 → Prop) (h : F_X6_plus my gs ga gu Q) : Met l yX6_plus wsX6_plus rmX6_plus (va_Pc [.ref (ad 0)] (OKX D (tysX cA) (WM ad cA ms mb my mt mw ml mo gm gs ga gg gb gu gh gk gl gn gt) A)) (QC_X6_plus D A ad cA ms mb my mt mw ml mo gm gs gg gb gh gk gl gn gt Q) 0 0 A :=
  g_met (own := RX6) (by decide) rfl rfl (Nat.le_of_ble_eq_true rfl) (fun p e s m below meth c C hrt9 hlk _ => g_sub [0] rfl (t_B_X6_plus_0 C hrt9 hlk  ga gu  h))
theorem k_X6_plus {ws : List Cond} {own : String} {cc : ByteArray} {nL pc index : Nat} {lv : List (Nat × Value)} {st : List Value} {Q : State → Prop} {R : Room} {K : Int32 → Int32 → Int32 → Prop}  (C : CxX p s m args c D (tysX cA) own cc nL ws) (hT : GoodIn ws (wsV own index RX6 yX6_plus wsX6_plus)) (hR : rmX6_plus.frames + 1 ≤ R.frames ∧ 8 + (1 + 11) + rmX6_plus.locals ≤ R.locals) (hcat : (st.map fun v => v.category).sum ≤ 8) (hdg : decode cc pc = .ok (.invokevirtual index, 3))  (h : F_X6_plus my gs ga gu K) (kk : ∀ (r : Int32) (gaq : Int32) (guq : Int32), K r gaq guq → GoX p l e R s m args below meth c D A nL 0 0 Q (pc + 3) lv (.int r :: st) (WM ad cA ms mb my mt mw ml mo gm gs gaq gg gb guq gh gk gl gn gt)) : GoX p l e R s m args below meth c D A nL 0 0 Q pc lv (.ref (ad 0) :: st) (WM ad cA ms mb my mt mw ml mo gm gs ga gg gb gu gh gk gl gn gt) :=
  g_callVi C (As := []) 0 (c_X6_plus l D A ad cA   K h) hT rfl rfl rfl (by decide +kernel) hR 0 WMg0 rfl rfl rfl hcat hdg (fun r u hu => kk r u.1 u.2 hu)
/-! X6_smallFrom -/
abbrev rmX6_smallFrom : Room := { frames := 3, cells := 0, slots := 0, locals := 63 }
abbrev QC_X6_smallFrom (D : va_G) (A : Nat → Prop) (ad : Nat → Nat) (cA : Nat → ClassId) (ms : (Nat → Int32)) (mb : (Nat → Int32)) (my : (Nat → Int32)) (mt : (Nat → Int32)) (mw : (Nat → Int32)) (ml : (Nat → Int32)) (mo : (Nat → Int32)) (gm : Int32) (gs : Int32) (gg : Int32) (gh : Int32) (gn : Int32) (gt : Int32) (Q : Int32 → Int32 → Int32 → Int32 → Int32 → Int32 → Prop) : Array Value → State → Outcome → State → Prop := va_Qi (fun (r : Int32) (u : Int32 × Int32 × Int32 × Int32 × Int32) => Q r u.1 u.2.1 u.2.2.1 u.2.2.2.1 u.2.2.2.2) (fun u t => OKX D (tysX cA) ((fun u : Int32 × Int32 × Int32 × Int32 × Int32 => WM ad cA ms mb my mt mw ml mo gm gs u.1 gg u.2.1 u.2.2.1 gh u.2.2.2.1 u.2.2.2.2 gn gt) u) A t) A
abbrev QP_X6_smallFrom (D : va_G) (A : Nat → Prop) (ad : Nat → Nat) (cA : Nat → ClassId) (ms : (Nat → Int32)) (mb : (Nat → Int32)) (my : (Nat → Int32)) (mt : (Nat → Int32)) (mw : (Nat → Int32)) (ml : (Nat → Int32)) (mo : (Nat → Int32)) (gm : Int32) (gs : Int32) (gg : Int32) (gh : Int32) (gn : Int32) (gt : Int32) (Q : Int32 → Int32 → Int32 → Int32 → Int32 → Int32 → Prop) (below : List Frame) (args : Array Value) (s : State) : State → Prop := MQ below (QC_X6_smallFrom D A ad cA ms mb my mt mw ml mo gm gs gg gh gn gt Q) args s 0 0 A
def B_X6_smallFrom_58  (Q : Int32 → Int32 → Int32 → Int32 → Int32 → Int32 → Prop) (my : (Nat → Int32)) (gs : Int32) (s0 : Int32) (ga : Int32) (gb : Int32) (gu : Int32) (gk : Int32) (gl : Int32) : Prop := (isBo s0 ∧ (Q s0 ga gb gu gk gl))
def B_X6_smallFrom_53  (Q : Int32 → Int32 → Int32 → Int32 → Int32 → Int32 → Prop) (my : (Nat → Int32)) (gs : Int32)  (ga : Int32) (gb : Int32) (gu : Int32) (gk : Int32) (gl : Int32) : Prop := (B_X6_smallFrom_58  Q my gs (1 : Int32) ga gb gu gk gl)
def B_X6_smallFrom_24  (Q : Int32 → Int32 → Int32 → Int32 → Int32 → Int32 → Prop) (my : (Nat → Int32)) (gs : Int32) (v1 : Int32) (ga : Int32) (gb : Int32) (gu : Int32) (gk : Int32) (gl : Int32) : Prop := (F_X6_accepts (45 : Int32) my gs ga (fun r_1 ga_2 => (isBo r_1 ∧ ((r_1 = 0 → (B_X6_smallFrom_53  Q my gs ga_2 gb v1 gk r_1)) ∧ (¬ r_1 = 0 → (F_X6_base my gs ga_2 gb gk (fun r_4 ga_5 gb_6 gk_7 => ((r_4 = 0 → (B_X6_smallFrom_58  Q my gs (0 : Int32) ga_5 gb_6 v1 gk_7 r_1)) ∧ (¬ r_4 = 0 → (B_X6_smallFrom_53  Q my gs ga_5 gb_6 v1 gk_7 r_1))))))))))
def B_X6_smallFrom_0  (Q : Int32 → Int32 → Int32 → Int32 → Int32 → Int32 → Prop) (my : (Nat → Int32)) (gs : Int32) (v1 : Int32) (ga : Int32) (gb : Int32) (gu : Int32) (gk : Int32) (gl : Int32) : Prop := ((v1 ≤ (1 : Int32) → (B_X6_smallFrom_24  Q my gs v1 ga gb gu gk gl)) ∧ (¬ v1 ≤ (1 : Int32) → (F_X6_accepts (83 : Int32) my gs ga (fun r_10 ga_11 => ((r_10 = 0 → (B_X6_smallFrom_24  Q my gs v1 ga_11 gb gu gk gl)) ∧ (¬ r_10 = 0 → (F_X6_plus my gs ga_11 gu (fun r_13 ga_14 gu_15 => (isBo r_13 ∧ (Q r_13 ga_14 v1 gu_15 gk gl))))))))))
def F_X6_smallFrom (v1 : Int32) (my : (Nat → Int32)) (gs : Int32) (ga : Int32) (gb : Int32) (gu : Int32) (gk : Int32) (gl : Int32) (Q : Int32 → Int32 → Int32 → Int32 → Int32 → Int32 → Prop) : Prop := B_X6_smallFrom_0 Q my gs v1 ga gb gu gk gl
theorem lkX6_smallFrom_53 : Cond.fieldLink RX6 53 (TX6 11).1 (TX6 11).2.1 (TX6 11).2.2.1 ∈ wsX6_smallFrom := by decide +kernel
theorem lkX6_smallFrom_71 : Cond.fieldLink RX6 71 (TX6 15).1 (TX6 15).2.1 (TX6 15).2.2.1 ∈ wsX6_smallFrom := by decide +kernel
theorem lkX6_smallFrom_64 : Cond.fieldLink RX6 64 (TX6 12).1 (TX6 12).2.1 (TX6 12).2.2.1 ∈ wsX6_smallFrom := by decide +kernel
theorem inX6_smallFrom_6 : ∀ q ∈ u_ws RX6 TX6 18, q ∈ wsX6_smallFrom := by decide +kernel
set_option maxHeartbeats 4000000 in
set_option maxRecDepth 100000 in
theorem t_B_X6_smallFrom_58  {Q : Int32 → Int32 → Int32 → Int32 → Int32 → Int32 → Prop} (C : CxX p s m args c D (tysX cA) RX6 cX6_smallFrom 2 wsX6_smallFrom) (hrt9 : meth.sig.returnType = (some .boolean)) (hlk : meth.locks = false) (s0 : Int32) (ga : Int32) (gb : Int32) (gu : Int32) (gk : Int32) (gl : Int32)  (h : B_X6_smallFrom_58  Q my gs s0 ga gb gu gk gl) : GoX p l e rmX6_smallFrom s m args below meth c D A 2 0 0 (QP_X6_smallFrom D A ad cA ms mb my mt mw ml mo gm gs gg gh gn gt Q below args s) 58 [] [.int s0] (WM ad cA ms mb my mt mw ml mo gm gs ga gg gb gu gh gk gl gn gt) := by
  replace h : (isBo s0 ∧ (Q s0 ga gb gu gk gl)) := h
  exact g_zret C hrt9 hlk h.1.n (u := (ga, gb, gu, gk, gl)) rfl h.2 dX6_smallFrom_58
set_option maxHeartbeats 4000000 in
set_option maxRecDepth 100000 in
theorem t_B_X6_smallFrom_53  {Q : Int32 → Int32 → Int32 → Int32 → Int32 → Int32 → Prop} (C : CxX p s m args c D (tysX cA) RX6 cX6_smallFrom 2 wsX6_smallFrom) (hrt9 : meth.sig.returnType = (some .boolean)) (hlk : meth.locks = false)  (ga : Int32) (gb : Int32) (gu : Int32) (gk : Int32) (gl : Int32)  (h : B_X6_smallFrom_53  Q my gs ga gb gu gk gl) : GoX p l e rmX6_smallFrom s m args below meth c D A 2 0 0 (QP_X6_smallFrom D A ad cA ms mb my mt mw ml mo gm gs gg gh gn gt Q below args s) 53 [] [] (WM ad cA ms mb my mt mw ml mo gm gs ga gg gb gu gh gk gl gn gt) := by
  replace h : (B_X6_smallFrom_58  Q my gs (1 : Int32) ga gb gu gk gl) := h
  refine g_iconst C (1 : Int32) dX6_smallFrom_53 (by decide) ?_
  refine g_goto C 58 dX6_smallFrom_54 (by decide) ?_
  exact g_sub [] rfl (t_B_X6_smallFrom_58 C hrt9 hlk  (1 : Int32) ga gb gu gk gl  h)
set_option maxHeartbeats 4000000 in
set_option maxRecDepth 100000 in
theorem t_B_X6_smallFrom_24  {Q : Int32 → Int32 → Int32 → Int32 → Int32 → Int32 → Prop} (C : CxX p s m args c D (tysX cA) RX6 cX6_smallFrom 2 wsX6_smallFrom) (hrt9 : meth.sig.returnType = (some .boolean)) (hlk : meth.locks = false) (v1 : Int32) (ga : Int32) (gb : Int32) (gu : Int32) (gk : Int32) (gl : Int32)  (h : B_X6_smallFrom_24  Q my gs v1 ga gb gu gk gl) : GoX p l e rmX6_smallFrom s m args below meth c D A 2 0 0 (QP_X6_smallFrom D A ad cA ms mb my mt mw ml mo gm gs gg gh gn gt Q below args s) 24 [(0, .ref (ad 0)), (1, .int v1)] [] (WM ad cA ms mb my mt mw ml mo gm gs ga gg gb gu gh gk gl gn gt) := by
  replace h : (F_X6_accepts (45 : Int32) my gs ga (fun r_1 ga_2 => (isBo r_1 ∧ ((r_1 = 0 → (B_X6_smallFrom_53  Q my gs ga_2 gb v1 gk r_1)) ∧ (¬ r_1 = 0 → (F_X6_base my gs ga_2 gb gk (fun r_4 ga_5 gb_6 gk_7 => ((r_4 = 0 → (B_X6_smallFrom_58  Q my gs (0 : Int32) ga_5 gb_6 v1 gk_7 r_1)) ∧ (¬ r_4 = 0 → (B_X6_smallFrom_53  Q my gs ga_5 gb_6 v1 gk_7 r_1)))))))))) := h
  refine g_aload_n C 0 dX6_smallFrom_24 rfl rfl ?_
  refine g_iload_n C 1 dX6_smallFrom_25 rfl rfl ?_
  refine g_put C inX6_smallFrom_6 tyX6 tyX6_ok nmX6 0 WMg0 rfl 12 (by decide) lkX6_smallFrom_64 rfl rfl rfl (Nat.le_of_ble_eq_true rfl) (WMs_gu) dX6_smallFrom_26 ?_
  refine g_aload_n C 0 dX6_smallFrom_29 rfl rfl ?_
  refine g_aload_n C 0 dX6_smallFrom_30 rfl rfl ?_
  refine g_bipush C (45 : Int32) dX6_smallFrom_31 (by decide) ?_
  refine k_X6_accepts C gX6_smallFrom_X6_accepts ⟨Nat.le_of_ble_eq_true rfl, Nat.le_of_ble_eq_true rfl⟩ (Nat.le_of_ble_eq_true rfl) dX6_smallFrom_33  h (fun r_1 ga_2 h => ?_)
  refine g_put C inX6_smallFrom_6 tyX6 tyX6_ok nmX6 0 WMg0 rfl 15 (by decide) lkX6_smallFrom_71 rfl h.1.n h.1.f (Nat.le_of_ble_eq_true rfl) (WMs_gl) dX6_smallFrom_36 ?_
  replace h := h.2
  refine g_aload_n C 0 dX6_smallFrom_39 rfl rfl ?_
  refine g_get C inX6_smallFrom_6 0 WMg0 rfl 15 (by decide) lkX6_smallFrom_71 rfl dX6_smallFrom_40 ?_
  refine g_if_eq C 53 dX6_smallFrom_43 (by decide) (fun c_3 => ?_) (fun c_3 => ?_)
  · replace h := h.1 c_3
    exact g_sub [] rfl (t_B_X6_smallFrom_53 C hrt9 hlk  ga_2 gb v1 gk r_1  h)
  · replace h := h.2 c_3
    refine g_aload_n C 0 dX6_smallFrom_46 rfl rfl ?_
    refine k_X6_base C gX6_smallFrom_X6_base ⟨Nat.le_of_ble_eq_true rfl, Nat.le_of_ble_eq_true rfl⟩ (Nat.le_of_ble_eq_true rfl) dX6_smallFrom_47  h (fun r_4 ga_5 gb_6 gk_7 h => ?_)
    refine g_if_eq C 57 dX6_smallFrom_50 (by decide) (fun c_8 => ?_) (fun c_8 => ?_)
    · replace h := h.1 c_8
      refine g_iconst C (0 : Int32) dX6_smallFrom_57 (by decide) ?_
      exact g_sub [] rfl (t_B_X6_smallFrom_58 C hrt9 hlk  (0 : Int32) ga_5 gb_6 v1 gk_7 r_1  h)
    · replace h := h.2 c_8
      exact g_sub [] rfl (t_B_X6_smallFrom_53 C hrt9 hlk  ga_5 gb_6 v1 gk_7 r_1  h)
set_option maxHeartbeats 4000000 in
set_option maxRecDepth 100000 in
theorem t_B_X6_smallFrom_0  {Q : Int32 → Int32 → Int32 → Int32 → Int32 → Int32 → Prop} (C : CxX p s m args c D (tysX cA) RX6 cX6_smallFrom 2 wsX6_smallFrom) (hrt9 : meth.sig.returnType = (some .boolean)) (hlk : meth.locks = false) (v1 : Int32) (ga : Int32) (gb : Int32) (gu : Int32) (gk : Int32) (gl : Int32)  (h : B_X6_smallFrom_0  Q my gs v1 ga gb gu gk gl) : GoX p l e rmX6_smallFrom s m args below meth c D A 2 0 0 (QP_X6_smallFrom D A ad cA ms mb my mt mw ml mo gm gs gg gh gn gt Q below args s) 0 [(0, .ref (ad 0)), (1, .int v1)] [] (WM ad cA ms mb my mt mw ml mo gm gs ga gg gb gu gh gk gl gn gt) := by
  replace h : ((v1 ≤ (1 : Int32) → (B_X6_smallFrom_24  Q my gs v1 ga gb gu gk gl)) ∧ (¬ v1 ≤ (1 : Int32) → (F_X6_accepts (83 : Int32) my gs ga (fun r_10 ga_11 => ((r_10 = 0 → (B_X6_smallFrom_24  Q my gs v1 ga_11 gb gu gk gl)) ∧ (¬ r_10 = 0 → (F_X6_plus my gs ga_11 gu (fun r_13 ga_14 gu_15 => (isBo r_13 ∧ (Q r_13 ga_14 v1 gu_15 gk gl)))))))))) := h
  refine g_iload_n C 1 dX6_smallFrom_0 rfl rfl ?_
  refine g_iconst C (1 : Int32) dX6_smallFrom_1 (by decide) ?_
  refine g_icmp_le C 24 dX6_smallFrom_2 (by decide) (fun c_9 => ?_) (fun c_9 => ?_)
  · replace h := h.1 c_9
    exact g_sub [0, 1] rfl (t_B_X6_smallFrom_24 C hrt9 hlk  v1 ga gb gu gk gl  h)
  · replace h := h.2 c_9
    refine g_aload_n C 0 dX6_smallFrom_5 rfl rfl ?_
    refine g_bipush C (83 : Int32) dX6_smallFrom_6 (by decide) ?_
    refine k_X6_accepts C gX6_smallFrom_X6_accepts ⟨Nat.le_of_ble_eq_true rfl, Nat.le_of_ble_eq_true rfl⟩ (Nat.le_of_ble_eq_true rfl) dX6_smallFrom_8  h (fun r_10 ga_11 h => ?_)
    refine g_if_eq C 24 dX6_smallFrom_11 (by decide) (fun c_12 => ?_) (fun c_12 => ?_)
    · replace h := h.1 c_12
      exact g_sub [0, 1] rfl (t_B_X6_smallFrom_24 C hrt9 hlk  v1 ga_11 gb gu gk gl  h)
    · replace h := h.2 c_12
      refine g_aload_n C 0 dX6_smallFrom_14 rfl rfl ?_
      refine g_iload_n C 1 dX6_smallFrom_15 rfl rfl ?_
      refine g_put C inX6_smallFrom_6 tyX6 tyX6_ok nmX6 0 WMg0 rfl 11 (by decide) lkX6_smallFrom_53 rfl rfl rfl (Nat.le_of_ble_eq_true rfl) (WMs_gb) dX6_smallFrom_16 ?_
      refine g_aload_n C 0 dX6_smallFrom_19 rfl rfl ?_
      refine k_X6_plus C gX6_smallFrom_X6_plus ⟨Nat.le_of_ble_eq_true rfl, Nat.le_of_ble_eq_true rfl⟩ (Nat.le_of_ble_eq_true rfl) dX6_smallFrom_20  h (fun r_13 ga_14 gu_15 h => ?_)
      exact g_zret C hrt9 hlk h.1.n (u := (ga_14, v1, gu_15, gk, gl)) rfl h.2 dX6_smallFrom_23
theorem c_X6_smallFrom (l : Launch) (D : va_G) (A : Nat → Prop) (ad : Nat → Nat) (cA : Nat → ClassId) (v1 : Int32) {ms : (Nat → Int32)} {mb : (Nat → Int32)} {my : (Nat → Int32)} {mt : (Nat → Int32)} {mw : (Nat → Int32)} {ml : (Nat → Int32)} {mo : (Nat → Int32)} {gm : Int32} {gs : Int32} {ga : Int32} {gg : Int32} {gb : Int32} {gu : Int32} {gh : Int32} {gk : Int32} {gl : Int32} {gn : Int32} {gt : Int32}  (Q : Int32 → Int32 → Int32 → Int32 → Int32 → Int32 → Prop) (h : F_X6_smallFrom v1 my gs ga gb gu gk gl Q) : Met l yX6_smallFrom wsX6_smallFrom rmX6_smallFrom (va_Pc [.ref (ad 0), .int v1] (OKX D (tysX cA) (WM ad cA ms mb my mt mw ml mo gm gs ga gg gb gu gh gk gl gn gt) A)) (QC_X6_smallFrom D A ad cA ms mb my mt mw ml mo gm gs gg gh gn gt Q) 0 0 A :=
  g_met (own := RX6) (by decide) rfl rfl (Nat.le_of_ble_eq_true rfl) (fun p e s m below meth c C hrt9 hlk _ => g_sub [0, 1] rfl (t_B_X6_smallFrom_0 C hrt9 hlk v1 ga gb gu gk gl  h))
theorem k_X6_smallFrom {ws : List Cond} {own : String} {cc : ByteArray} {nL pc index : Nat} {lv : List (Nat × Value)} {st : List Value} {Q : State → Prop} {R : Room} {K : Int32 → Int32 → Int32 → Int32 → Int32 → Int32 → Prop} {v1 : Int32} (C : CxX p s m args c D (tysX cA) own cc nL ws) (hT : GoodIn ws (wsV own index RX6 yX6_smallFrom wsX6_smallFrom)) (hR : rmX6_smallFrom.frames + 1 ≤ R.frames ∧ 8 + (2 + 11) + rmX6_smallFrom.locals ≤ R.locals) (hcat : (st.map fun v => v.category).sum ≤ 8) (hdg : decode cc pc = .ok (.invokevirtual index, 3))  (h : F_X6_smallFrom v1 my gs ga gb gu gk gl K) (kk : ∀ (r : Int32) (gaq : Int32) (gbq : Int32) (guq : Int32) (gkq : Int32) (glq : Int32), K r gaq gbq guq gkq glq → GoX p l e R s m args below meth c D A nL 0 0 Q (pc + 3) lv (.int r :: st) (WM ad cA ms mb my mt mw ml mo gm gs gaq gg gbq guq gh gkq glq gn gt)) : GoX p l e R s m args below meth c D A nL 0 0 Q pc lv (.int v1 :: .ref (ad 0) :: st) (WM ad cA ms mb my mt mw ml mo gm gs ga gg gb gu gh gk gl gn gt) :=
  g_callVi C (As := [.int v1]) 1 (c_X6_smallFrom l D A ad cA v1  K h) hT rfl rfl rfl (by decide +kernel) hR 0 WMg0 rfl rfl rfl hcat hdg (fun r u hu => kk r u.1 u.2.1 u.2.2.1 u.2.2.2.1 u.2.2.2.2 hu)
/-! X6_small -/
abbrev rmX6_small : Room := { frames := 4, cells := 0, slots := 0, locals := 84 }
abbrev QC_X6_small (D : va_G) (A : Nat → Prop) (ad : Nat → Nat) (cA : Nat → ClassId) (ms : (Nat → Int32)) (mb : (Nat → Int32)) (my : (Nat → Int32)) (mt : (Nat → Int32)) (mw : (Nat → Int32)) (ml : (Nat → Int32)) (mo : (Nat → Int32)) (gm : Int32) (gs : Int32) (gg : Int32) (gh : Int32) (gn : Int32) (gt : Int32) (Q : Int32 → Int32 → Int32 → Int32 → Int32 → Int32 → Prop) : Array Value → State → Outcome → State → Prop := va_Qi (fun (r : Int32) (u : Int32 × Int32 × Int32 × Int32 × Int32) => Q r u.1 u.2.1 u.2.2.1 u.2.2.2.1 u.2.2.2.2) (fun u t => OKX D (tysX cA) ((fun u : Int32 × Int32 × Int32 × Int32 × Int32 => WM ad cA ms mb my mt mw ml mo gm gs u.1 gg u.2.1 u.2.2.1 gh u.2.2.2.1 u.2.2.2.2 gn gt) u) A t) A
abbrev QP_X6_small (D : va_G) (A : Nat → Prop) (ad : Nat → Nat) (cA : Nat → ClassId) (ms : (Nat → Int32)) (mb : (Nat → Int32)) (my : (Nat → Int32)) (mt : (Nat → Int32)) (mw : (Nat → Int32)) (ml : (Nat → Int32)) (mo : (Nat → Int32)) (gm : Int32) (gs : Int32) (gg : Int32) (gh : Int32) (gn : Int32) (gt : Int32) (Q : Int32 → Int32 → Int32 → Int32 → Int32 → Int32 → Prop) (below : List Frame) (args : Array Value) (s : State) : State → Prop := MQ below (QC_X6_small D A ad cA ms mb my mt mw ml mo gm gs gg gh gn gt Q) args s 0 0 A
def B_X6_small_38  (Q : Int32 → Int32 → Int32 → Int32 → Int32 → Int32 → Prop) (my : (Nat → Int32)) (gs : Int32) (s0 : Int32) (ga : Int32) (gb : Int32) (gu : Int32) (gk : Int32) (gl : Int32) : Prop := (isBo s0 ∧ (Q s0 ga gb gu gk gl))
def B_X6_small_37  (Q : Int32 → Int32 → Int32 → Int32 → Int32 → Int32 → Prop) (my : (Nat → Int32)) (gs : Int32)  (ga : Int32) (gb : Int32) (gu : Int32) (gk : Int32) (gl : Int32) : Prop := (B_X6_small_38  Q my gs (0 : Int32) ga gb gu gk gl)
def B_X6_small_0  (Q : Int32 → Int32 → Int32 → Int32 → Int32 → Int32 → Prop) (my : (Nat → Int32)) (gs : Int32)  (ga : Int32) (gb : Int32) (gu : Int32) (gk : Int32) (gl : Int32) : Prop := (F_X6_unitFrom (97 : Int32) my gs ga (fun r_1 ga_2 => ((r_1 ≤ 0 → (F_X6_base my gs ga_2 gb gk (fun r_4 ga_5 gb_6 gk_7 => ((r_4 = 0 → (B_X6_small_37  Q my gs ga_5 gb_6 gu gk_7 gl)) ∧ (¬ r_4 = 0 → (F_X6_plus my gs ga_5 gu (fun r_9 ga_10 gu_11 => ((r_9 = 0 → (B_X6_small_37  Q my gs ga_10 gb_6 gu_11 gk_7 gl)) ∧ (¬ r_9 = 0 → (B_X6_small_38  Q my gs (1 : Int32) ga_10 gb_6 gu_11 gk_7 gl)))))))))) ∧ (¬ r_1 ≤ 0 → (F_X6_smallFrom r_1 my gs ga_2 gb gu gk gl (fun r_13 ga_14 gb_15 gu_16 gk_17 gl_18 => (B_X6_small_38  Q my gs r_13 ga_14 gb_15 gu_16 gk_17 gl_18)))))))
def F_X6_small  (my : (Nat → Int32)) (gs : Int32) (ga : Int32) (gb : Int32) (gu : Int32) (gk : Int32) (gl : Int32) (Q : Int32 → Int32 → Int32 → Int32 → Int32 → Int32 → Prop) : Prop := B_X6_small_0 Q my gs  ga gb gu gk gl
set_option maxHeartbeats 4000000 in
set_option maxRecDepth 100000 in
theorem t_B_X6_small_38  {Q : Int32 → Int32 → Int32 → Int32 → Int32 → Int32 → Prop} (C : CxX p s m args c D (tysX cA) RX6 cX6_small 2 wsX6_small) (hrt9 : meth.sig.returnType = (some .boolean)) (hlk : meth.locks = false) (s0 : Int32) (ga : Int32) (gb : Int32) (gu : Int32) (gk : Int32) (gl : Int32)  (h : B_X6_small_38  Q my gs s0 ga gb gu gk gl) : GoX p l e rmX6_small s m args below meth c D A 2 0 0 (QP_X6_small D A ad cA ms mb my mt mw ml mo gm gs gg gh gn gt Q below args s) 38 [] [.int s0] (WM ad cA ms mb my mt mw ml mo gm gs ga gg gb gu gh gk gl gn gt) := by
  replace h : (isBo s0 ∧ (Q s0 ga gb gu gk gl)) := h
  exact g_zret C hrt9 hlk h.1.n (u := (ga, gb, gu, gk, gl)) rfl h.2 dX6_small_38
set_option maxHeartbeats 4000000 in
set_option maxRecDepth 100000 in
theorem t_B_X6_small_37  {Q : Int32 → Int32 → Int32 → Int32 → Int32 → Int32 → Prop} (C : CxX p s m args c D (tysX cA) RX6 cX6_small 2 wsX6_small) (hrt9 : meth.sig.returnType = (some .boolean)) (hlk : meth.locks = false)  (ga : Int32) (gb : Int32) (gu : Int32) (gk : Int32) (gl : Int32)  (h : B_X6_small_37  Q my gs ga gb gu gk gl) : GoX p l e rmX6_small s m args below meth c D A 2 0 0 (QP_X6_small D A ad cA ms mb my mt mw ml mo gm gs gg gh gn gt Q below args s) 37 [] [] (WM ad cA ms mb my mt mw ml mo gm gs ga gg gb gu gh gk gl gn gt) := by
  replace h : (B_X6_small_38  Q my gs (0 : Int32) ga gb gu gk gl) := h
  refine g_iconst C (0 : Int32) dX6_small_37 (by decide) ?_
  exact g_sub [] rfl (t_B_X6_small_38 C hrt9 hlk  (0 : Int32) ga gb gu gk gl  h)
set_option maxHeartbeats 4000000 in
set_option maxRecDepth 100000 in
theorem t_B_X6_small_0  {Q : Int32 → Int32 → Int32 → Int32 → Int32 → Int32 → Prop} (C : CxX p s m args c D (tysX cA) RX6 cX6_small 2 wsX6_small) (hrt9 : meth.sig.returnType = (some .boolean)) (hlk : meth.locks = false)  (ga : Int32) (gb : Int32) (gu : Int32) (gk : Int32) (gl : Int32)  (h : B_X6_small_0  Q my gs ga gb gu gk gl) : GoX p l e rmX6_small s m args below meth c D A 2 0 0 (QP_X6_small D A ad cA ms mb my mt mw ml mo gm gs gg gh gn gt Q below args s) 0 [(0, .ref (ad 0))] [] (WM ad cA ms mb my mt mw ml mo gm gs ga gg gb gu gh gk gl gn gt) := by
  replace h : (F_X6_unitFrom (97 : Int32) my gs ga (fun r_1 ga_2 => ((r_1 ≤ 0 → (F_X6_base my gs ga_2 gb gk (fun r_4 ga_5 gb_6 gk_7 => ((r_4 = 0 → (B_X6_small_37  Q my gs ga_5 gb_6 gu gk_7 gl)) ∧ (¬ r_4 = 0 → (F_X6_plus my gs ga_5 gu (fun r_9 ga_10 gu_11 => ((r_9 = 0 → (B_X6_small_37  Q my gs ga_10 gb_6 gu_11 gk_7 gl)) ∧ (¬ r_9 = 0 → (B_X6_small_38  Q my gs (1 : Int32) ga_10 gb_6 gu_11 gk_7 gl)))))))))) ∧ (¬ r_1 ≤ 0 → (F_X6_smallFrom r_1 my gs ga_2 gb gu gk gl (fun r_13 ga_14 gb_15 gu_16 gk_17 gl_18 => (B_X6_small_38  Q my gs r_13 ga_14 gb_15 gu_16 gk_17 gl_18))))))) := h
  refine g_aload_n C 0 dX6_small_0 rfl rfl ?_
  refine g_bipush C (97 : Int32) dX6_small_1 (by decide) ?_
  refine k_X6_unitFrom C gX6_small_X6_unitFrom ⟨Nat.le_of_ble_eq_true rfl, Nat.le_of_ble_eq_true rfl⟩ (Nat.le_of_ble_eq_true rfl) dX6_small_3  h (fun r_1 ga_2 h => ?_)
  refine g_istore_n C (lv2 := [(1, .int r_1), (0, .ref (ad 0))]) dX6_small_6 rfl (by decide) rfl ?_
  refine g_iload_n C 0 dX6_small_7 rfl rfl ?_
  refine g_if_le C 19 dX6_small_8 (by decide) (fun c_3 => ?_) (fun c_3 => ?_)
  · replace h := h.1 c_3
    refine g_aload_n C 1 dX6_small_19 rfl rfl ?_
    refine k_X6_base C gX6_small_X6_base ⟨Nat.le_of_ble_eq_true rfl, Nat.le_of_ble_eq_true rfl⟩ (Nat.le_of_ble_eq_true rfl) dX6_small_20  h (fun r_4 ga_5 gb_6 gk_7 h => ?_)
    refine g_if_eq C 37 dX6_small_23 (by decide) (fun c_8 => ?_) (fun c_8 => ?_)
    · replace h := h.1 c_8
      exact g_sub [] rfl (t_B_X6_small_37 C hrt9 hlk  ga_5 gb_6 gu gk_7 gl  h)
    · replace h := h.2 c_8
      refine g_aload_n C 1 dX6_small_26 rfl rfl ?_
      refine k_X6_plus C gX6_small_X6_plus ⟨Nat.le_of_ble_eq_true rfl, Nat.le_of_ble_eq_true rfl⟩ (Nat.le_of_ble_eq_true rfl) dX6_small_27  h (fun r_9 ga_10 gu_11 h => ?_)
      refine g_if_eq C 37 dX6_small_30 (by decide) (fun c_12 => ?_) (fun c_12 => ?_)
      · replace h := h.1 c_12
        exact g_sub [] rfl (t_B_X6_small_37 C hrt9 hlk  ga_10 gb_6 gu_11 gk_7 gl  h)
      · replace h := h.2 c_12
        refine g_iconst C (1 : Int32) dX6_small_33 (by decide) ?_
        refine g_goto C 38 dX6_small_34 (by decide) ?_
        exact g_sub [] rfl (t_B_X6_small_38 C hrt9 hlk  (1 : Int32) ga_10 gb_6 gu_11 gk_7 gl  h)
  · replace h := h.2 c_3
    refine g_aload_n C 1 dX6_small_11 rfl rfl ?_
    refine g_iload_n C 0 dX6_small_12 rfl rfl ?_
    refine k_X6_smallFrom C gX6_small_X6_smallFrom ⟨Nat.le_of_ble_eq_true rfl, Nat.le_of_ble_eq_true rfl⟩ (Nat.le_of_ble_eq_true rfl) dX6_small_13  h (fun r_13 ga_14 gb_15 gu_16 gk_17 gl_18 h => ?_)
    refine g_goto C 38 dX6_small_16 (by decide) ?_
    exact g_sub [] rfl (t_B_X6_small_38 C hrt9 hlk  r_13 ga_14 gb_15 gu_16 gk_17 gl_18  h)
theorem c_X6_small (l : Launch) (D : va_G) (A : Nat → Prop) (ad : Nat → Nat) (cA : Nat → ClassId)  {ms : (Nat → Int32)} {mb : (Nat → Int32)} {my : (Nat → Int32)} {mt : (Nat → Int32)} {mw : (Nat → Int32)} {ml : (Nat → Int32)} {mo : (Nat → Int32)} {gm : Int32} {gs : Int32} {ga : Int32} {gg : Int32} {gb : Int32} {gu : Int32} {gh : Int32} {gk : Int32} {gl : Int32} {gn : Int32} {gt : Int32}  (Q : Int32 → Int32 → Int32 → Int32 → Int32 → Int32 → Prop) (h : F_X6_small my gs ga gb gu gk gl Q) : Met l yX6_small wsX6_small rmX6_small (va_Pc [.ref (ad 0)] (OKX D (tysX cA) (WM ad cA ms mb my mt mw ml mo gm gs ga gg gb gu gh gk gl gn gt) A)) (QC_X6_small D A ad cA ms mb my mt mw ml mo gm gs gg gh gn gt Q) 0 0 A :=
  g_met (own := RX6) (by decide) rfl rfl (Nat.le_of_ble_eq_true rfl) (fun p e s m below meth c C hrt9 hlk _ => g_sub [0] rfl (t_B_X6_small_0 C hrt9 hlk  ga gb gu gk gl  h))
theorem k_X6_small {ws : List Cond} {own : String} {cc : ByteArray} {nL pc index : Nat} {lv : List (Nat × Value)} {st : List Value} {Q : State → Prop} {R : Room} {K : Int32 → Int32 → Int32 → Int32 → Int32 → Int32 → Prop}  (C : CxX p s m args c D (tysX cA) own cc nL ws) (hT : GoodIn ws (wsV own index RX6 yX6_small wsX6_small)) (hR : rmX6_small.frames + 1 ≤ R.frames ∧ 8 + (2 + 11) + rmX6_small.locals ≤ R.locals) (hcat : (st.map fun v => v.category).sum ≤ 8) (hdg : decode cc pc = .ok (.invokevirtual index, 3))  (h : F_X6_small my gs ga gb gu gk gl K) (kk : ∀ (r : Int32) (gaq : Int32) (gbq : Int32) (guq : Int32) (gkq : Int32) (glq : Int32), K r gaq gbq guq gkq glq → GoX p l e R s m args below meth c D A nL 0 0 Q (pc + 3) lv (.int r :: st) (WM ad cA ms mb my mt mw ml mo gm gs gaq gg gbq guq gh gkq glq gn gt)) : GoX p l e R s m args below meth c D A nL 0 0 Q pc lv (.ref (ad 0) :: st) (WM ad cA ms mb my mt mw ml mo gm gs ga gg gb gu gh gk gl gn gt) :=
  g_callVi C (As := []) 0 (c_X6_small l D A ad cA   K h) hT rfl rfl rfl (by decide +kernel) hR 0 WMg0 rfl rfl rfl hcat hdg (fun r u hu => kk r u.1 u.2.1 u.2.2.1 u.2.2.2.1 u.2.2.2.2 hu)
/-! X6_and -/
abbrev rmX6_and : Room := { frames := 5, cells := 0, slots := 0, locals := 105 }
abbrev QC_X6_and (D : va_G) (A : Nat → Prop) (ad : Nat → Nat) (cA : Nat → ClassId) (ms : (Nat → Int32)) (mb : (Nat → Int32)) (my : (Nat → Int32)) (mt : (Nat → Int32)) (mw : (Nat → Int32)) (ml : (Nat → Int32)) (mo : (Nat → Int32)) (gm : Int32) (gs : Int32) (gg : Int32) (gh : Int32) (gn : Int32) (gt : Int32) (Q : Int32 → Int32 → Int32 → Int32 → Int32 → Int32 → Prop) : Array Value → State → Outcome → State → Prop := va_Qi (fun (r : Int32) (u : Int32 × Int32 × Int32 × Int32 × Int32) => Q r u.1 u.2.1 u.2.2.1 u.2.2.2.1 u.2.2.2.2) (fun u t => OKX D (tysX cA) ((fun u : Int32 × Int32 × Int32 × Int32 × Int32 => WM ad cA ms mb my mt mw ml mo gm gs u.1 gg u.2.1 u.2.2.1 gh u.2.2.2.1 u.2.2.2.2 gn gt) u) A t) A
abbrev QP_X6_and (D : va_G) (A : Nat → Prop) (ad : Nat → Nat) (cA : Nat → ClassId) (ms : (Nat → Int32)) (mb : (Nat → Int32)) (my : (Nat → Int32)) (mt : (Nat → Int32)) (mw : (Nat → Int32)) (ml : (Nat → Int32)) (mo : (Nat → Int32)) (gm : Int32) (gs : Int32) (gg : Int32) (gh : Int32) (gn : Int32) (gt : Int32) (Q : Int32 → Int32 → Int32 → Int32 → Int32 → Int32 → Prop) (below : List Frame) (args : Array Value) (s : State) : State → Prop := MQ below (QC_X6_and D A ad cA ms mb my mt mw ml mo gm gs gg gh gn gt Q) args s 0 0 A
def B_X6_and_21  (Q : Int32 → Int32 → Int32 → Int32 → Int32 → Int32 → Prop) (my : (Nat → Int32)) (gs : Int32) (s0 : Int32) (ga : Int32) (gb : Int32) (gu : Int32) (gk : Int32) (gl : Int32) : Prop := (isBo s0 ∧ (Q s0 ga gb gu gk gl))
def B_X6_and_16  (Q : Int32 → Int32 → Int32 → Int32 → Int32 → Int32 → Prop) (my : (Nat → Int32)) (gs : Int32)  (ga : Int32) (gb : Int32) (gu : Int32) (gk : Int32) (gl : Int32) : Prop := (B_X6_and_21  Q my gs (1 : Int32) ga gb gu gk gl)
def B_X6_and_0  (Q : Int32 → Int32 → Int32 → Int32 → Int32 → Int32 → Prop) (my : (Nat → Int32)) (gs : Int32)  (ga : Int32) (gb : Int32) (gu : Int32) (gk : Int32) (gl : Int32) : Prop := (F_X6_accepts (38 : Int32) my gs ga (fun r_1 ga_2 => ((r_1 = 0 → (B_X6_and_16  Q my gs ga_2 gb gu gk gl)) ∧ (¬ r_1 = 0 → (F_X6_small my gs ga_2 gb gu gk gl (fun r_4 ga_5 gb_6 gu_7 gk_8 gl_9 => ((r_4 = 0 → (B_X6_and_21  Q my gs (0 : Int32) ga_5 gb_6 gu_7 gk_8 gl_9)) ∧ (¬ r_4 = 0 → (B_X6_and_16  Q my gs ga_5 gb_6 gu_7 gk_8 gl_9)))))))))
def F_X6_and  (my : (Nat → Int32)) (gs : Int32) (ga : Int32) (gb : Int32) (gu : Int32) (gk : Int32) (gl : Int32) (Q : Int32 → Int32 → Int32 → Int32 → Int32 → Int32 → Prop) : Prop := B_X6_and_0 Q my gs  ga gb gu gk gl
set_option maxHeartbeats 4000000 in
set_option maxRecDepth 100000 in
theorem t_B_X6_and_21  {Q : Int32 → Int32 → Int32 → Int32 → Int32 → Int32 → Prop} (C : CxX p s m args c D (tysX cA) RX6 cX6_and 1 wsX6_and) (hrt9 : meth.sig.returnType = (some .boolean)) (hlk : meth.locks = false) (s0 : Int32) (ga : Int32) (gb : Int32) (gu : Int32) (gk : Int32) (gl : Int32)  (h : B_X6_and_21  Q my gs s0 ga gb gu gk gl) : GoX p l e rmX6_and s m args below meth c D A 1 0 0 (QP_X6_and D A ad cA ms mb my mt mw ml mo gm gs gg gh gn gt Q below args s) 21 [] [.int s0] (WM ad cA ms mb my mt mw ml mo gm gs ga gg gb gu gh gk gl gn gt) := by
  replace h : (isBo s0 ∧ (Q s0 ga gb gu gk gl)) := h
  exact g_zret C hrt9 hlk h.1.n (u := (ga, gb, gu, gk, gl)) rfl h.2 dX6_and_21
set_option maxHeartbeats 4000000 in
set_option maxRecDepth 100000 in
theorem t_B_X6_and_16  {Q : Int32 → Int32 → Int32 → Int32 → Int32 → Int32 → Prop} (C : CxX p s m args c D (tysX cA) RX6 cX6_and 1 wsX6_and) (hrt9 : meth.sig.returnType = (some .boolean)) (hlk : meth.locks = false)  (ga : Int32) (gb : Int32) (gu : Int32) (gk : Int32) (gl : Int32)  (h : B_X6_and_16  Q my gs ga gb gu gk gl) : GoX p l e rmX6_and s m args below meth c D A 1 0 0 (QP_X6_and D A ad cA ms mb my mt mw ml mo gm gs gg gh gn gt Q below args s) 16 [] [] (WM ad cA ms mb my mt mw ml mo gm gs ga gg gb gu gh gk gl gn gt) := by
  replace h : (B_X6_and_21  Q my gs (1 : Int32) ga gb gu gk gl) := h
  refine g_iconst C (1 : Int32) dX6_and_16 (by decide) ?_
  refine g_goto C 21 dX6_and_17 (by decide) ?_
  exact g_sub [] rfl (t_B_X6_and_21 C hrt9 hlk  (1 : Int32) ga gb gu gk gl  h)
set_option maxHeartbeats 4000000 in
set_option maxRecDepth 100000 in
theorem t_B_X6_and_0  {Q : Int32 → Int32 → Int32 → Int32 → Int32 → Int32 → Prop} (C : CxX p s m args c D (tysX cA) RX6 cX6_and 1 wsX6_and) (hrt9 : meth.sig.returnType = (some .boolean)) (hlk : meth.locks = false)  (ga : Int32) (gb : Int32) (gu : Int32) (gk : Int32) (gl : Int32)  (h : B_X6_and_0  Q my gs ga gb gu gk gl) : GoX p l e rmX6_and s m args below meth c D A 1 0 0 (QP_X6_and D A ad cA ms mb my mt mw ml mo gm gs gg gh gn gt Q below args s) 0 [(0, .ref (ad 0))] [] (WM ad cA ms mb my mt mw ml mo gm gs ga gg gb gu gh gk gl gn gt) := by
  replace h : (F_X6_accepts (38 : Int32) my gs ga (fun r_1 ga_2 => ((r_1 = 0 → (B_X6_and_16  Q my gs ga_2 gb gu gk gl)) ∧ (¬ r_1 = 0 → (F_X6_small my gs ga_2 gb gu gk gl (fun r_4 ga_5 gb_6 gu_7 gk_8 gl_9 => ((r_4 = 0 → (B_X6_and_21  Q my gs (0 : Int32) ga_5 gb_6 gu_7 gk_8 gl_9)) ∧ (¬ r_4 = 0 → (B_X6_and_16  Q my gs ga_5 gb_6 gu_7 gk_8 gl_9))))))))) := h
  refine g_aload_n C 0 dX6_and_0 rfl rfl ?_
  refine g_bipush C (38 : Int32) dX6_and_1 (by decide) ?_
  refine k_X6_accepts C gX6_and_X6_accepts ⟨Nat.le_of_ble_eq_true rfl, Nat.le_of_ble_eq_true rfl⟩ (Nat.le_of_ble_eq_true rfl) dX6_and_3  h (fun r_1 ga_2 h => ?_)
  refine g_if_eq C 16 dX6_and_6 (by decide) (fun c_3 => ?_) (fun c_3 => ?_)
  · replace h := h.1 c_3
    exact g_sub [] rfl (t_B_X6_and_16 C hrt9 hlk  ga_2 gb gu gk gl  h)
  · replace h := h.2 c_3
    refine g_aload_n C 0 dX6_and_9 rfl rfl ?_
    refine k_X6_small C gX6_and_X6_small ⟨Nat.le_of_ble_eq_true rfl, Nat.le_of_ble_eq_true rfl⟩ (Nat.le_of_ble_eq_true rfl) dX6_and_10  h (fun r_4 ga_5 gb_6 gu_7 gk_8 gl_9 h => ?_)
    refine g_if_eq C 20 dX6_and_13 (by decide) (fun c_10 => ?_) (fun c_10 => ?_)
    · replace h := h.1 c_10
      refine g_iconst C (0 : Int32) dX6_and_20 (by decide) ?_
      exact g_sub [] rfl (t_B_X6_and_21 C hrt9 hlk  (0 : Int32) ga_5 gb_6 gu_7 gk_8 gl_9  h)
    · replace h := h.2 c_10
      exact g_sub [] rfl (t_B_X6_and_16 C hrt9 hlk  ga_5 gb_6 gu_7 gk_8 gl_9  h)
theorem c_X6_and (l : Launch) (D : va_G) (A : Nat → Prop) (ad : Nat → Nat) (cA : Nat → ClassId)  {ms : (Nat → Int32)} {mb : (Nat → Int32)} {my : (Nat → Int32)} {mt : (Nat → Int32)} {mw : (Nat → Int32)} {ml : (Nat → Int32)} {mo : (Nat → Int32)} {gm : Int32} {gs : Int32} {ga : Int32} {gg : Int32} {gb : Int32} {gu : Int32} {gh : Int32} {gk : Int32} {gl : Int32} {gn : Int32} {gt : Int32}  (Q : Int32 → Int32 → Int32 → Int32 → Int32 → Int32 → Prop) (h : F_X6_and my gs ga gb gu gk gl Q) : Met l yX6_and wsX6_and rmX6_and (va_Pc [.ref (ad 0)] (OKX D (tysX cA) (WM ad cA ms mb my mt mw ml mo gm gs ga gg gb gu gh gk gl gn gt) A)) (QC_X6_and D A ad cA ms mb my mt mw ml mo gm gs gg gh gn gt Q) 0 0 A :=
  g_met (own := RX6) (by decide) rfl rfl (Nat.le_of_ble_eq_true rfl) (fun p e s m below meth c C hrt9 hlk _ => g_sub [0] rfl (t_B_X6_and_0 C hrt9 hlk  ga gb gu gk gl  h))
theorem k_X6_and {ws : List Cond} {own : String} {cc : ByteArray} {nL pc index : Nat} {lv : List (Nat × Value)} {st : List Value} {Q : State → Prop} {R : Room} {K : Int32 → Int32 → Int32 → Int32 → Int32 → Int32 → Prop}  (C : CxX p s m args c D (tysX cA) own cc nL ws) (hT : GoodIn ws (wsV own index RX6 yX6_and wsX6_and)) (hR : rmX6_and.frames + 1 ≤ R.frames ∧ 8 + (1 + 11) + rmX6_and.locals ≤ R.locals) (hcat : (st.map fun v => v.category).sum ≤ 8) (hdg : decode cc pc = .ok (.invokevirtual index, 3))  (h : F_X6_and my gs ga gb gu gk gl K) (kk : ∀ (r : Int32) (gaq : Int32) (gbq : Int32) (guq : Int32) (gkq : Int32) (glq : Int32), K r gaq gbq guq gkq glq → GoX p l e R s m args below meth c D A nL 0 0 Q (pc + 3) lv (.int r :: st) (WM ad cA ms mb my mt mw ml mo gm gs gaq gg gbq guq gh gkq glq gn gt)) : GoX p l e R s m args below meth c D A nL 0 0 Q pc lv (.ref (ad 0) :: st) (WM ad cA ms mb my mt mw ml mo gm gs ga gg gb gu gh gk gl gn gt) :=
  g_callVi C (As := []) 0 (c_X6_and l D A ad cA   K h) hT rfl rfl rfl (by decide +kernel) hR 0 WMg0 rfl rfl rfl hcat hdg (fun r u hu => kk r u.1 u.2.1 u.2.2.1 u.2.2.2.1 u.2.2.2.2 hu)
/-! X6_half -/
abbrev rmX6_half : Room := { frames := 6, cells := 0, slots := 0, locals := 125 }
abbrev QC_X6_half (D : va_G) (A : Nat → Prop) (ad : Nat → Nat) (cA : Nat → ClassId) (ms : (Nat → Int32)) (mb : (Nat → Int32)) (my : (Nat → Int32)) (mt : (Nat → Int32)) (mw : (Nat → Int32)) (ml : (Nat → Int32)) (mo : (Nat → Int32)) (gm : Int32) (gs : Int32) (gn : Int32) (gt : Int32) (Q : Int32 → Int32 → Int32 → Int32 → Int32 → Int32 → Int32 → Int32 → Prop) : Array Value → State → Outcome → State → Prop := va_Qi (fun (r : Int32) (u : Int32 × Int32 × Int32 × Int32 × Int32 × Int32 × Int32) => Q r u.1 u.2.1 u.2.2.1 u.2.2.2.1 u.2.2.2.2.1 u.2.2.2.2.2.1 u.2.2.2.2.2.2) (fun u t => OKX D (tysX cA) ((fun u : Int32 × Int32 × Int32 × Int32 × Int32 × Int32 × Int32 => WM ad cA ms mb my mt mw ml mo gm gs u.1 u.2.1 u.2.2.1 u.2.2.2.1 u.2.2.2.2.1 u.2.2.2.2.2.1 u.2.2.2.2.2.2 gn gt) u) A t) A
abbrev QP_X6_half (D : va_G) (A : Nat → Prop) (ad : Nat → Nat) (cA : Nat → ClassId) (ms : (Nat → Int32)) (mb : (Nat → Int32)) (my : (Nat → Int32)) (mt : (Nat → Int32)) (mw : (Nat → Int32)) (ml : (Nat → Int32)) (mo : (Nat → Int32)) (gm : Int32) (gs : Int32) (gn : Int32) (gt : Int32) (Q : Int32 → Int32 → Int32 → Int32 → Int32 → Int32 → Int32 → Int32 → Prop) (below : List Frame) (args : Array Value) (s : State) : State → Prop := MQ below (QC_X6_half D A ad cA ms mb my mt mw ml mo gm gs gn gt Q) args s 0 0 A
def B_X6_half_70  (Q : Int32 → Int32 → Int32 → Int32 → Int32 → Int32 → Int32 → Int32 → Prop) (my : (Nat → Int32)) (gs : Int32) (s0 : Int32) (ga : Int32) (gg : Int32) (gb : Int32) (gu : Int32) (gh : Int32) (gk : Int32) (gl : Int32) : Prop := (isBo s0 ∧ (Q s0 ga gg gb gu gh gk gl))
def B_X6_half_69  (Q : Int32 → Int32 → Int32 → Int32 → Int32 → Int32 → Int32 → Int32 → Prop) (my : (Nat → Int32)) (gs : Int32)  (ga : Int32) (gg : Int32) (gb : Int32) (gu : Int32) (gh : Int32) (gk : Int32) (gl : Int32) : Prop := (B_X6_half_70  Q my gs (0 : Int32) ga gg gb gu gh gk gl)
def B_X6_half_35  (Q : Int32 → Int32 → Int32 → Int32 → Int32 → Int32 → Int32 → Int32 → Prop) (my : (Nat → Int32)) (gs : Int32) (v1 : Int32) (ga : Int32) (gg : Int32) (gb : Int32) (gu : Int32) (gh : Int32) (gk : Int32) (gl : Int32) : Prop := ((v1 ≤ 0 → (B_X6_half_69  Q my gs ga gg v1 gu gh (1 : Int32) gl)) ∧ (¬ v1 ≤ 0 → (F_X6_accepts (83 : Int32) my gs ga (fun r_2 ga_3 => ((r_2 = 0 → (B_X6_half_69  Q my gs ga_3 gg v1 gu gh (1 : Int32) gl)) ∧ (¬ r_2 = 0 → (F_X6_plus my gs ga_3 gu (fun r_5 ga_6 gu_7 => ((r_5 = 0 → (B_X6_half_69  Q my gs ga_6 gg v1 gu_7 gh (1 : Int32) gl)) ∧ (¬ r_5 = 0 → (B_X6_half_70  Q my gs (1 : Int32) ga_6 gg v1 gu_7 gh (1 : Int32) gl)))))))))))
def B_X6_half_0  (Q : Int32 → Int32 → Int32 → Int32 → Int32 → Int32 → Int32 → Int32 → Prop) (my : (Nat → Int32)) (gs : Int32)  (ga : Int32) (gg : Int32) (gb : Int32) (gu : Int32) (gh : Int32) (gk : Int32) (gl : Int32) : Prop := (F_X6_unitFrom (98 : Int32) my gs ga (fun r_9 ga_10 => ((r_9 ≤ 0 → (B_X6_half_35  Q my gs r_9 ga_10 gg gb gu gh gk gl)) ∧ (¬ r_9 ≤ 0 → (F_X6_accepts (71 : Int32) my gs ga_10 (fun r_12 ga_13 => ((r_12 = 0 → (B_X6_half_35  Q my gs r_9 ga_13 gg gb gu gh gk gl)) ∧ (¬ r_12 = 0 → (F_X6_and my gs ga_13 gb gu gk gl (fun r_15 ga_16 gb_17 gu_18 gk_19 gl_20 => (isBo r_15 ∧ (Q r_15 ga_16 r_9 gb_17 gu_18 (1 : Int32) gk_19 gl_20))))))))))))
def F_X6_half  (my : (Nat → Int32)) (gs : Int32) (ga : Int32) (gg : Int32) (gb : Int32) (gu : Int32) (gh : Int32) (gk : Int32) (gl : Int32) (Q : Int32 → Int32 → Int32 → Int32 → Int32 → Int32 → Int32 → Int32 → Prop) : Prop := B_X6_half_0 Q my gs  ga gg gb gu gh gk gl
theorem lkX6_half_87 : Cond.fieldLink RX6 87 (TX6 13).1 (TX6 13).2.1 (TX6 13).2.2.1 ∈ wsX6_half := by decide +kernel
theorem lkX6_half_84 : Cond.fieldLink RX6 84 (TX6 10).1 (TX6 10).2.1 (TX6 10).2.2.1 ∈ wsX6_half := by decide +kernel
theorem lkX6_half_56 : Cond.fieldLink RX6 56 (TX6 14).1 (TX6 14).2.1 (TX6 14).2.2.1 ∈ wsX6_half := by decide +kernel
theorem lkX6_half_53 : Cond.fieldLink RX6 53 (TX6 11).1 (TX6 11).2.1 (TX6 11).2.2.1 ∈ wsX6_half := by decide +kernel
theorem inX6_half_6 : ∀ q ∈ u_ws RX6 TX6 18, q ∈ wsX6_half := by decide +kernel
set_option maxHeartbeats 4000000 in
set_option maxRecDepth 100000 in
theorem t_B_X6_half_70  {Q : Int32 → Int32 → Int32 → Int32 → Int32 → Int32 → Int32 → Int32 → Prop} (C : CxX p s m args c D (tysX cA) RX6 cX6_half 2 wsX6_half) (hrt9 : meth.sig.returnType = (some .boolean)) (hlk : meth.locks = false) (s0 : Int32) (ga : Int32) (gg : Int32) (gb : Int32) (gu : Int32) (gh : Int32) (gk : Int32) (gl : Int32)  (h : B_X6_half_70  Q my gs s0 ga gg gb gu gh gk gl) : GoX p l e rmX6_half s m args below meth c D A 2 0 0 (QP_X6_half D A ad cA ms mb my mt mw ml mo gm gs gn gt Q below args s) 70 [] [.int s0] (WM ad cA ms mb my mt mw ml mo gm gs ga gg gb gu gh gk gl gn gt) := by
  replace h : (isBo s0 ∧ (Q s0 ga gg gb gu gh gk gl)) := h
  exact g_zret C hrt9 hlk h.1.n (u := (ga, gg, gb, gu, gh, gk, gl)) rfl h.2 dX6_half_70
set_option maxHeartbeats 4000000 in
set_option maxRecDepth 100000 in
theorem t_B_X6_half_69  {Q : Int32 → Int32 → Int32 → Int32 → Int32 → Int32 → Int32 → Int32 → Prop} (C : CxX p s m args c D (tysX cA) RX6 cX6_half 2 wsX6_half) (hrt9 : meth.sig.returnType = (some .boolean)) (hlk : meth.locks = false)  (ga : Int32) (gg : Int32) (gb : Int32) (gu : Int32) (gh : Int32) (gk : Int32) (gl : Int32)  (h : B_X6_half_69  Q my gs ga gg gb gu gh gk gl) : GoX p l e rmX6_half s m args below meth c D A 2 0 0 (QP_X6_half D A ad cA ms mb my mt mw ml mo gm gs gn gt Q below args s) 69 [] [] (WM ad cA ms mb my mt mw ml mo gm gs ga gg gb gu gh gk gl gn gt) := by
  replace h : (B_X6_half_70  Q my gs (0 : Int32) ga gg gb gu gh gk gl) := h
  refine g_iconst C (0 : Int32) dX6_half_69 (by decide) ?_
  exact g_sub [] rfl (t_B_X6_half_70 C hrt9 hlk  (0 : Int32) ga gg gb gu gh gk gl  h)
set_option maxHeartbeats 4000000 in
set_option maxRecDepth 100000 in
theorem t_B_X6_half_35  {Q : Int32 → Int32 → Int32 → Int32 → Int32 → Int32 → Int32 → Int32 → Prop} (C : CxX p s m args c D (tysX cA) RX6 cX6_half 2 wsX6_half) (hrt9 : meth.sig.returnType = (some .boolean)) (hlk : meth.locks = false) (v1 : Int32) (ga : Int32) (gg : Int32) (gb : Int32) (gu : Int32) (gh : Int32) (gk : Int32) (gl : Int32)  (h : B_X6_half_35  Q my gs v1 ga gg gb gu gh gk gl) : GoX p l e rmX6_half s m args below meth c D A 2 0 0 (QP_X6_half D A ad cA ms mb my mt mw ml mo gm gs gn gt Q below args s) 35 [(0, .ref (ad 0)), (1, .int v1)] [] (WM ad cA ms mb my mt mw ml mo gm gs ga gg gb gu gh gk gl gn gt) := by
  replace h : ((v1 ≤ 0 → (B_X6_half_69  Q my gs ga gg v1 gu gh (1 : Int32) gl)) ∧ (¬ v1 ≤ 0 → (F_X6_accepts (83 : Int32) my gs ga (fun r_2 ga_3 => ((r_2 = 0 → (B_X6_half_69  Q my gs ga_3 gg v1 gu gh (1 : Int32) gl)) ∧ (¬ r_2 = 0 → (F_X6_plus my gs ga_3 gu (fun r_5 ga_6 gu_7 => ((r_5 = 0 → (B_X6_half_69  Q my gs ga_6 gg v1 gu_7 gh (1 : Int32) gl)) ∧ (¬ r_5 = 0 → (B_X6_half_70  Q my gs (1 : Int32) ga_6 gg v1 gu_7 gh (1 : Int32) gl))))))))))) := h
  refine g_aload_n C 0 dX6_half_35 rfl rfl ?_
  refine g_iload_n C 1 dX6_half_36 rfl rfl ?_
  refine g_put C inX6_half_6 tyX6 tyX6_ok nmX6 0 WMg0 rfl 11 (by decide) lkX6_half_53 rfl rfl rfl (Nat.le_of_ble_eq_true rfl) (WMs_gb) dX6_half_37 ?_
  refine g_aload_n C 0 dX6_half_40 rfl rfl ?_
  refine g_iconst C (1 : Int32) dX6_half_41 (by decide) ?_
  refine g_put C inX6_half_6 tyX6 tyX6_ok nmX6 0 WMg0 rfl 14 (by decide) lkX6_half_56 rfl rfl rfl (Nat.le_of_ble_eq_true rfl) (WMs_gk) dX6_half_42 ?_
  refine g_iload_n C 1 dX6_half_45 rfl rfl ?_
  refine g_if_le C 69 dX6_half_46 (by decide) (fun c_1 => ?_) (fun c_1 => ?_)
  · replace h := h.1 c_1
    exact g_sub [] rfl (t_B_X6_half_69 C hrt9 hlk  ga gg v1 gu gh (1 : Int32) gl  h)
  · replace h := h.2 c_1
    refine g_aload_n C 0 dX6_half_49 rfl rfl ?_
    refine g_bipush C (83 : Int32) dX6_half_50 (by decide) ?_
    refine k_X6_accepts C gX6_half_X6_accepts ⟨Nat.le_of_ble_eq_true rfl, Nat.le_of_ble_eq_true rfl⟩ (Nat.le_of_ble_eq_true rfl) dX6_half_52  h (fun r_2 ga_3 h => ?_)
    refine g_if_eq C 69 dX6_half_55 (by decide) (fun c_4 => ?_) (fun c_4 => ?_)
    · replace h := h.1 c_4
      exact g_sub [] rfl (t_B_X6_half_69 C hrt9 hlk  ga_3 gg v1 gu gh (1 : Int32) gl  h)
    · replace h := h.2 c_4
      refine g_aload_n C 0 dX6_half_58 rfl rfl ?_
      refine k_X6_plus C gX6_half_X6_plus ⟨Nat.le_of_ble_eq_true rfl, Nat.le_of_ble_eq_true rfl⟩ (Nat.le_of_ble_eq_true rfl) dX6_half_59  h (fun r_5 ga_6 gu_7 h => ?_)
      refine g_if_eq C 69 dX6_half_62 (by decide) (fun c_8 => ?_) (fun c_8 => ?_)
      · replace h := h.1 c_8
        exact g_sub [] rfl (t_B_X6_half_69 C hrt9 hlk  ga_6 gg v1 gu_7 gh (1 : Int32) gl  h)
      · replace h := h.2 c_8
        refine g_iconst C (1 : Int32) dX6_half_65 (by decide) ?_
        refine g_goto C 70 dX6_half_66 (by decide) ?_
        exact g_sub [] rfl (t_B_X6_half_70 C hrt9 hlk  (1 : Int32) ga_6 gg v1 gu_7 gh (1 : Int32) gl  h)
set_option maxHeartbeats 4000000 in
set_option maxRecDepth 100000 in
theorem t_B_X6_half_0  {Q : Int32 → Int32 → Int32 → Int32 → Int32 → Int32 → Int32 → Int32 → Prop} (C : CxX p s m args c D (tysX cA) RX6 cX6_half 2 wsX6_half) (hrt9 : meth.sig.returnType = (some .boolean)) (hlk : meth.locks = false)  (ga : Int32) (gg : Int32) (gb : Int32) (gu : Int32) (gh : Int32) (gk : Int32) (gl : Int32)  (h : B_X6_half_0  Q my gs ga gg gb gu gh gk gl) : GoX p l e rmX6_half s m args below meth c D A 2 0 0 (QP_X6_half D A ad cA ms mb my mt mw ml mo gm gs gn gt Q below args s) 0 [(0, .ref (ad 0))] [] (WM ad cA ms mb my mt mw ml mo gm gs ga gg gb gu gh gk gl gn gt) := by
  replace h : (F_X6_unitFrom (98 : Int32) my gs ga (fun r_9 ga_10 => ((r_9 ≤ 0 → (B_X6_half_35  Q my gs r_9 ga_10 gg gb gu gh gk gl)) ∧ (¬ r_9 ≤ 0 → (F_X6_accepts (71 : Int32) my gs ga_10 (fun r_12 ga_13 => ((r_12 = 0 → (B_X6_half_35  Q my gs r_9 ga_13 gg gb gu gh gk gl)) ∧ (¬ r_12 = 0 → (F_X6_and my gs ga_13 gb gu gk gl (fun r_15 ga_16 gb_17 gu_18 gk_19 gl_20 => (isBo r_15 ∧ (Q r_15 ga_16 r_9 gb_17 gu_18 (1 : Int32) gk_19 gl_20)))))))))))) := h
  refine g_aload_n C 0 dX6_half_0 rfl rfl ?_
  refine g_bipush C (98 : Int32) dX6_half_1 (by decide) ?_
  refine k_X6_unitFrom C gX6_half_X6_unitFrom ⟨Nat.le_of_ble_eq_true rfl, Nat.le_of_ble_eq_true rfl⟩ (Nat.le_of_ble_eq_true rfl) dX6_half_3  h (fun r_9 ga_10 h => ?_)
  refine g_istore_n C (lv2 := [(1, .int r_9), (0, .ref (ad 0))]) dX6_half_6 rfl (by decide) rfl ?_
  refine g_iload_n C 0 dX6_half_7 rfl rfl ?_
  refine g_if_le C 35 dX6_half_8 (by decide) (fun c_11 => ?_) (fun c_11 => ?_)
  · replace h := h.1 c_11
    exact g_sub [1, 0] rfl (t_B_X6_half_35 C hrt9 hlk  r_9 ga_10 gg gb gu gh gk gl  h)
  · replace h := h.2 c_11
    refine g_aload_n C 1 dX6_half_11 rfl rfl ?_
    refine g_bipush C (71 : Int32) dX6_half_12 (by decide) ?_
    refine k_X6_accepts C gX6_half_X6_accepts ⟨Nat.le_of_ble_eq_true rfl, Nat.le_of_ble_eq_true rfl⟩ (Nat.le_of_ble_eq_true rfl) dX6_half_14  h (fun r_12 ga_13 h => ?_)
    refine g_if_eq C 35 dX6_half_17 (by decide) (fun c_14 => ?_) (fun c_14 => ?_)
    · replace h := h.1 c_14
      exact g_sub [1, 0] rfl (t_B_X6_half_35 C hrt9 hlk  r_9 ga_13 gg gb gu gh gk gl  h)
    · replace h := h.2 c_14
      refine g_aload_n C 1 dX6_half_20 rfl rfl ?_
      refine g_iload_n C 0 dX6_half_21 rfl rfl ?_
      refine g_put C inX6_half_6 tyX6 tyX6_ok nmX6 0 WMg0 rfl 10 (by decide) lkX6_half_84 rfl rfl rfl (Nat.le_of_ble_eq_true rfl) (WMs_gg) dX6_half_22 ?_
      refine g_aload_n C 1 dX6_half_25 rfl rfl ?_
      refine g_iconst C (1 : Int32) dX6_half_26 (by decide) ?_
      refine g_put C inX6_half_6 tyX6 tyX6_ok nmX6 0 WMg0 rfl 13 (by decide) lkX6_half_87 rfl rfl rfl (Nat.le_of_ble_eq_true rfl) (WMs_gh) dX6_half_27 ?_
      refine g_aload_n C 1 dX6_half_30 rfl rfl ?_
      refine k_X6_and C gX6_half_X6_and ⟨Nat.le_of_ble_eq_true rfl, Nat.le_of_ble_eq_true rfl⟩ (Nat.le_of_ble_eq_true rfl) dX6_half_31  h (fun r_15 ga_16 gb_17 gu_18 gk_19 gl_20 h => ?_)
      exact g_zret C hrt9 hlk h.1.n (u := (ga_16, r_9, gb_17, gu_18, (1 : Int32), gk_19, gl_20)) rfl h.2 dX6_half_34
theorem c_X6_half (l : Launch) (D : va_G) (A : Nat → Prop) (ad : Nat → Nat) (cA : Nat → ClassId)  {ms : (Nat → Int32)} {mb : (Nat → Int32)} {my : (Nat → Int32)} {mt : (Nat → Int32)} {mw : (Nat → Int32)} {ml : (Nat → Int32)} {mo : (Nat → Int32)} {gm : Int32} {gs : Int32} {ga : Int32} {gg : Int32} {gb : Int32} {gu : Int32} {gh : Int32} {gk : Int32} {gl : Int32} {gn : Int32} {gt : Int32}  (Q : Int32 → Int32 → Int32 → Int32 → Int32 → Int32 → Int32 → Int32 → Prop) (h : F_X6_half my gs ga gg gb gu gh gk gl Q) : Met l yX6_half wsX6_half rmX6_half (va_Pc [.ref (ad 0)] (OKX D (tysX cA) (WM ad cA ms mb my mt mw ml mo gm gs ga gg gb gu gh gk gl gn gt) A)) (QC_X6_half D A ad cA ms mb my mt mw ml mo gm gs gn gt Q) 0 0 A :=
  g_met (own := RX6) (by decide) rfl rfl (Nat.le_of_ble_eq_true rfl) (fun p e s m below meth c C hrt9 hlk _ => g_sub [0] rfl (t_B_X6_half_0 C hrt9 hlk  ga gg gb gu gh gk gl  h))
theorem k_X6_half {ws : List Cond} {own : String} {cc : ByteArray} {nL pc index : Nat} {lv : List (Nat × Value)} {st : List Value} {Q : State → Prop} {R : Room} {K : Int32 → Int32 → Int32 → Int32 → Int32 → Int32 → Int32 → Int32 → Prop}  (C : CxX p s m args c D (tysX cA) own cc nL ws) (hT : GoodIn ws (wsV own index RX6 yX6_half wsX6_half)) (hR : rmX6_half.frames + 1 ≤ R.frames ∧ 8 + (2 + 11) + rmX6_half.locals ≤ R.locals) (hcat : (st.map fun v => v.category).sum ≤ 8) (hdg : decode cc pc = .ok (.invokevirtual index, 3))  (h : F_X6_half my gs ga gg gb gu gh gk gl K) (kk : ∀ (r : Int32) (gaq : Int32) (ggq : Int32) (gbq : Int32) (guq : Int32) (ghq : Int32) (gkq : Int32) (glq : Int32), K r gaq ggq gbq guq ghq gkq glq → GoX p l e R s m args below meth c D A nL 0 0 Q (pc + 3) lv (.int r :: st) (WM ad cA ms mb my mt mw ml mo gm gs gaq ggq gbq guq ghq gkq glq gn gt)) : GoX p l e R s m args below meth c D A nL 0 0 Q pc lv (.ref (ad 0) :: st) (WM ad cA ms mb my mt mw ml mo gm gs ga gg gb gu gh gk gl gn gt) :=
  g_callVi C (As := []) 0 (c_X6_half l D A ad cA   K h) hT rfl rfl rfl (by decide +kernel) hR 0 WMg0 rfl rfl rfl hcat hdg (fun r u hu => kk r u.1 u.2.1 u.2.2.1 u.2.2.2.1 u.2.2.2.2.1 u.2.2.2.2.2.1 u.2.2.2.2.2.2 hu)
/-! X6_number -/
abbrev rmX6_number : Room := { frames := 7, cells := 0, slots := 0, locals := 146 }
abbrev QC_X6_number (D : va_G) (A : Nat → Prop) (ad : Nat → Nat) (cA : Nat → ClassId) (ms : (Nat → Int32)) (mb : (Nat → Int32)) (my : (Nat → Int32)) (mt : (Nat → Int32)) (mw : (Nat → Int32)) (ml : (Nat → Int32)) (mo : (Nat → Int32)) (gm : Int32) (gs : Int32) (gn : Int32) (gt : Int32) (Q : Int32 → Int32 → Int32 → Int32 → Int32 → Int32 → Int32 → Int32 → Prop) : Array Value → State → Outcome → State → Prop := va_Qi (fun (r : Int32) (u : Int32 × Int32 × Int32 × Int32 × Int32 × Int32 × Int32) => Q r u.1 u.2.1 u.2.2.1 u.2.2.2.1 u.2.2.2.2.1 u.2.2.2.2.2.1 u.2.2.2.2.2.2) (fun u t => OKX D (tysX cA) ((fun u : Int32 × Int32 × Int32 × Int32 × Int32 × Int32 × Int32 => WM ad cA ms mb my mt mw ml mo gm gs u.1 u.2.1 u.2.2.1 u.2.2.2.1 u.2.2.2.2.1 u.2.2.2.2.2.1 u.2.2.2.2.2.2 gn gt) u) A t) A
abbrev QP_X6_number (D : va_G) (A : Nat → Prop) (ad : Nat → Nat) (cA : Nat → ClassId) (ms : (Nat → Int32)) (mb : (Nat → Int32)) (my : (Nat → Int32)) (mt : (Nat → Int32)) (mw : (Nat → Int32)) (ml : (Nat → Int32)) (mo : (Nat → Int32)) (gm : Int32) (gs : Int32) (gn : Int32) (gt : Int32) (Q : Int32 → Int32 → Int32 → Int32 → Int32 → Int32 → Int32 → Int32 → Prop) (below : List Frame) (args : Array Value) (s : State) : State → Prop := MQ below (QC_X6_number D A ad cA ms mb my mt mw ml mo gm gs gn gt Q) args s 0 0 A
def B_X6_number_95  (Q : Int32 → Int32 → Int32 → Int32 → Int32 → Int32 → Int32 → Int32 → Prop) (my : (Nat → Int32)) (gs : Int32) (s0 : Int32) (ga : Int32) (gg : Int32) (gb : Int32) (gu : Int32) (gh : Int32) (gk : Int32) (gl : Int32) : Prop := (isBo s0 ∧ (Q s0 ga gg gb gu gh gk gl))
def B_X6_number_94  (Q : Int32 → Int32 → Int32 → Int32 → Int32 → Int32 → Int32 → Int32 → Prop) (my : (Nat → Int32)) (gs : Int32)  (ga : Int32) (gg : Int32) (gb : Int32) (gu : Int32) (gh : Int32) (gk : Int32) (gl : Int32) : Prop := (B_X6_number_95  Q my gs (0 : Int32) ga gg gb gu gh gk gl)
def B_X6_number_64  (Q : Int32 → Int32 → Int32 → Int32 → Int32 → Int32 → Int32 → Int32 → Prop) (my : (Nat → Int32)) (gs : Int32) (v1 : Int32) (ga : Int32) (gg : Int32) (gb : Int32) (gu : Int32) (gh : Int32) (gk : Int32) (gl : Int32) : Prop := ((v1 ≤ 0 → (F_X6_base my gs ga gb gk (fun r_2 ga_3 gb_4 gk_5 => ((r_2 = 0 → (B_X6_number_94  Q my gs ga_3 gg gb_4 gu gh gk_5 gl)) ∧ (¬ r_2 = 0 → (F_X6_plus my gs ga_3 gu (fun r_7 ga_8 gu_9 => ((r_7 = 0 → (B_X6_number_94  Q my gs ga_8 gg gb_4 gu_9 gh gk_5 gl)) ∧ (¬ r_7 = 0 → (B_X6_number_95  Q my gs (1 : Int32) ga_8 gg gb_4 gu_9 gh gk_5 gl)))))))))) ∧ (¬ v1 ≤ 0 → (F_X6_smallFrom v1 my gs ga gb gu gk gl (fun r_11 ga_12 gb_13 gu_14 gk_15 gl_16 => (B_X6_number_95  Q my gs r_11 ga_12 gg gb_13 gu_14 gh gk_15 gl_16)))))
def B_X6_number_0  (Q : Int32 → Int32 → Int32 → Int32 → Int32 → Int32 → Int32 → Int32 → Prop) (my : (Nat → Int32)) (gs : Int32)  (ga : Int32) (gg : Int32) (gb : Int32) (gu : Int32) (gh : Int32) (gk : Int32) (gl : Int32) : Prop := (F_X6_accepts (71 : Int32) my gs ga (fun r_17 ga_18 => ((r_17 = 0 → (F_X6_accepts (72 : Int32) my gs ga_18 (fun r_20 ga_21 => ((r_20 = 0 → (F_X6_unitFrom (97 : Int32) my gs ga_21 (fun r_23 ga_24 => ((r_23 ≤ (1 : Int32) → (B_X6_number_64  Q my gs r_23 ga_24 gg gb gu gh gk gl)) ∧ (¬ r_23 ≤ (1 : Int32) → (F_X6_accepts (71 : Int32) my gs ga_24 (fun r_26 ga_27 => ((r_26 = 0 → (B_X6_number_64  Q my gs r_23 ga_27 gg gb gu gh gk gl)) ∧ (¬ r_26 = 0 → (F_X6_and my gs ga_27 gb gu gk gl (fun r_29 ga_30 gb_31 gu_32 gk_33 gl_34 => (isBo r_29 ∧ (Q r_29 ga_30 r_23 gb_31 gu_32 gh gk_33 gl_34))))))))))))) ∧ (¬ r_20 = 0 → (F_X6_half my gs ga_21 gg gb gu gh gk gl (fun r_35 ga_36 gg_37 gb_38 gu_39 gh_40 gk_41 gl_42 => (isBo r_35 ∧ (Q r_35 ga_36 gg_37 gb_38 gu_39 gh_40 gk_41 gl_42))))))))) ∧ (¬ r_17 = 0 → (F_X6_and my gs ga_18 gb gu gk gl (fun r_43 ga_44 gb_45 gu_46 gk_47 gl_48 => (isBo r_43 ∧ (Q r_43 ga_44 (1 : Int32) gb_45 gu_46 gh gk_47 gl_48))))))))
def F_X6_number  (my : (Nat → Int32)) (gs : Int32) (ga : Int32) (gg : Int32) (gb : Int32) (gu : Int32) (gh : Int32) (gk : Int32) (gl : Int32) (Q : Int32 → Int32 → Int32 → Int32 → Int32 → Int32 → Int32 → Int32 → Prop) : Prop := B_X6_number_0 Q my gs  ga gg gb gu gh gk gl
theorem lkX6_number_84 : Cond.fieldLink RX6 84 (TX6 10).1 (TX6 10).2.1 (TX6 10).2.2.1 ∈ wsX6_number := by decide +kernel
theorem inX6_number_6 : ∀ q ∈ u_ws RX6 TX6 18, q ∈ wsX6_number := by decide +kernel
set_option maxHeartbeats 4000000 in
set_option maxRecDepth 100000 in
theorem t_B_X6_number_95  {Q : Int32 → Int32 → Int32 → Int32 → Int32 → Int32 → Int32 → Int32 → Prop} (C : CxX p s m args c D (tysX cA) RX6 cX6_number 2 wsX6_number) (hrt9 : meth.sig.returnType = (some .boolean)) (hlk : meth.locks = false) (s0 : Int32) (ga : Int32) (gg : Int32) (gb : Int32) (gu : Int32) (gh : Int32) (gk : Int32) (gl : Int32)  (h : B_X6_number_95  Q my gs s0 ga gg gb gu gh gk gl) : GoX p l e rmX6_number s m args below meth c D A 2 0 0 (QP_X6_number D A ad cA ms mb my mt mw ml mo gm gs gn gt Q below args s) 95 [] [.int s0] (WM ad cA ms mb my mt mw ml mo gm gs ga gg gb gu gh gk gl gn gt) := by
  replace h : (isBo s0 ∧ (Q s0 ga gg gb gu gh gk gl)) := h
  exact g_zret C hrt9 hlk h.1.n (u := (ga, gg, gb, gu, gh, gk, gl)) rfl h.2 dX6_number_95
set_option maxHeartbeats 4000000 in
set_option maxRecDepth 100000 in
theorem t_B_X6_number_94  {Q : Int32 → Int32 → Int32 → Int32 → Int32 → Int32 → Int32 → Int32 → Prop} (C : CxX p s m args c D (tysX cA) RX6 cX6_number 2 wsX6_number) (hrt9 : meth.sig.returnType = (some .boolean)) (hlk : meth.locks = false)  (ga : Int32) (gg : Int32) (gb : Int32) (gu : Int32) (gh : Int32) (gk : Int32) (gl : Int32)  (h : B_X6_number_94  Q my gs ga gg gb gu gh gk gl) : GoX p l e rmX6_number s m args below meth c D A 2 0 0 (QP_X6_number D A ad cA ms mb my mt mw ml mo gm gs gn gt Q below args s) 94 [] [] (WM ad cA ms mb my mt mw ml mo gm gs ga gg gb gu gh gk gl gn gt) := by
  replace h : (B_X6_number_95  Q my gs (0 : Int32) ga gg gb gu gh gk gl) := h
  refine g_iconst C (0 : Int32) dX6_number_94 (by decide) ?_
  exact g_sub [] rfl (t_B_X6_number_95 C hrt9 hlk  (0 : Int32) ga gg gb gu gh gk gl  h)
set_option maxHeartbeats 4000000 in
set_option maxRecDepth 100000 in
theorem t_B_X6_number_64  {Q : Int32 → Int32 → Int32 → Int32 → Int32 → Int32 → Int32 → Int32 → Prop} (C : CxX p s m args c D (tysX cA) RX6 cX6_number 2 wsX6_number) (hrt9 : meth.sig.returnType = (some .boolean)) (hlk : meth.locks = false) (v1 : Int32) (ga : Int32) (gg : Int32) (gb : Int32) (gu : Int32) (gh : Int32) (gk : Int32) (gl : Int32)  (h : B_X6_number_64  Q my gs v1 ga gg gb gu gh gk gl) : GoX p l e rmX6_number s m args below meth c D A 2 0 0 (QP_X6_number D A ad cA ms mb my mt mw ml mo gm gs gn gt Q below args s) 64 [(0, .ref (ad 0)), (1, .int v1)] [] (WM ad cA ms mb my mt mw ml mo gm gs ga gg gb gu gh gk gl gn gt) := by
  replace h : ((v1 ≤ 0 → (F_X6_base my gs ga gb gk (fun r_2 ga_3 gb_4 gk_5 => ((r_2 = 0 → (B_X6_number_94  Q my gs ga_3 gg gb_4 gu gh gk_5 gl)) ∧ (¬ r_2 = 0 → (F_X6_plus my gs ga_3 gu (fun r_7 ga_8 gu_9 => ((r_7 = 0 → (B_X6_number_94  Q my gs ga_8 gg gb_4 gu_9 gh gk_5 gl)) ∧ (¬ r_7 = 0 → (B_X6_number_95  Q my gs (1 : Int32) ga_8 gg gb_4 gu_9 gh gk_5 gl)))))))))) ∧ (¬ v1 ≤ 0 → (F_X6_smallFrom v1 my gs ga gb gu gk gl (fun r_11 ga_12 gb_13 gu_14 gk_15 gl_16 => (B_X6_number_95  Q my gs r_11 ga_12 gg gb_13 gu_14 gh gk_15 gl_16))))) := h
  refine g_iload_n C 1 dX6_number_64 rfl rfl ?_
  refine g_if_le C 76 dX6_number_65 (by decide) (fun c_1 => ?_) (fun c_1 => ?_)
  · replace h := h.1 c_1
    refine g_aload_n C 0 dX6_number_76 rfl rfl ?_
    refine k_X6_base C gX6_number_X6_base ⟨Nat.le_of_ble_eq_true rfl, Nat.le_of_ble_eq_true rfl⟩ (Nat.le_of_ble_eq_true rfl) dX6_number_77  h (fun r_2 ga_3 gb_4 gk_5 h => ?_)
    refine g_if_eq C 94 dX6_number_80 (by decide) (fun c_6 => ?_) (fun c_6 => ?_)
    · replace h := h.1 c_6
      exact g_sub [] rfl (t_B_X6_number_94 C hrt9 hlk  ga_3 gg gb_4 gu gh gk_5 gl  h)
    · replace h := h.2 c_6
      refine g_aload_n C 0 dX6_number_83 rfl rfl ?_
      refine k_X6_plus C gX6_number_X6_plus ⟨Nat.le_of_ble_eq_true rfl, Nat.le_of_ble_eq_true rfl⟩ (Nat.le_of_ble_eq_true rfl) dX6_number_84  h (fun r_7 ga_8 gu_9 h => ?_)
      refine g_if_eq C 94 dX6_number_87 (by decide) (fun c_10 => ?_) (fun c_10 => ?_)
      · replace h := h.1 c_10
        exact g_sub [] rfl (t_B_X6_number_94 C hrt9 hlk  ga_8 gg gb_4 gu_9 gh gk_5 gl  h)
      · replace h := h.2 c_10
        refine g_iconst C (1 : Int32) dX6_number_90 (by decide) ?_
        refine g_goto C 95 dX6_number_91 (by decide) ?_
        exact g_sub [] rfl (t_B_X6_number_95 C hrt9 hlk  (1 : Int32) ga_8 gg gb_4 gu_9 gh gk_5 gl  h)
  · replace h := h.2 c_1
    refine g_aload_n C 0 dX6_number_68 rfl rfl ?_
    refine g_iload_n C 1 dX6_number_69 rfl rfl ?_
    refine k_X6_smallFrom C gX6_number_X6_smallFrom ⟨Nat.le_of_ble_eq_true rfl, Nat.le_of_ble_eq_true rfl⟩ (Nat.le_of_ble_eq_true rfl) dX6_number_70  h (fun r_11 ga_12 gb_13 gu_14 gk_15 gl_16 h => ?_)
    refine g_goto C 95 dX6_number_73 (by decide) ?_
    exact g_sub [] rfl (t_B_X6_number_95 C hrt9 hlk  r_11 ga_12 gg gb_13 gu_14 gh gk_15 gl_16  h)
set_option maxHeartbeats 4000000 in
set_option maxRecDepth 100000 in
theorem t_B_X6_number_0  {Q : Int32 → Int32 → Int32 → Int32 → Int32 → Int32 → Int32 → Int32 → Prop} (C : CxX p s m args c D (tysX cA) RX6 cX6_number 2 wsX6_number) (hrt9 : meth.sig.returnType = (some .boolean)) (hlk : meth.locks = false)  (ga : Int32) (gg : Int32) (gb : Int32) (gu : Int32) (gh : Int32) (gk : Int32) (gl : Int32)  (h : B_X6_number_0  Q my gs ga gg gb gu gh gk gl) : GoX p l e rmX6_number s m args below meth c D A 2 0 0 (QP_X6_number D A ad cA ms mb my mt mw ml mo gm gs gn gt Q below args s) 0 [(0, .ref (ad 0))] [] (WM ad cA ms mb my mt mw ml mo gm gs ga gg gb gu gh gk gl gn gt) := by
  replace h : (F_X6_accepts (71 : Int32) my gs ga (fun r_17 ga_18 => ((r_17 = 0 → (F_X6_accepts (72 : Int32) my gs ga_18 (fun r_20 ga_21 => ((r_20 = 0 → (F_X6_unitFrom (97 : Int32) my gs ga_21 (fun r_23 ga_24 => ((r_23 ≤ (1 : Int32) → (B_X6_number_64  Q my gs r_23 ga_24 gg gb gu gh gk gl)) ∧ (¬ r_23 ≤ (1 : Int32) → (F_X6_accepts (71 : Int32) my gs ga_24 (fun r_26 ga_27 => ((r_26 = 0 → (B_X6_number_64  Q my gs r_23 ga_27 gg gb gu gh gk gl)) ∧ (¬ r_26 = 0 → (F_X6_and my gs ga_27 gb gu gk gl (fun r_29 ga_30 gb_31 gu_32 gk_33 gl_34 => (isBo r_29 ∧ (Q r_29 ga_30 r_23 gb_31 gu_32 gh gk_33 gl_34))))))))))))) ∧ (¬ r_20 = 0 → (F_X6_half my gs ga_21 gg gb gu gh gk gl (fun r_35 ga_36 gg_37 gb_38 gu_39 gh_40 gk_41 gl_42 => (isBo r_35 ∧ (Q r_35 ga_36 gg_37 gb_38 gu_39 gh_40 gk_41 gl_42))))))))) ∧ (¬ r_17 = 0 → (F_X6_and my gs ga_18 gb gu gk gl (fun r_43 ga_44 gb_45 gu_46 gk_47 gl_48 => (isBo r_43 ∧ (Q r_43 ga_44 (1 : Int32) gb_45 gu_46 gh gk_47 gl_48)))))))) := h
  refine g_aload_n C 0 dX6_number_0 rfl rfl ?_
  refine g_bipush C (71 : Int32) dX6_number_1 (by decide) ?_
  refine k_X6_accepts C gX6_number_X6_accepts ⟨Nat.le_of_ble_eq_true rfl, Nat.le_of_ble_eq_true rfl⟩ (Nat.le_of_ble_eq_true rfl) dX6_number_3  h (fun r_17 ga_18 h => ?_)
  refine g_if_eq C 19 dX6_number_6 (by decide) (fun c_19 => ?_) (fun c_19 => ?_)
  · replace h := h.1 c_19
    refine g_aload_n C 0 dX6_number_19 rfl rfl ?_
    refine g_bipush C (72 : Int32) dX6_number_20 (by decide) ?_
    refine k_X6_accepts C gX6_number_X6_accepts ⟨Nat.le_of_ble_eq_true rfl, Nat.le_of_ble_eq_true rfl⟩ (Nat.le_of_ble_eq_true rfl) dX6_number_22  h (fun r_20 ga_21 h => ?_)
    refine g_if_eq C 33 dX6_number_25 (by decide) (fun c_22 => ?_) (fun c_22 => ?_)
    · replace h := h.1 c_22
      refine g_aload_n C 0 dX6_number_33 rfl rfl ?_
      refine g_bipush C (97 : Int32) dX6_number_34 (by decide) ?_
      refine k_X6_unitFrom C gX6_number_X6_unitFrom ⟨Nat.le_of_ble_eq_true rfl, Nat.le_of_ble_eq_true rfl⟩ (Nat.le_of_ble_eq_true rfl) dX6_number_36  h (fun r_23 ga_24 h => ?_)
      refine g_istore_n C (lv2 := [(1, .int r_23), (0, .ref (ad 0))]) dX6_number_39 rfl (by decide) rfl ?_
      refine g_iload_n C 0 dX6_number_40 rfl rfl ?_
      refine g_iconst C (1 : Int32) dX6_number_41 (by decide) ?_
      refine g_icmp_le C 64 dX6_number_42 (by decide) (fun c_25 => ?_) (fun c_25 => ?_)
      · replace h := h.1 c_25
        exact g_sub [1, 0] rfl (t_B_X6_number_64 C hrt9 hlk  r_23 ga_24 gg gb gu gh gk gl  h)
      · replace h := h.2 c_25
        refine g_aload_n C 1 dX6_number_45 rfl rfl ?_
        refine g_bipush C (71 : Int32) dX6_number_46 (by decide) ?_
        refine k_X6_accepts C gX6_number_X6_accepts ⟨Nat.le_of_ble_eq_true rfl, Nat.le_of_ble_eq_true rfl⟩ (Nat.le_of_ble_eq_true rfl) dX6_number_48  h (fun r_26 ga_27 h => ?_)
        refine g_if_eq C 64 dX6_number_51 (by decide) (fun c_28 => ?_) (fun c_28 => ?_)
        · replace h := h.1 c_28
          exact g_sub [1, 0] rfl (t_B_X6_number_64 C hrt9 hlk  r_23 ga_27 gg gb gu gh gk gl  h)
        · replace h := h.2 c_28
          refine g_aload_n C 1 dX6_number_54 rfl rfl ?_
          refine g_iload_n C 0 dX6_number_55 rfl rfl ?_
          refine g_put C inX6_number_6 tyX6 tyX6_ok nmX6 0 WMg0 rfl 10 (by decide) lkX6_number_84 rfl rfl rfl (Nat.le_of_ble_eq_true rfl) (WMs_gg) dX6_number_56 ?_
          refine g_aload_n C 1 dX6_number_59 rfl rfl ?_
          refine k_X6_and C gX6_number_X6_and ⟨Nat.le_of_ble_eq_true rfl, Nat.le_of_ble_eq_true rfl⟩ (Nat.le_of_ble_eq_true rfl) dX6_number_60  h (fun r_29 ga_30 gb_31 gu_32 gk_33 gl_34 h => ?_)
          exact g_zret C hrt9 hlk h.1.n (u := (ga_30, r_23, gb_31, gu_32, gh, gk_33, gl_34)) rfl h.2 dX6_number_63
    · replace h := h.2 c_22
      refine g_aload_n C 0 dX6_number_28 rfl rfl ?_
      refine k_X6_half C gX6_number_X6_half ⟨Nat.le_of_ble_eq_true rfl, Nat.le_of_ble_eq_true rfl⟩ (Nat.le_of_ble_eq_true rfl) dX6_number_29  h (fun r_35 ga_36 gg_37 gb_38 gu_39 gh_40 gk_41 gl_42 h => ?_)
      exact g_zret C hrt9 hlk h.1.n (u := (ga_36, gg_37, gb_38, gu_39, gh_40, gk_41, gl_42)) rfl h.2 dX6_number_32
  · replace h := h.2 c_19
    refine g_aload_n C 0 dX6_number_9 rfl rfl ?_
    refine g_iconst C (1 : Int32) dX6_number_10 (by decide) ?_
    refine g_put C inX6_number_6 tyX6 tyX6_ok nmX6 0 WMg0 rfl 10 (by decide) lkX6_number_84 rfl rfl rfl (Nat.le_of_ble_eq_true rfl) (WMs_gg) dX6_number_11 ?_
    refine g_aload_n C 0 dX6_number_14 rfl rfl ?_
    refine k_X6_and C gX6_number_X6_and ⟨Nat.le_of_ble_eq_true rfl, Nat.le_of_ble_eq_true rfl⟩ (Nat.le_of_ble_eq_true rfl) dX6_number_15  h (fun r_43 ga_44 gb_45 gu_46 gk_47 gl_48 h => ?_)
    exact g_zret C hrt9 hlk h.1.n (u := (ga_44, (1 : Int32), gb_45, gu_46, gh, gk_47, gl_48)) rfl h.2 dX6_number_18
theorem c_X6_number (l : Launch) (D : va_G) (A : Nat → Prop) (ad : Nat → Nat) (cA : Nat → ClassId)  {ms : (Nat → Int32)} {mb : (Nat → Int32)} {my : (Nat → Int32)} {mt : (Nat → Int32)} {mw : (Nat → Int32)} {ml : (Nat → Int32)} {mo : (Nat → Int32)} {gm : Int32} {gs : Int32} {ga : Int32} {gg : Int32} {gb : Int32} {gu : Int32} {gh : Int32} {gk : Int32} {gl : Int32} {gn : Int32} {gt : Int32}  (Q : Int32 → Int32 → Int32 → Int32 → Int32 → Int32 → Int32 → Int32 → Prop) (h : F_X6_number my gs ga gg gb gu gh gk gl Q) : Met l yX6_number wsX6_number rmX6_number (va_Pc [.ref (ad 0)] (OKX D (tysX cA) (WM ad cA ms mb my mt mw ml mo gm gs ga gg gb gu gh gk gl gn gt) A)) (QC_X6_number D A ad cA ms mb my mt mw ml mo gm gs gn gt Q) 0 0 A :=
  g_met (own := RX6) (by decide) rfl rfl (Nat.le_of_ble_eq_true rfl) (fun p e s m below meth c C hrt9 hlk _ => g_sub [0] rfl (t_B_X6_number_0 C hrt9 hlk  ga gg gb gu gh gk gl  h))
theorem k_X6_number {ws : List Cond} {own : String} {cc : ByteArray} {nL pc index : Nat} {lv : List (Nat × Value)} {st : List Value} {Q : State → Prop} {R : Room} {K : Int32 → Int32 → Int32 → Int32 → Int32 → Int32 → Int32 → Int32 → Prop}  (C : CxX p s m args c D (tysX cA) own cc nL ws) (hT : GoodIn ws (wsV own index RX6 yX6_number wsX6_number)) (hR : rmX6_number.frames + 1 ≤ R.frames ∧ 8 + (2 + 11) + rmX6_number.locals ≤ R.locals) (hcat : (st.map fun v => v.category).sum ≤ 8) (hdg : decode cc pc = .ok (.invokevirtual index, 3))  (h : F_X6_number my gs ga gg gb gu gh gk gl K) (kk : ∀ (r : Int32) (gaq : Int32) (ggq : Int32) (gbq : Int32) (guq : Int32) (ghq : Int32) (gkq : Int32) (glq : Int32), K r gaq ggq gbq guq ghq gkq glq → GoX p l e R s m args below meth c D A nL 0 0 Q (pc + 3) lv (.int r :: st) (WM ad cA ms mb my mt mw ml mo gm gs gaq ggq gbq guq ghq gkq glq gn gt)) : GoX p l e R s m args below meth c D A nL 0 0 Q pc lv (.ref (ad 0) :: st) (WM ad cA ms mb my mt mw ml mo gm gs ga gg gb gu gh gk gl gn gt) :=
  g_callVi C (As := []) 0 (c_X6_number l D A ad cA   K h) hT rfl rfl rfl (by decide +kernel) hR 0 WMg0 rfl rfl rfl hcat hdg (fun r u hu => kk r u.1 u.2.1 u.2.2.1 u.2.2.2.1 u.2.2.2.2.1 u.2.2.2.2.2.1 u.2.2.2.2.2.2 hu)
/-! X6_faultOf -/
abbrev rmX6_faultOf : Room := { frames := 8, cells := 0, slots := 0, locals := 167 }
abbrev QC_X6_faultOf (D : va_G) (A : Nat → Prop) (ad : Nat → Nat) (cA : Nat → ClassId) (ms : (Nat → Int32)) (mb : (Nat → Int32)) (my : (Nat → Int32)) (mt : (Nat → Int32)) (mw : (Nat → Int32)) (ml : (Nat → Int32)) (mo : (Nat → Int32)) (gm : Int32) (gn : Int32) (gt : Int32) (Q : Int32 → Int32 → Int32 → Int32 → Int32 → Int32 → Int32 → Int32 → Int32 → Prop) : Array Value → State → Outcome → State → Prop := va_Qi (fun (r : Int32) (u : Int32 × Int32 × Int32 × Int32 × Int32 × Int32 × Int32 × Int32) => Q r u.1 u.2.1 u.2.2.1 u.2.2.2.1 u.2.2.2.2.1 u.2.2.2.2.2.1 u.2.2.2.2.2.2.1 u.2.2.2.2.2.2.2) (fun u t => OKX D (tysX cA) ((fun u : Int32 × Int32 × Int32 × Int32 × Int32 × Int32 × Int32 × Int32 => WM ad cA ms mb my mt mw ml mo gm u.1 u.2.1 u.2.2.1 u.2.2.2.1 u.2.2.2.2.1 u.2.2.2.2.2.1 u.2.2.2.2.2.2.1 u.2.2.2.2.2.2.2 gn gt) u) A t) A
abbrev QP_X6_faultOf (D : va_G) (A : Nat → Prop) (ad : Nat → Nat) (cA : Nat → ClassId) (ms : (Nat → Int32)) (mb : (Nat → Int32)) (my : (Nat → Int32)) (mt : (Nat → Int32)) (mw : (Nat → Int32)) (ml : (Nat → Int32)) (mo : (Nat → Int32)) (gm : Int32) (gn : Int32) (gt : Int32) (Q : Int32 → Int32 → Int32 → Int32 → Int32 → Int32 → Int32 → Int32 → Int32 → Prop) (below : List Frame) (args : Array Value) (s : State) : State → Prop := MQ below (QC_X6_faultOf D A ad cA ms mb my mt mw ml mo gm gn gt Q) args s 0 0 A
def B_X6_faultOf_68  (Q : Int32 → Int32 → Int32 → Int32 → Int32 → Int32 → Int32 → Int32 → Int32 → Prop) (my : (Nat → Int32)) (s0 : Int32) (gs : Int32) (ga : Int32) (gg : Int32) (gb : Int32) (gu : Int32) (gh : Int32) (gk : Int32) (gl : Int32) : Prop := (Q s0 gs ga gg gb gu gh gk gl)
def B_X6_faultOf_64  (Q : Int32 → Int32 → Int32 → Int32 → Int32 → Int32 → Int32 → Int32 → Int32 → Prop) (my : (Nat → Int32))  (gs : Int32) (ga : Int32) (gg : Int32) (gb : Int32) (gu : Int32) (gh : Int32) (gk : Int32) (gl : Int32) : Prop := (B_X6_faultOf_68  Q my ga gs ga gg gb gu gh gk gl)
def B_X6_faultOf_0  (Q : Int32 → Int32 → Int32 → Int32 → Int32 → Int32 → Int32 → Int32 → Int32 → Prop) (my : (Nat → Int32)) (v1 : Int32) (gs : Int32) (ga : Int32) (gg : Int32) (gb : Int32) (gu : Int32) (gh : Int32) (gk : Int32) (gl : Int32) : Prop := (F_X6_number my v1 (0 : Int32) (0 : Int32) (0 : Int32) (0 : Int32) (0 : Int32) (0 : Int32) (0 : Int32) (fun r_1 ga_2 gg_3 gb_4 gu_5 gh_6 gk_7 gl_8 => ((r_1 = 0 → (B_X6_faultOf_64  Q my v1 ga_2 gg_3 gb_4 gu_5 gh_6 gk_7 gl_8)) ∧ (¬ r_1 = 0 → ((ga_2 = v1 → (B_X6_faultOf_68  Q my (-1 : Int32) v1 ga_2 gg_3 gb_4 gu_5 gh_6 gk_7 gl_8)) ∧ (¬ ga_2 = v1 → (B_X6_faultOf_64  Q my v1 ga_2 gg_3 gb_4 gu_5 gh_6 gk_7 gl_8)))))))
def F_X6_faultOf (v1 : Int32) (my : (Nat → Int32)) (gs : Int32) (ga : Int32) (gg : Int32) (gb : Int32) (gu : Int32) (gh : Int32) (gk : Int32) (gl : Int32) (Q : Int32 → Int32 → Int32 → Int32 → Int32 → Int32 → Int32 → Int32 → Int32 → Prop) : Prop := B_X6_faultOf_0 Q my v1 gs ga gg gb gu gh gk gl
theorem lkX6_faultOf_71 : Cond.fieldLink RX6 71 (TX6 15).1 (TX6 15).2.1 (TX6 15).2.2.1 ∈ wsX6_faultOf := by decide +kernel
theorem lkX6_faultOf_56 : Cond.fieldLink RX6 56 (TX6 14).1 (TX6 14).2.1 (TX6 14).2.2.1 ∈ wsX6_faultOf := by decide +kernel
theorem lkX6_faultOf_87 : Cond.fieldLink RX6 87 (TX6 13).1 (TX6 13).2.1 (TX6 13).2.2.1 ∈ wsX6_faultOf := by decide +kernel
theorem lkX6_faultOf_64 : Cond.fieldLink RX6 64 (TX6 12).1 (TX6 12).2.1 (TX6 12).2.2.1 ∈ wsX6_faultOf := by decide +kernel
theorem lkX6_faultOf_53 : Cond.fieldLink RX6 53 (TX6 11).1 (TX6 11).2.1 (TX6 11).2.2.1 ∈ wsX6_faultOf := by decide +kernel
theorem lkX6_faultOf_84 : Cond.fieldLink RX6 84 (TX6 10).1 (TX6 10).2.1 (TX6 10).2.2.1 ∈ wsX6_faultOf := by decide +kernel
theorem lkX6_faultOf_43 : Cond.fieldLink RX6 43 (TX6 8).1 (TX6 8).2.1 (TX6 8).2.2.1 ∈ wsX6_faultOf := by decide +kernel
theorem lkX6_faultOf_40 : Cond.fieldLink RX6 40 (TX6 9).1 (TX6 9).2.1 (TX6 9).2.2.1 ∈ wsX6_faultOf := by decide +kernel
theorem inX6_faultOf_6 : ∀ q ∈ u_ws RX6 TX6 18, q ∈ wsX6_faultOf := by decide +kernel
set_option maxHeartbeats 4000000 in
set_option maxRecDepth 100000 in
theorem t_B_X6_faultOf_68  {Q : Int32 → Int32 → Int32 → Int32 → Int32 → Int32 → Int32 → Int32 → Int32 → Prop} (C : CxX p s m args c D (tysX cA) RX6 cX6_faultOf 3 wsX6_faultOf) (hrt9 : meth.sig.returnType = (some .int)) (hlk : meth.locks = false) (s0 : Int32) (gs : Int32) (ga : Int32) (gg : Int32) (gb : Int32) (gu : Int32) (gh : Int32) (gk : Int32) (gl : Int32)  (h : B_X6_faultOf_68  Q my s0 gs ga gg gb gu gh gk gl) : GoX p l e rmX6_faultOf s m args below meth c D A 3 0 0 (QP_X6_faultOf D A ad cA ms mb my mt mw ml mo gm gn gt Q below args s) 68 [] [.int s0] (WM ad cA ms mb my mt mw ml mo gm gs ga gg gb gu gh gk gl gn gt) := by
  replace h : (Q s0 gs ga gg gb gu gh gk gl) := h
  exact g_iret C hrt9 hlk (u := (gs, ga, gg, gb, gu, gh, gk, gl)) rfl h dX6_faultOf_68
set_option maxHeartbeats 4000000 in
set_option maxRecDepth 100000 in
theorem t_B_X6_faultOf_64  {Q : Int32 → Int32 → Int32 → Int32 → Int32 → Int32 → Int32 → Int32 → Int32 → Prop} (C : CxX p s m args c D (tysX cA) RX6 cX6_faultOf 3 wsX6_faultOf) (hrt9 : meth.sig.returnType = (some .int)) (hlk : meth.locks = false)  (gs : Int32) (ga : Int32) (gg : Int32) (gb : Int32) (gu : Int32) (gh : Int32) (gk : Int32) (gl : Int32)  (h : B_X6_faultOf_64  Q my gs ga gg gb gu gh gk gl) : GoX p l e rmX6_faultOf s m args below meth c D A 3 0 0 (QP_X6_faultOf D A ad cA ms mb my mt mw ml mo gm gn gt Q below args s) 64 [(0, .ref (ad 0))] [] (WM ad cA ms mb my mt mw ml mo gm gs ga gg gb gu gh gk gl gn gt) := by
  replace h : (B_X6_faultOf_68  Q my ga gs ga gg gb gu gh gk gl) := h
  refine g_aload_n C 0 dX6_faultOf_64 rfl rfl ?_
  refine g_get C inX6_faultOf_6 0 WMg0 rfl 9 (by decide) lkX6_faultOf_40 rfl dX6_faultOf_65 ?_
  exact g_sub [] rfl (t_B_X6_faultOf_68 C hrt9 hlk  ga gs ga gg gb gu gh gk gl  h)
set_option maxHeartbeats 4000000 in
set_option maxRecDepth 100000 in
theorem t_B_X6_faultOf_0  {Q : Int32 → Int32 → Int32 → Int32 → Int32 → Int32 → Int32 → Int32 → Int32 → Prop} (C : CxX p s m args c D (tysX cA) RX6 cX6_faultOf 3 wsX6_faultOf) (hrt9 : meth.sig.returnType = (some .int)) (hlk : meth.locks = false) (v1 : Int32) (gs : Int32) (ga : Int32) (gg : Int32) (gb : Int32) (gu : Int32) (gh : Int32) (gk : Int32) (gl : Int32)  (h : B_X6_faultOf_0  Q my v1 gs ga gg gb gu gh gk gl) : GoX p l e rmX6_faultOf s m args below meth c D A 3 0 0 (QP_X6_faultOf D A ad cA ms mb my mt mw ml mo gm gn gt Q below args s) 0 [(0, .ref (ad 0)), (1, .int v1)] [] (WM ad cA ms mb my mt mw ml mo gm gs ga gg gb gu gh gk gl gn gt) := by
  replace h : (F_X6_number my v1 (0 : Int32) (0 : Int32) (0 : Int32) (0 : Int32) (0 : Int32) (0 : Int32) (0 : Int32) (fun r_1 ga_2 gg_3 gb_4 gu_5 gh_6 gk_7 gl_8 => ((r_1 = 0 → (B_X6_faultOf_64  Q my v1 ga_2 gg_3 gb_4 gu_5 gh_6 gk_7 gl_8)) ∧ (¬ r_1 = 0 → ((ga_2 = v1 → (B_X6_faultOf_68  Q my (-1 : Int32) v1 ga_2 gg_3 gb_4 gu_5 gh_6 gk_7 gl_8)) ∧ (¬ ga_2 = v1 → (B_X6_faultOf_64  Q my v1 ga_2 gg_3 gb_4 gu_5 gh_6 gk_7 gl_8))))))) := h
  refine g_aload_n C 0 dX6_faultOf_0 rfl rfl ?_
  refine g_iload_n C 1 dX6_faultOf_1 rfl rfl ?_
  refine g_put C inX6_faultOf_6 tyX6 tyX6_ok nmX6 0 WMg0 rfl 8 (by decide) lkX6_faultOf_43 rfl rfl rfl (Nat.le_of_ble_eq_true rfl) (WMs_gs) dX6_faultOf_2 ?_
  refine g_aload_n C 0 dX6_faultOf_5 rfl rfl ?_
  refine g_iconst C (0 : Int32) dX6_faultOf_6 (by decide) ?_
  refine g_put C inX6_faultOf_6 tyX6 tyX6_ok nmX6 0 WMg0 rfl 9 (by decide) lkX6_faultOf_40 rfl rfl rfl (Nat.le_of_ble_eq_true rfl) (WMs_ga) dX6_faultOf_7 ?_
  refine g_aload_n C 0 dX6_faultOf_10 rfl rfl ?_
  refine g_iconst C (0 : Int32) dX6_faultOf_11 (by decide) ?_
  refine g_put C inX6_faultOf_6 tyX6 tyX6_ok nmX6 0 WMg0 rfl 10 (by decide) lkX6_faultOf_84 rfl rfl rfl (Nat.le_of_ble_eq_true rfl) (WMs_gg) dX6_faultOf_12 ?_
  refine g_aload_n C 0 dX6_faultOf_15 rfl rfl ?_
  refine g_iconst C (0 : Int32) dX6_faultOf_16 (by decide) ?_
  refine g_put C inX6_faultOf_6 tyX6 tyX6_ok nmX6 0 WMg0 rfl 11 (by decide) lkX6_faultOf_53 rfl rfl rfl (Nat.le_of_ble_eq_true rfl) (WMs_gb) dX6_faultOf_17 ?_
  refine g_aload_n C 0 dX6_faultOf_20 rfl rfl ?_
  refine g_iconst C (0 : Int32) dX6_faultOf_21 (by decide) ?_
  refine g_put C inX6_faultOf_6 tyX6 tyX6_ok nmX6 0 WMg0 rfl 12 (by decide) lkX6_faultOf_64 rfl rfl rfl (Nat.le_of_ble_eq_true rfl) (WMs_gu) dX6_faultOf_22 ?_
  refine g_aload_n C 0 dX6_faultOf_25 rfl rfl ?_
  refine g_iconst C (0 : Int32) dX6_faultOf_26 (by decide) ?_
  refine g_put C inX6_faultOf_6 tyX6 tyX6_ok nmX6 0 WMg0 rfl 13 (by decide) lkX6_faultOf_87 rfl rfl rfl (Nat.le_of_ble_eq_true rfl) (WMs_gh) dX6_faultOf_27 ?_
  refine g_aload_n C 0 dX6_faultOf_30 rfl rfl ?_
  refine g_iconst C (0 : Int32) dX6_faultOf_31 (by decide) ?_
  refine g_put C inX6_faultOf_6 tyX6 tyX6_ok nmX6 0 WMg0 rfl 14 (by decide) lkX6_faultOf_56 rfl rfl rfl (Nat.le_of_ble_eq_true rfl) (WMs_gk) dX6_faultOf_32 ?_
  refine g_aload_n C 0 dX6_faultOf_35 rfl rfl ?_
  refine g_iconst C (0 : Int32) dX6_faultOf_36 (by decide) ?_
  refine g_put C inX6_faultOf_6 tyX6 tyX6_ok nmX6 0 WMg0 rfl 15 (by decide) lkX6_faultOf_71 rfl rfl rfl (Nat.le_of_ble_eq_true rfl) (WMs_gl) dX6_faultOf_37 ?_
  refine g_aload_n C 0 dX6_faultOf_40 rfl rfl ?_
  refine k_X6_number C gX6_faultOf_X6_number ⟨Nat.le_of_ble_eq_true rfl, Nat.le_of_ble_eq_true rfl⟩ (Nat.le_of_ble_eq_true rfl) dX6_faultOf_41  h (fun r_1 ga_2 gg_3 gb_4 gu_5 gh_6 gk_7 gl_8 h => ?_)
  refine g_istore_n C (lv2 := [(2, .int r_1), (0, .ref (ad 0)), (1, .int v1)]) dX6_faultOf_44 rfl (by decide) rfl ?_
  refine g_iload_n C 0 dX6_faultOf_45 rfl rfl ?_
  refine g_if_eq C 64 dX6_faultOf_46 (by decide) (fun c_9 => ?_) (fun c_9 => ?_)
  · replace h := h.1 c_9
    exact g_sub [1] rfl (t_B_X6_faultOf_64 C hrt9 hlk  v1 ga_2 gg_3 gb_4 gu_5 gh_6 gk_7 gl_8  h)
  · replace h := h.2 c_9
    refine g_aload_n C 1 dX6_faultOf_49 rfl rfl ?_
    refine g_get C inX6_faultOf_6 0 WMg0 rfl 9 (by decide) lkX6_faultOf_40 rfl dX6_faultOf_50 ?_
    refine g_aload_n C 1 dX6_faultOf_53 rfl rfl ?_
    refine g_get C inX6_faultOf_6 0 WMg0 rfl 8 (by decide) lkX6_faultOf_43 rfl dX6_faultOf_54 ?_
    refine g_icmp_ne C 64 dX6_faultOf_57 (by decide) (fun c_10 => ?_) (fun c_10 => ?_)
    · replace h := h.2 c_10
      exact g_sub [1] rfl (t_B_X6_faultOf_64 C hrt9 hlk  v1 ga_2 gg_3 gb_4 gu_5 gh_6 gk_7 gl_8  h)
    · replace h := h.1 c_10
      refine g_iconst C (-1 : Int32) dX6_faultOf_60 (by decide) ?_
      refine g_goto C 68 dX6_faultOf_61 (by decide) ?_
      exact g_sub [] rfl (t_B_X6_faultOf_68 C hrt9 hlk  (-1 : Int32) v1 ga_2 gg_3 gb_4 gu_5 gh_6 gk_7 gl_8  h)
theorem c_X6_faultOf (l : Launch) (D : va_G) (A : Nat → Prop) (ad : Nat → Nat) (cA : Nat → ClassId) (v1 : Int32) {ms : (Nat → Int32)} {mb : (Nat → Int32)} {my : (Nat → Int32)} {mt : (Nat → Int32)} {mw : (Nat → Int32)} {ml : (Nat → Int32)} {mo : (Nat → Int32)} {gm : Int32} {gs : Int32} {ga : Int32} {gg : Int32} {gb : Int32} {gu : Int32} {gh : Int32} {gk : Int32} {gl : Int32} {gn : Int32} {gt : Int32}  (Q : Int32 → Int32 → Int32 → Int32 → Int32 → Int32 → Int32 → Int32 → Int32 → Prop) (h : F_X6_faultOf v1 my gs ga gg gb gu gh gk gl Q) : Met l yX6_faultOf wsX6_faultOf rmX6_faultOf (va_Pc [.ref (ad 0), .int v1] (OKX D (tysX cA) (WM ad cA ms mb my mt mw ml mo gm gs ga gg gb gu gh gk gl gn gt) A)) (QC_X6_faultOf D A ad cA ms mb my mt mw ml mo gm gn gt Q) 0 0 A :=
  g_met (own := RX6) (by decide) rfl rfl (Nat.le_of_ble_eq_true rfl) (fun p e s m below meth c C hrt9 hlk _ => g_sub [0, 1] rfl (t_B_X6_faultOf_0 C hrt9 hlk v1 gs ga gg gb gu gh gk gl  h))
theorem k_X6_faultOf {ws : List Cond} {own : String} {cc : ByteArray} {nL pc index : Nat} {lv : List (Nat × Value)} {st : List Value} {Q : State → Prop} {R : Room} {K : Int32 → Int32 → Int32 → Int32 → Int32 → Int32 → Int32 → Int32 → Int32 → Prop} {v1 : Int32} (C : CxX p s m args c D (tysX cA) own cc nL ws) (hT : GoodIn ws (wsV own index RX6 yX6_faultOf wsX6_faultOf)) (hR : rmX6_faultOf.frames + 1 ≤ R.frames ∧ 8 + (3 + 11) + rmX6_faultOf.locals ≤ R.locals) (hcat : (st.map fun v => v.category).sum ≤ 8) (hdg : decode cc pc = .ok (.invokevirtual index, 3))  (h : F_X6_faultOf v1 my gs ga gg gb gu gh gk gl K) (kk : ∀ (r : Int32) (gsq : Int32) (gaq : Int32) (ggq : Int32) (gbq : Int32) (guq : Int32) (ghq : Int32) (gkq : Int32) (glq : Int32), K r gsq gaq ggq gbq guq ghq gkq glq → GoX p l e R s m args below meth c D A nL 0 0 Q (pc + 3) lv (.int r :: st) (WM ad cA ms mb my mt mw ml mo gm gsq gaq ggq gbq guq ghq gkq glq gn gt)) : GoX p l e R s m args below meth c D A nL 0 0 Q pc lv (.int v1 :: .ref (ad 0) :: st) (WM ad cA ms mb my mt mw ml mo gm gs ga gg gb gu gh gk gl gn gt) :=
  g_callVi C (As := [.int v1]) 1 (c_X6_faultOf l D A ad cA v1  K h) hT rfl rfl rfl (by decide +kernel) hR 0 WMg0 rfl rfl rfl hcat hdg (fun r u hu => kk r u.1 u.2.1 u.2.2.1 u.2.2.2.1 u.2.2.2.2.1 u.2.2.2.2.2.1 u.2.2.2.2.2.2.1 u.2.2.2.2.2.2.2 hu)
/-! X6_meaningBy -/
abbrev rmX6_meaningBy : Room := { frames := 0, cells := 0, slots := 0, locals := 0 }
abbrev QC_X6_meaningBy (D : va_G) (A : Nat → Prop) (ad : Nat → Nat) (cA : Nat → ClassId) (ms : (Nat → Int32)) (mb : (Nat → Int32)) (my : (Nat → Int32)) (mt : (Nat → Int32)) (mw : (Nat → Int32)) (ml : (Nat → Int32)) (mo : (Nat → Int32)) (gm : Int32) (gs : Int32) (ga : Int32) (gg : Int32) (gb : Int32) (gu : Int32) (gh : Int32) (gk : Int32) (gl : Int32) (gn : Int32) (gt : Int32) (Q : Int32 → Prop) : Array Value → State → Outcome → State → Prop := va_Qi (fun (r : Int32) (u : Unit) => Q r ) (fun u t => OKX D (tysX cA) ((fun u : Unit => WM ad cA ms mb my mt mw ml mo gm gs ga gg gb gu gh gk gl gn gt) u) A t) A
abbrev QP_X6_meaningBy (D : va_G) (A : Nat → Prop) (ad : Nat → Nat) (cA : Nat → ClassId) (ms : (Nat → Int32)) (mb : (Nat → Int32)) (my : (Nat → Int32)) (mt : (Nat → Int32)) (mw : (Nat → Int32)) (ml : (Nat → Int32)) (mo : (Nat → Int32)) (gm : Int32) (gs : Int32) (ga : Int32) (gg : Int32) (gb : Int32) (gu : Int32) (gh : Int32) (gk : Int32) (gl : Int32) (gn : Int32) (gt : Int32) (Q : Int32 → Prop) (below : List Frame) (args : Array Value) (s : State) : State → Prop := MQ below (QC_X6_meaningBy D A ad cA ms mb my mt mw ml mo gm gs ga gg gb gu gh gk gl gn gt Q) args s 0 0 A
def B_X6_meaningBy_98  (Q : Int32 → Prop) (gg : Int32) (gb : Int32) (gu : Int32) (gh : Int32) (gk : Int32) (gl : Int32) (s0 : Int32) (s1 : Int32)  : Prop := (Q (s0 + s1))
def B_X6_meaningBy_94  (Q : Int32 → Prop) (gg : Int32) (gb : Int32) (gu : Int32) (gh : Int32) (gk : Int32) (gl : Int32) (s0 : Int32)  : Prop := (B_X6_meaningBy_98  Q gg gb gu gh gk gl s0 gu)
def B_X6_meaningBy_67  (Q : Int32 → Prop) (gg : Int32) (gb : Int32) (gu : Int32) (gh : Int32) (gk : Int32) (gl : Int32) (v2 : Int32) (v5 : Int32) (s0 : Int32) (s1 : Int32)  : Prop := ((gl = 0 → (B_X6_meaningBy_94  Q gg gb gu gh gk gl (v5 + (s0 - s1)))) ∧ (¬ gl = 0 → ((v2 = 0 → (B_X6_meaningBy_94  Q gg gb gu gh gk gl (v5 + (s0 - s1)))) ∧ (¬ v2 = 0 → (B_X6_meaningBy_98  Q gg gb gu gh gk gl (v5 + (s0 - s1)) (-gu))))))
def B_X6_meaningBy_66  (Q : Int32 → Prop) (gg : Int32) (gb : Int32) (gu : Int32) (gh : Int32) (gk : Int32) (gl : Int32) (v2 : Int32) (v5 : Int32) (s0 : Int32)  : Prop := (B_X6_meaningBy_67  Q gg gb gu gh gk gl v2 v5 s0 (0 : Int32))
def B_X6_meaningBy_40  (Q : Int32 → Prop) (gg : Int32) (gb : Int32) (gu : Int32) (gh : Int32) (gk : Int32) (gl : Int32) (v1 : Int32) (v2 : Int32) (s0 : Int32) (s1 : Int32)  : Prop := ((gk = 0 → (B_X6_meaningBy_66  Q gg gb gu gh gk gl v2 (s0 - s1) ((20 : Int32) * gb))) ∧ (¬ gk = 0 → ((v1 = 0 → (B_X6_meaningBy_66  Q gg gb gu gh gk gl v2 (s0 - s1) ((20 : Int32) * gb))) ∧ (¬ v1 = 0 → (B_X6_meaningBy_67  Q gg gb gu gh gk gl v2 (s0 - s1) ((20 : Int32) * gb) (10 : Int32))))))
def B_X6_meaningBy_39  (Q : Int32 → Prop) (gg : Int32) (gb : Int32) (gu : Int32) (gh : Int32) (gk : Int32) (gl : Int32) (v1 : Int32) (v2 : Int32) (s0 : Int32)  : Prop := (B_X6_meaningBy_40  Q gg gb gu gh gk gl v1 v2 s0 (0 : Int32))
def B_X6_meaningBy_12  (Q : Int32 → Prop) (gg : Int32) (gb : Int32) (gu : Int32) (gh : Int32) (gk : Int32) (gl : Int32) (v1 : Int32) (v2 : Int32) (s0 : Int32)  : Prop := ((gh = 0 → (B_X6_meaningBy_39  Q gg gb gu gh gk gl v1 v2 (s0 * gg))) ∧ (¬ gh = 0 → ((v1 = 0 → (B_X6_meaningBy_39  Q gg gb gu gh gk gl v1 v2 (s0 * gg))) ∧ (¬ v1 = 0 → (B_X6_meaningBy_40  Q gg gb gu gh gk gl v1 v2 (s0 * gg) (s0 / (2 : Int32)))))))
def B_X6_meaningBy_0  (Q : Int32 → Prop) (gg : Int32) (gb : Int32) (gu : Int32) (gh : Int32) (gk : Int32) (gl : Int32) (v1 : Int32) (v2 : Int32) (v3 : Int32)  : Prop := ((v3 = 0 → (B_X6_meaningBy_12  Q gg gb gu gh gk gl v1 v2 (20 : Int32))) ∧ (¬ v3 = 0 → (B_X6_meaningBy_12  Q gg gb gu gh gk gl v1 v2 (400 : Int32))))
def F_X6_meaningBy (v1 : Int32) (v2 : Int32) (v3 : Int32) (gg : Int32) (gb : Int32) (gu : Int32) (gh : Int32) (gk : Int32) (gl : Int32)  (Q : Int32 → Prop) : Prop := B_X6_meaningBy_0 Q gg gb gu gh gk gl v1 v2 v3 
theorem lkX6_meaningBy_87 : Cond.fieldLink RX6 87 (TX6 13).1 (TX6 13).2.1 (TX6 13).2.2.1 ∈ wsX6_meaningBy := by decide +kernel
theorem lkX6_meaningBy_84 : Cond.fieldLink RX6 84 (TX6 10).1 (TX6 10).2.1 (TX6 10).2.2.1 ∈ wsX6_meaningBy := by decide +kernel
theorem lkX6_meaningBy_56 : Cond.fieldLink RX6 56 (TX6 14).1 (TX6 14).2.1 (TX6 14).2.2.1 ∈ wsX6_meaningBy := by decide +kernel
theorem lkX6_meaningBy_53 : Cond.fieldLink RX6 53 (TX6 11).1 (TX6 11).2.1 (TX6 11).2.2.1 ∈ wsX6_meaningBy := by decide +kernel
theorem lkX6_meaningBy_71 : Cond.fieldLink RX6 71 (TX6 15).1 (TX6 15).2.1 (TX6 15).2.2.1 ∈ wsX6_meaningBy := by decide +kernel
theorem lkX6_meaningBy_64 : Cond.fieldLink RX6 64 (TX6 12).1 (TX6 12).2.1 (TX6 12).2.2.1 ∈ wsX6_meaningBy := by decide +kernel
theorem inX6_meaningBy_6 : ∀ q ∈ u_ws RX6 TX6 18, q ∈ wsX6_meaningBy := by decide +kernel
set_option maxHeartbeats 4000000 in
set_option maxRecDepth 100000 in
theorem t_B_X6_meaningBy_98  {Q : Int32 → Prop} (C : CxX p s m args c D (tysX cA) RX6 cX6_meaningBy 7 wsX6_meaningBy) (hrt9 : meth.sig.returnType = (some .int)) (hlk : meth.locks = false) (s0 : Int32) (s1 : Int32)   (h : B_X6_meaningBy_98  Q gg gb gu gh gk gl s0 s1) : GoX p l e rmX6_meaningBy s m args below meth c D A 7 0 0 (QP_X6_meaningBy D A ad cA ms mb my mt mw ml mo gm gs ga gg gb gu gh gk gl gn gt Q below args s) 98 [] [.int s1, .int s0] (WM ad cA ms mb my mt mw ml mo gm gs ga gg gb gu gh gk gl gn gt) := by
  replace h : (Q (s0 + s1)) := h
  refine g_iadd C dX6_meaningBy_98 ?_
  exact g_iret C hrt9 hlk (u := ()) rfl h dX6_meaningBy_99
set_option maxHeartbeats 4000000 in
set_option maxRecDepth 100000 in
theorem t_B_X6_meaningBy_94  {Q : Int32 → Prop} (C : CxX p s m args c D (tysX cA) RX6 cX6_meaningBy 7 wsX6_meaningBy) (hrt9 : meth.sig.returnType = (some .int)) (hlk : meth.locks = false) (s0 : Int32)   (h : B_X6_meaningBy_94  Q gg gb gu gh gk gl s0) : GoX p l e rmX6_meaningBy s m args below meth c D A 7 0 0 (QP_X6_meaningBy D A ad cA ms mb my mt mw ml mo gm gs ga gg gb gu gh gk gl gn gt Q below args s) 94 [(0, .ref (ad 0))] [.int s0] (WM ad cA ms mb my mt mw ml mo gm gs ga gg gb gu gh gk gl gn gt) := by
  replace h : (B_X6_meaningBy_98  Q gg gb gu gh gk gl s0 gu) := h
  refine g_aload_n C 0 dX6_meaningBy_94 rfl rfl ?_
  refine g_get C inX6_meaningBy_6 0 WMg0 rfl 12 (by decide) lkX6_meaningBy_64 rfl dX6_meaningBy_95 ?_
  exact g_sub [] rfl (t_B_X6_meaningBy_98 C hrt9 hlk  s0 gu  h)
set_option maxHeartbeats 4000000 in
set_option maxRecDepth 100000 in
theorem t_B_X6_meaningBy_67  {Q : Int32 → Prop} (C : CxX p s m args c D (tysX cA) RX6 cX6_meaningBy 7 wsX6_meaningBy) (hrt9 : meth.sig.returnType = (some .int)) (hlk : meth.locks = false) (v2 : Int32) (v5 : Int32) (s0 : Int32) (s1 : Int32)   (h : B_X6_meaningBy_67  Q gg gb gu gh gk gl v2 v5 s0 s1) : GoX p l e rmX6_meaningBy s m args below meth c D A 7 0 0 (QP_X6_meaningBy D A ad cA ms mb my mt mw ml mo gm gs ga gg gb gu gh gk gl gn gt Q below args s) 67 [(0, .ref (ad 0)), (2, .int v2), (5, .int v5)] [.int s1, .int s0] (WM ad cA ms mb my mt mw ml mo gm gs ga gg gb gu gh gk gl gn gt) := by
  replace h : ((gl = 0 → (B_X6_meaningBy_94  Q gg gb gu gh gk gl (v5 + (s0 - s1)))) ∧ (¬ gl = 0 → ((v2 = 0 → (B_X6_meaningBy_94  Q gg gb gu gh gk gl (v5 + (s0 - s1)))) ∧ (¬ v2 = 0 → (B_X6_meaningBy_98  Q gg gb gu gh gk gl (v5 + (s0 - s1)) (-gu)))))) := h
  refine g_isub C dX6_meaningBy_67 ?_
  refine g_istore C (lv2 := [(6, .int (s0 - s1)), (0, .ref (ad 0)), (2, .int v2), (5, .int v5)]) dX6_meaningBy_68 (by decide) rfl ?_
  refine g_iload C 3 dX6_meaningBy_70 rfl ?_
  refine g_iload C 0 dX6_meaningBy_72 rfl ?_
  refine g_iadd C dX6_meaningBy_74 ?_
  refine g_aload_n C 1 dX6_meaningBy_75 rfl rfl ?_
  refine g_get C inX6_meaningBy_6 0 WMg0 rfl 15 (by decide) lkX6_meaningBy_71 rfl dX6_meaningBy_76 ?_
  refine g_if_eq C 94 dX6_meaningBy_79 (by decide) (fun c_1 => ?_) (fun c_1 => ?_)
  · replace h := h.1 c_1
    exact g_sub [1] rfl (t_B_X6_meaningBy_94 C hrt9 hlk  (v5 + (s0 - s1))  h)
  · replace h := h.2 c_1
    refine g_iload_n C 2 dX6_meaningBy_82 rfl rfl ?_
    refine g_if_eq C 94 dX6_meaningBy_83 (by decide) (fun c_2 => ?_) (fun c_2 => ?_)
    · replace h := h.1 c_2
      exact g_sub [1] rfl (t_B_X6_meaningBy_94 C hrt9 hlk  (v5 + (s0 - s1))  h)
    · replace h := h.2 c_2
      refine g_aload_n C 1 dX6_meaningBy_86 rfl rfl ?_
      refine g_get C inX6_meaningBy_6 0 WMg0 rfl 12 (by decide) lkX6_meaningBy_64 rfl dX6_meaningBy_87 ?_
      refine g_ineg C dX6_meaningBy_90 ?_
      refine g_goto C 98 dX6_meaningBy_91 (by decide) ?_
      exact g_sub [] rfl (t_B_X6_meaningBy_98 C hrt9 hlk  (v5 + (s0 - s1)) (-gu)  h)
set_option maxHeartbeats 4000000 in
set_option maxRecDepth 100000 in
theorem t_B_X6_meaningBy_66  {Q : Int32 → Prop} (C : CxX p s m args c D (tysX cA) RX6 cX6_meaningBy 7 wsX6_meaningBy) (hrt9 : meth.sig.returnType = (some .int)) (hlk : meth.locks = false) (v2 : Int32) (v5 : Int32) (s0 : Int32)   (h : B_X6_meaningBy_66  Q gg gb gu gh gk gl v2 v5 s0) : GoX p l e rmX6_meaningBy s m args below meth c D A 7 0 0 (QP_X6_meaningBy D A ad cA ms mb my mt mw ml mo gm gs ga gg gb gu gh gk gl gn gt Q below args s) 66 [(0, .ref (ad 0)), (2, .int v2), (5, .int v5)] [.int s0] (WM ad cA ms mb my mt mw ml mo gm gs ga gg gb gu gh gk gl gn gt) := by
  replace h : (B_X6_meaningBy_67  Q gg gb gu gh gk gl v2 v5 s0 (0 : Int32)) := h
  refine g_iconst C (0 : Int32) dX6_meaningBy_66 (by decide) ?_
  exact g_sub [0, 1, 2] rfl (t_B_X6_meaningBy_67 C hrt9 hlk  v2 v5 s0 (0 : Int32)  h)
set_option maxHeartbeats 4000000 in
set_option maxRecDepth 100000 in
theorem t_B_X6_meaningBy_40  {Q : Int32 → Prop} (C : CxX p s m args c D (tysX cA) RX6 cX6_meaningBy 7 wsX6_meaningBy) (hrt9 : meth.sig.returnType = (some .int)) (hlk : meth.locks = false) (v1 : Int32) (v2 : Int32) (s0 : Int32) (s1 : Int32)   (h : B_X6_meaningBy_40  Q gg gb gu gh gk gl v1 v2 s0 s1) : GoX p l e rmX6_meaningBy s m args below meth c D A 7 0 0 (QP_X6_meaningBy D A ad cA ms mb my mt mw ml mo gm gs ga gg gb gu gh gk gl gn gt Q below args s) 40 [(0, .ref (ad 0)), (1, .int v1), (2, .int v2)] [.int s1, .int s0] (WM ad cA ms mb my mt mw ml mo gm gs ga gg gb gu gh gk gl gn gt) := by
  replace h : ((gk = 0 → (B_X6_meaningBy_66  Q gg gb gu gh gk gl v2 (s0 - s1) ((20 : Int32) * gb))) ∧ (¬ gk = 0 → ((v1 = 0 → (B_X6_meaningBy_66  Q gg gb gu gh gk gl v2 (s0 - s1) ((20 : Int32) * gb))) ∧ (¬ v1 = 0 → (B_X6_meaningBy_67  Q gg gb gu gh gk gl v2 (s0 - s1) ((20 : Int32) * gb) (10 : Int32)))))) := h
  refine g_isub C dX6_meaningBy_40 ?_
  refine g_istore C (lv2 := [(5, .int (s0 - s1)), (0, .ref (ad 0)), (1, .int v1), (2, .int v2)]) dX6_meaningBy_41 (by decide) rfl ?_
  refine g_bipush C (20 : Int32) dX6_meaningBy_43 (by decide) ?_
  refine g_aload_n C 1 dX6_meaningBy_45 rfl rfl ?_
  refine g_get C inX6_meaningBy_6 0 WMg0 rfl 11 (by decide) lkX6_meaningBy_53 rfl dX6_meaningBy_46 ?_
  refine g_imul C dX6_meaningBy_49 ?_
  refine g_aload_n C 1 dX6_meaningBy_50 rfl rfl ?_
  refine g_get C inX6_meaningBy_6 0 WMg0 rfl 14 (by decide) lkX6_meaningBy_56 rfl dX6_meaningBy_51 ?_
  refine g_if_eq C 66 dX6_meaningBy_54 (by decide) (fun c_3 => ?_) (fun c_3 => ?_)
  · replace h := h.1 c_3
    exact g_sub [1, 3, 0] rfl (t_B_X6_meaningBy_66 C hrt9 hlk  v2 (s0 - s1) ((20 : Int32) * gb)  h)
  · replace h := h.2 c_3
    refine g_iload_n C 2 dX6_meaningBy_57 rfl rfl ?_
    refine g_if_eq C 66 dX6_meaningBy_58 (by decide) (fun c_4 => ?_) (fun c_4 => ?_)
    · replace h := h.1 c_4
      exact g_sub [1, 3, 0] rfl (t_B_X6_meaningBy_66 C hrt9 hlk  v2 (s0 - s1) ((20 : Int32) * gb)  h)
    · replace h := h.2 c_4
      refine g_bipush C (10 : Int32) dX6_meaningBy_61 (by decide) ?_
      refine g_goto C 67 dX6_meaningBy_63 (by decide) ?_
      exact g_sub [1, 3, 0] rfl (t_B_X6_meaningBy_67 C hrt9 hlk  v2 (s0 - s1) ((20 : Int32) * gb) (10 : Int32)  h)
set_option maxHeartbeats 4000000 in
set_option maxRecDepth 100000 in
theorem t_B_X6_meaningBy_39  {Q : Int32 → Prop} (C : CxX p s m args c D (tysX cA) RX6 cX6_meaningBy 7 wsX6_meaningBy) (hrt9 : meth.sig.returnType = (some .int)) (hlk : meth.locks = false) (v1 : Int32) (v2 : Int32) (s0 : Int32)   (h : B_X6_meaningBy_39  Q gg gb gu gh gk gl v1 v2 s0) : GoX p l e rmX6_meaningBy s m args below meth c D A 7 0 0 (QP_X6_meaningBy D A ad cA ms mb my mt mw ml mo gm gs ga gg gb gu gh gk gl gn gt Q below args s) 39 [(0, .ref (ad 0)), (1, .int v1), (2, .int v2)] [.int s0] (WM ad cA ms mb my mt mw ml mo gm gs ga gg gb gu gh gk gl gn gt) := by
  replace h : (B_X6_meaningBy_40  Q gg gb gu gh gk gl v1 v2 s0 (0 : Int32)) := h
  refine g_iconst C (0 : Int32) dX6_meaningBy_39 (by decide) ?_
  exact g_sub [0, 1, 2] rfl (t_B_X6_meaningBy_40 C hrt9 hlk  v1 v2 s0 (0 : Int32)  h)
set_option maxHeartbeats 4000000 in
set_option maxRecDepth 100000 in
theorem t_B_X6_meaningBy_12  {Q : Int32 → Prop} (C : CxX p s m args c D (tysX cA) RX6 cX6_meaningBy 7 wsX6_meaningBy) (hrt9 : meth.sig.returnType = (some .int)) (hlk : meth.locks = false) (v1 : Int32) (v2 : Int32) (s0 : Int32)   (h : B_X6_meaningBy_12  Q gg gb gu gh gk gl v1 v2 s0) : GoX p l e rmX6_meaningBy s m args below meth c D A 7 0 0 (QP_X6_meaningBy D A ad cA ms mb my mt mw ml mo gm gs ga gg gb gu gh gk gl gn gt Q below args s) 12 [(0, .ref (ad 0)), (1, .int v1), (2, .int v2)] [.int s0] (WM ad cA ms mb my mt mw ml mo gm gs ga gg gb gu gh gk gl gn gt) := by
  replace h : ((gh = 0 → (B_X6_meaningBy_39  Q gg gb gu gh gk gl v1 v2 (s0 * gg))) ∧ (¬ gh = 0 → ((v1 = 0 → (B_X6_meaningBy_39  Q gg gb gu gh gk gl v1 v2 (s0 * gg))) ∧ (¬ v1 = 0 → (B_X6_meaningBy_40  Q gg gb gu gh gk gl v1 v2 (s0 * gg) (s0 / (2 : Int32))))))) := h
  refine g_istore C (lv2 := [(4, .int s0), (0, .ref (ad 0)), (1, .int v1), (2, .int v2)]) dX6_meaningBy_12 (by decide) rfl ?_
  refine g_iload C 0 dX6_meaningBy_14 rfl ?_
  refine g_aload_n C 1 dX6_meaningBy_16 rfl rfl ?_
  refine g_get C inX6_meaningBy_6 0 WMg0 rfl 10 (by decide) lkX6_meaningBy_84 rfl dX6_meaningBy_17 ?_
  refine g_imul C dX6_meaningBy_20 ?_
  refine g_aload_n C 1 dX6_meaningBy_21 rfl rfl ?_
  refine g_get C inX6_meaningBy_6 0 WMg0 rfl 13 (by decide) lkX6_meaningBy_87 rfl dX6_meaningBy_22 ?_
  refine g_if_eq C 39 dX6_meaningBy_25 (by decide) (fun c_5 => ?_) (fun c_5 => ?_)
  · replace h := h.1 c_5
    exact g_sub [1, 2, 3] rfl (t_B_X6_meaningBy_39 C hrt9 hlk  v1 v2 (s0 * gg)  h)
  · replace h := h.2 c_5
    refine g_iload_n C 2 dX6_meaningBy_28 rfl rfl ?_
    refine g_if_eq C 39 dX6_meaningBy_29 (by decide) (fun c_6 => ?_) (fun c_6 => ?_)
    · replace h := h.1 c_6
      exact g_sub [1, 2, 3] rfl (t_B_X6_meaningBy_39 C hrt9 hlk  v1 v2 (s0 * gg)  h)
    · replace h := h.2 c_6
      refine g_iload C 0 dX6_meaningBy_32 rfl ?_
      refine g_iconst C (2 : Int32) dX6_meaningBy_34 (by decide) ?_
      refine g_idiv C dX6_meaningBy_35 (by decide) ?_
      refine g_goto C 40 dX6_meaningBy_36 (by decide) ?_
      exact g_sub [1, 2, 3] rfl (t_B_X6_meaningBy_40 C hrt9 hlk  v1 v2 (s0 * gg) (s0 / (2 : Int32))  h)
set_option maxHeartbeats 4000000 in
set_option maxRecDepth 100000 in
theorem t_B_X6_meaningBy_0  {Q : Int32 → Prop} (C : CxX p s m args c D (tysX cA) RX6 cX6_meaningBy 7 wsX6_meaningBy) (hrt9 : meth.sig.returnType = (some .int)) (hlk : meth.locks = false) (v1 : Int32) (v2 : Int32) (v3 : Int32)   (h : B_X6_meaningBy_0  Q gg gb gu gh gk gl v1 v2 v3) : GoX p l e rmX6_meaningBy s m args below meth c D A 7 0 0 (QP_X6_meaningBy D A ad cA ms mb my mt mw ml mo gm gs ga gg gb gu gh gk gl gn gt Q below args s) 0 [(0, .ref (ad 0)), (1, .int v1), (2, .int v2), (3, .int v3)] [] (WM ad cA ms mb my mt mw ml mo gm gs ga gg gb gu gh gk gl gn gt) := by
  replace h : ((v3 = 0 → (B_X6_meaningBy_12  Q gg gb gu gh gk gl v1 v2 (20 : Int32))) ∧ (¬ v3 = 0 → (B_X6_meaningBy_12  Q gg gb gu gh gk gl v1 v2 (400 : Int32)))) := h
  refine g_iload_n C 3 dX6_meaningBy_0 rfl rfl ?_
  refine g_if_eq C 10 dX6_meaningBy_1 (by decide) (fun c_7 => ?_) (fun c_7 => ?_)
  · replace h := h.1 c_7
    refine g_bipush C (20 : Int32) dX6_meaningBy_10 (by decide) ?_
    exact g_sub [0, 1, 2] rfl (t_B_X6_meaningBy_12 C hrt9 hlk  v1 v2 (20 : Int32)  h)
  · replace h := h.2 c_7
    refine g_sipush C (400 : Int32) dX6_meaningBy_4 (by decide) ?_
    refine g_goto C 12 dX6_meaningBy_7 (by decide) ?_
    exact g_sub [0, 1, 2] rfl (t_B_X6_meaningBy_12 C hrt9 hlk  v1 v2 (400 : Int32)  h)
theorem c_X6_meaningBy (l : Launch) (D : va_G) (A : Nat → Prop) (ad : Nat → Nat) (cA : Nat → ClassId) (v1 : Int32) (v2 : Int32) (v3 : Int32) {ms : (Nat → Int32)} {mb : (Nat → Int32)} {my : (Nat → Int32)} {mt : (Nat → Int32)} {mw : (Nat → Int32)} {ml : (Nat → Int32)} {mo : (Nat → Int32)} {gm : Int32} {gs : Int32} {ga : Int32} {gg : Int32} {gb : Int32} {gu : Int32} {gh : Int32} {gk : Int32} {gl : Int32} {gn : Int32} {gt : Int32}  (Q : Int32 → Prop) (h : F_X6_meaningBy v1 v2 v3 gg gb gu gh gk gl Q) : Met l yX6_meaningBy wsX6_meaningBy rmX6_meaningBy (va_Pc [.ref (ad 0), .int v1, .int v2, .int v3] (OKX D (tysX cA) (WM ad cA ms mb my mt mw ml mo gm gs ga gg gb gu gh gk gl gn gt) A)) (QC_X6_meaningBy D A ad cA ms mb my mt mw ml mo gm gs ga gg gb gu gh gk gl gn gt Q) 0 0 A :=
  g_met (own := RX6) (by decide) rfl rfl (Nat.le_of_ble_eq_true rfl) (fun p e s m below meth c C hrt9 hlk _ => g_sub [0, 1, 2, 3] rfl (t_B_X6_meaningBy_0 C hrt9 hlk v1 v2 v3   h))
theorem k_X6_meaningBy {ws : List Cond} {own : String} {cc : ByteArray} {nL pc index : Nat} {lv : List (Nat × Value)} {st : List Value} {Q : State → Prop} {R : Room} {K : Int32 → Prop} {v1 : Int32} {v2 : Int32} {v3 : Int32} (C : CxX p s m args c D (tysX cA) own cc nL ws) (hT : GoodIn ws (wsV own index RX6 yX6_meaningBy wsX6_meaningBy)) (hR : rmX6_meaningBy.frames + 1 ≤ R.frames ∧ 8 + (7 + 11) + rmX6_meaningBy.locals ≤ R.locals) (hcat : (st.map fun v => v.category).sum ≤ 8) (hdg : decode cc pc = .ok (.invokevirtual index, 3))  (h : F_X6_meaningBy v1 v2 v3 gg gb gu gh gk gl K) (kk : ∀ (r : Int32) , K r → GoX p l e R s m args below meth c D A nL 0 0 Q (pc + 3) lv (.int r :: st) (WM ad cA ms mb my mt mw ml mo gm gs ga gg gb gu gh gk gl gn gt)) : GoX p l e R s m args below meth c D A nL 0 0 Q pc lv (.int v3 :: .int v2 :: .int v1 :: .ref (ad 0) :: st) (WM ad cA ms mb my mt mw ml mo gm gs ga gg gb gu gh gk gl gn gt) :=
  g_callVi C (As := [.int v1, .int v2, .int v3]) 3 (c_X6_meaningBy l D A ad cA v1 v2 v3  K h) hT rfl rfl rfl (by decide +kernel) hR 0 WMg0 rfl rfl rfl hcat hdg (fun r u hu => kk r  hu)
/-! X6_understands -/
abbrev rmX6_understands : Room := { frames := 9, cells := 0, slots := 0, locals := 189 }
abbrev QC_X6_understands (D : va_G) (A : Nat → Prop) (ad : Nat → Nat) (cA : Nat → ClassId) (ms : (Nat → Int32)) (mb : (Nat → Int32)) (my : (Nat → Int32)) (mt : (Nat → Int32)) (mw : (Nat → Int32)) (ml : (Nat → Int32)) (mo : (Nat → Int32)) (gm : Int32) (gn : Int32) (gt : Int32) (Q : Int32 → Int32 → Int32 → Int32 → Int32 → Int32 → Int32 → Int32 → Int32 → Prop) : Array Value → State → Outcome → State → Prop := va_Qi (fun (r : Int32) (u : Int32 × Int32 × Int32 × Int32 × Int32 × Int32 × Int32 × Int32) => Q r u.1 u.2.1 u.2.2.1 u.2.2.2.1 u.2.2.2.2.1 u.2.2.2.2.2.1 u.2.2.2.2.2.2.1 u.2.2.2.2.2.2.2) (fun u t => OKX D (tysX cA) ((fun u : Int32 × Int32 × Int32 × Int32 × Int32 × Int32 × Int32 × Int32 => WM ad cA ms mb my mt mw ml mo gm u.1 u.2.1 u.2.2.1 u.2.2.2.1 u.2.2.2.2.1 u.2.2.2.2.2.1 u.2.2.2.2.2.2.1 u.2.2.2.2.2.2.2 gn gt) u) A t) A
abbrev QP_X6_understands (D : va_G) (A : Nat → Prop) (ad : Nat → Nat) (cA : Nat → ClassId) (ms : (Nat → Int32)) (mb : (Nat → Int32)) (my : (Nat → Int32)) (mt : (Nat → Int32)) (mw : (Nat → Int32)) (ml : (Nat → Int32)) (mo : (Nat → Int32)) (gm : Int32) (gn : Int32) (gt : Int32) (Q : Int32 → Int32 → Int32 → Int32 → Int32 → Int32 → Int32 → Int32 → Int32 → Prop) (below : List Frame) (args : Array Value) (s : State) : State → Prop := MQ below (QC_X6_understands D A ad cA ms mb my mt mw ml mo gm gn gt Q) args s 0 0 A
def B_X6_understands_101  (Q : Int32 → Int32 → Int32 → Int32 → Int32 → Int32 → Int32 → Int32 → Int32 → Prop) (ms : (Nat → Int32)) (my : (Nat → Int32)) (s0 : Int32) (gs : Int32) (ga : Int32) (gg : Int32) (gb : Int32) (gu : Int32) (gh : Int32) (gk : Int32) (gl : Int32) : Prop := (Q s0 gs ga gg gb gu gh gk gl)
def B_X6_understands_98  (Q : Int32 → Int32 → Int32 → Int32 → Int32 → Int32 → Int32 → Int32 → Int32 → Prop) (ms : (Nat → Int32)) (my : (Nat → Int32)) (s1 : Int32) (s2 : Int32) (s3 : Int32) (gs : Int32) (ga : Int32) (gg : Int32) (gb : Int32) (gu : Int32) (gh : Int32) (gk : Int32) (gl : Int32) : Prop := (F_X6_meaningBy s1 s2 s3 gg gb gu gh gk gl (fun r_1 => (B_X6_understands_101  Q ms my r_1 gs ga gg gb gu gh gk gl)))
def B_X6_understands_81  (Q : Int32 → Int32 → Int32 → Int32 → Int32 → Int32 → Int32 → Int32 → Int32 → Prop) (ms : (Nat → Int32)) (my : (Nat → Int32)) (v3 : Int32) (s1 : Int32) (s2 : Int32) (gs : Int32) (ga : Int32) (gg : Int32) (gb : Int32) (gu : Int32) (gh : Int32) (gk : Int32) (gl : Int32) : Prop := (vp_in (v3 + (2 : Int32)) 106 ∧ (((ms (v3 + (2 : Int32)).toNatClampNeg) = (1 : Int32) → (B_X6_understands_98  Q ms my s1 s2 (1 : Int32) gs ga gg gb gu gh gk gl)) ∧ (¬ (ms (v3 + (2 : Int32)).toNatClampNeg) = (1 : Int32) → (B_X6_understands_98  Q ms my s1 s2 (0 : Int32) gs ga gg gb gu gh gk gl))))
def B_X6_understands_64  (Q : Int32 → Int32 → Int32 → Int32 → Int32 → Int32 → Int32 → Int32 → Int32 → Prop) (ms : (Nat → Int32)) (my : (Nat → Int32)) (v3 : Int32) (s1 : Int32) (gs : Int32) (ga : Int32) (gg : Int32) (gb : Int32) (gu : Int32) (gh : Int32) (gk : Int32) (gl : Int32) : Prop := (vp_in (v3 + (1 : Int32)) 106 ∧ (((ms (v3 + (1 : Int32)).toNatClampNeg) = (1 : Int32) → (B_X6_understands_81  Q ms my v3 s1 (1 : Int32) gs ga gg gb gu gh gk gl)) ∧ (¬ (ms (v3 + (1 : Int32)).toNatClampNeg) = (1 : Int32) → (B_X6_understands_81  Q ms my v3 s1 (0 : Int32) gs ga gg gb gu gh gk gl))))
def B_X6_understands_31  (Q : Int32 → Int32 → Int32 → Int32 → Int32 → Int32 → Int32 → Int32 → Int32 → Prop) (ms : (Nat → Int32)) (my : (Nat → Int32)) (v3 : Int32) (s0 : Int32) (gs : Int32) (ga : Int32) (gg : Int32) (gb : Int32) (gu : Int32) (gh : Int32) (gk : Int32) (gl : Int32) : Prop := (F_X6_faultOf s0 my gs ga gg gb gu gh gk gl (fun r_4 gs_5 ga_6 gg_7 gb_8 gu_9 gh_10 gk_11 gl_12 => ((r_4 < 0 → (vp_in (v3 + (0 : Int32)) 106 ∧ (((ms (v3 + (0 : Int32)).toNatClampNeg) = (1 : Int32) → (B_X6_understands_64  Q ms my v3 (1 : Int32) gs_5 ga_6 gg_7 gb_8 gu_9 gh_10 gk_11 gl_12)) ∧ (¬ (ms (v3 + (0 : Int32)).toNatClampNeg) = (1 : Int32) → (B_X6_understands_64  Q ms my v3 (0 : Int32) gs_5 ga_6 gg_7 gb_8 gu_9 gh_10 gk_11 gl_12))))) ∧ (¬ r_4 < 0 → (B_X6_understands_101  Q ms my (0 : Int32) gs_5 ga_6 gg_7 gb_8 gu_9 gh_10 gk_11 gl_12)))))
def B_X6_understands_0  (Q : Int32 → Int32 → Int32 → Int32 → Int32 → Int32 → Int32 → Int32 → Int32 → Prop) (ms : (Nat → Int32)) (my : (Nat → Int32)) (v1 : Int32) (v2 : Int32) (gs : Int32) (ga : Int32) (gg : Int32) (gb : Int32) (gu : Int32) (gh : Int32) (gk : Int32) (gl : Int32) : Prop := (vp_in (((9 : Int32) * v1) + (6 : Int32)) 106 ∧ (((ms (((9 : Int32) * v1) + (6 : Int32)).toNatClampNeg) ≤ v2 → (vp_in (((9 : Int32) * v1) + (6 : Int32)) 106 ∧ (B_X6_understands_31  Q ms my ((9 : Int32) * v1) (ms (((9 : Int32) * v1) + (6 : Int32)).toNatClampNeg) gs ga gg gb gu gh gk gl))) ∧ (¬ (ms (((9 : Int32) * v1) + (6 : Int32)).toNatClampNeg) ≤ v2 → (B_X6_understands_31  Q ms my ((9 : Int32) * v1) v2 gs ga gg gb gu gh gk gl))))
def F_X6_understands (v1 : Int32) (v2 : Int32) (ms : (Nat → Int32)) (my : (Nat → Int32)) (gs : Int32) (ga : Int32) (gg : Int32) (gb : Int32) (gu : Int32) (gh : Int32) (gk : Int32) (gl : Int32) (Q : Int32 → Int32 → Int32 → Int32 → Int32 → Int32 → Int32 → Int32 → Int32 → Prop) : Prop := B_X6_understands_0 Q ms my v1 v2 gs ga gg gb gu gh gk gl
theorem lkX6_understands_7 : Cond.fieldLink RX6 7 (TX6 0).1 (TX6 0).2.1 (TX6 0).2.2.1 ∈ wsX6_understands := by decide +kernel
theorem inX6_understands_6 : ∀ q ∈ u_ws RX6 TX6 18, q ∈ wsX6_understands := by decide +kernel
set_option maxHeartbeats 4000000 in
set_option maxRecDepth 100000 in
theorem t_B_X6_understands_101  {Q : Int32 → Int32 → Int32 → Int32 → Int32 → Int32 → Int32 → Int32 → Int32 → Prop} (C : CxX p s m args c D (tysX cA) RX6 cX6_understands 5 wsX6_understands) (hrt9 : meth.sig.returnType = (some .int)) (hlk : meth.locks = false) (s0 : Int32) (gs : Int32) (ga : Int32) (gg : Int32) (gb : Int32) (gu : Int32) (gh : Int32) (gk : Int32) (gl : Int32)  (h : B_X6_understands_101  Q ms my s0 gs ga gg gb gu gh gk gl) : GoX p l e rmX6_understands s m args below meth c D A 5 0 0 (QP_X6_understands D A ad cA ms mb my mt mw ml mo gm gn gt Q below args s) 101 [] [.int s0] (WM ad cA ms mb my mt mw ml mo gm gs ga gg gb gu gh gk gl gn gt) := by
  replace h : (Q s0 gs ga gg gb gu gh gk gl) := h
  exact g_iret C hrt9 hlk (u := (gs, ga, gg, gb, gu, gh, gk, gl)) rfl h dX6_understands_101
set_option maxHeartbeats 4000000 in
set_option maxRecDepth 100000 in
theorem t_B_X6_understands_98  {Q : Int32 → Int32 → Int32 → Int32 → Int32 → Int32 → Int32 → Int32 → Int32 → Prop} (C : CxX p s m args c D (tysX cA) RX6 cX6_understands 5 wsX6_understands) (hrt9 : meth.sig.returnType = (some .int)) (hlk : meth.locks = false) (s1 : Int32) (s2 : Int32) (s3 : Int32) (gs : Int32) (ga : Int32) (gg : Int32) (gb : Int32) (gu : Int32) (gh : Int32) (gk : Int32) (gl : Int32)  (h : B_X6_understands_98  Q ms my s1 s2 s3 gs ga gg gb gu gh gk gl) : GoX p l e rmX6_understands s m args below meth c D A 5 0 0 (QP_X6_understands D A ad cA ms mb my mt mw ml mo gm gn gt Q below args s) 98 [] [.int s3, .int s2, .int s1, .ref (ad 0)] (WM ad cA ms mb my mt mw ml mo gm gs ga gg gb gu gh gk gl gn gt) := by
  replace h : (F_X6_meaningBy s1 s2 s3 gg gb gu gh gk gl (fun r_1 => (B_X6_understands_101  Q ms my r_1 gs ga gg gb gu gh gk gl))) := h
  refine k_X6_meaningBy C gX6_understands_X6_meaningBy ⟨Nat.le_of_ble_eq_true rfl, Nat.le_of_ble_eq_true rfl⟩ (Nat.le_of_ble_eq_true rfl) dX6_understands_98  h (fun r_1 h => ?_)
  exact g_sub [] rfl (t_B_X6_understands_101 C hrt9 hlk  r_1 gs ga gg gb gu gh gk gl  h)
set_option maxHeartbeats 4000000 in
set_option maxRecDepth 100000 in
theorem t_B_X6_understands_81  {Q : Int32 → Int32 → Int32 → Int32 → Int32 → Int32 → Int32 → Int32 → Int32 → Prop} (C : CxX p s m args c D (tysX cA) RX6 cX6_understands 5 wsX6_understands) (hrt9 : meth.sig.returnType = (some .int)) (hlk : meth.locks = false) (v3 : Int32) (s1 : Int32) (s2 : Int32) (gs : Int32) (ga : Int32) (gg : Int32) (gb : Int32) (gu : Int32) (gh : Int32) (gk : Int32) (gl : Int32)  (h : B_X6_understands_81  Q ms my v3 s1 s2 gs ga gg gb gu gh gk gl) : GoX p l e rmX6_understands s m args below meth c D A 5 0 0 (QP_X6_understands D A ad cA ms mb my mt mw ml mo gm gn gt Q below args s) 81 [(0, .ref (ad 0)), (3, .int v3)] [.int s2, .int s1, .ref (ad 0)] (WM ad cA ms mb my mt mw ml mo gm gs ga gg gb gu gh gk gl gn gt) := by
  replace h : (vp_in (v3 + (2 : Int32)) 106 ∧ (((ms (v3 + (2 : Int32)).toNatClampNeg) = (1 : Int32) → (B_X6_understands_98  Q ms my s1 s2 (1 : Int32) gs ga gg gb gu gh gk gl)) ∧ (¬ (ms (v3 + (2 : Int32)).toNatClampNeg) = (1 : Int32) → (B_X6_understands_98  Q ms my s1 s2 (0 : Int32) gs ga gg gb gu gh gk gl)))) := h
  refine g_aload_n C 0 dX6_understands_81 rfl rfl ?_
  refine g_get C inX6_understands_6 0 WMg0 rfl 0 (by decide) lkX6_understands_7 rfl dX6_understands_82 ?_
  refine g_iload_n C 1 dX6_understands_85 rfl rfl ?_
  refine g_iconst C (2 : Int32) dX6_understands_86 (by decide) ?_
  refine g_iadd C dX6_understands_87 ?_
  refine g_iald C 1 1 WMg1 rfl h.1 dX6_understands_88 ?_
  replace h := h.2
  refine g_iconst C (1 : Int32) dX6_understands_89 (by decide) ?_
  refine g_icmp_ne C 97 dX6_understands_90 (by decide) (fun c_2 => ?_) (fun c_2 => ?_)
  · replace h := h.2 c_2
    refine g_iconst C (0 : Int32) dX6_understands_97 (by decide) ?_
    exact g_sub [] rfl (t_B_X6_understands_98 C hrt9 hlk  s1 s2 (0 : Int32) gs ga gg gb gu gh gk gl  h)
  · replace h := h.1 c_2
    refine g_iconst C (1 : Int32) dX6_understands_93 (by decide) ?_
    refine g_goto C 98 dX6_understands_94 (by decide) ?_
    exact g_sub [] rfl (t_B_X6_understands_98 C hrt9 hlk  s1 s2 (1 : Int32) gs ga gg gb gu gh gk gl  h)
set_option maxHeartbeats 4000000 in
set_option maxRecDepth 100000 in
theorem t_B_X6_understands_64  {Q : Int32 → Int32 → Int32 → Int32 → Int32 → Int32 → Int32 → Int32 → Int32 → Prop} (C : CxX p s m args c D (tysX cA) RX6 cX6_understands 5 wsX6_understands) (hrt9 : meth.sig.returnType = (some .int)) (hlk : meth.locks = false) (v3 : Int32) (s1 : Int32) (gs : Int32) (ga : Int32) (gg : Int32) (gb : Int32) (gu : Int32) (gh : Int32) (gk : Int32) (gl : Int32)  (h : B_X6_understands_64  Q ms my v3 s1 gs ga gg gb gu gh gk gl) : GoX p l e rmX6_understands s m args below meth c D A 5 0 0 (QP_X6_understands D A ad cA ms mb my mt mw ml mo gm gn gt Q below args s) 64 [(0, .ref (ad 0)), (3, .int v3)] [.int s1, .ref (ad 0)] (WM ad cA ms mb my mt mw ml mo gm gs ga gg gb gu gh gk gl gn gt) := by
  replace h : (vp_in (v3 + (1 : Int32)) 106 ∧ (((ms (v3 + (1 : Int32)).toNatClampNeg) = (1 : Int32) → (B_X6_understands_81  Q ms my v3 s1 (1 : Int32) gs ga gg gb gu gh gk gl)) ∧ (¬ (ms (v3 + (1 : Int32)).toNatClampNeg) = (1 : Int32) → (B_X6_understands_81  Q ms my v3 s1 (0 : Int32) gs ga gg gb gu gh gk gl)))) := h
  refine g_aload_n C 0 dX6_understands_64 rfl rfl ?_
  refine g_get C inX6_understands_6 0 WMg0 rfl 0 (by decide) lkX6_understands_7 rfl dX6_understands_65 ?_
  refine g_iload_n C 1 dX6_understands_68 rfl rfl ?_
  refine g_iconst C (1 : Int32) dX6_understands_69 (by decide) ?_
  refine g_iadd C dX6_understands_70 ?_
  refine g_iald C 1 1 WMg1 rfl h.1 dX6_understands_71 ?_
  replace h := h.2
  refine g_iconst C (1 : Int32) dX6_understands_72 (by decide) ?_
  refine g_icmp_ne C 80 dX6_understands_73 (by decide) (fun c_3 => ?_) (fun c_3 => ?_)
  · replace h := h.2 c_3
    refine g_iconst C (0 : Int32) dX6_understands_80 (by decide) ?_
    exact g_sub [0, 1] rfl (t_B_X6_understands_81 C hrt9 hlk  v3 s1 (0 : Int32) gs ga gg gb gu gh gk gl  h)
  · replace h := h.1 c_3
    refine g_iconst C (1 : Int32) dX6_understands_76 (by decide) ?_
    refine g_goto C 81 dX6_understands_77 (by decide) ?_
    exact g_sub [0, 1] rfl (t_B_X6_understands_81 C hrt9 hlk  v3 s1 (1 : Int32) gs ga gg gb gu gh gk gl  h)
set_option maxHeartbeats 4000000 in
set_option maxRecDepth 100000 in
theorem t_B_X6_understands_31  {Q : Int32 → Int32 → Int32 → Int32 → Int32 → Int32 → Int32 → Int32 → Int32 → Prop} (C : CxX p s m args c D (tysX cA) RX6 cX6_understands 5 wsX6_understands) (hrt9 : meth.sig.returnType = (some .int)) (hlk : meth.locks = false) (v3 : Int32) (s0 : Int32) (gs : Int32) (ga : Int32) (gg : Int32) (gb : Int32) (gu : Int32) (gh : Int32) (gk : Int32) (gl : Int32)  (h : B_X6_understands_31  Q ms my v3 s0 gs ga gg gb gu gh gk gl) : GoX p l e rmX6_understands s m args below meth c D A 5 0 0 (QP_X6_understands D A ad cA ms mb my mt mw ml mo gm gn gt Q below args s) 31 [(0, .ref (ad 0)), (3, .int v3)] [.int s0] (WM ad cA ms mb my mt mw ml mo gm gs ga gg gb gu gh gk gl gn gt) := by
  replace h : (F_X6_faultOf s0 my gs ga gg gb gu gh gk gl (fun r_4 gs_5 ga_6 gg_7 gb_8 gu_9 gh_10 gk_11 gl_12 => ((r_4 < 0 → (vp_in (v3 + (0 : Int32)) 106 ∧ (((ms (v3 + (0 : Int32)).toNatClampNeg) = (1 : Int32) → (B_X6_understands_64  Q ms my v3 (1 : Int32) gs_5 ga_6 gg_7 gb_8 gu_9 gh_10 gk_11 gl_12)) ∧ (¬ (ms (v3 + (0 : Int32)).toNatClampNeg) = (1 : Int32) → (B_X6_understands_64  Q ms my v3 (0 : Int32) gs_5 ga_6 gg_7 gb_8 gu_9 gh_10 gk_11 gl_12))))) ∧ (¬ r_4 < 0 → (B_X6_understands_101  Q ms my (0 : Int32) gs_5 ga_6 gg_7 gb_8 gu_9 gh_10 gk_11 gl_12))))) := h
  refine g_istore C (lv2 := [(4, .int s0), (0, .ref (ad 0)), (3, .int v3)]) dX6_understands_31 (by decide) rfl ?_
  refine g_aload_n C 1 dX6_understands_33 rfl rfl ?_
  refine g_iload C 0 dX6_understands_34 rfl ?_
  refine k_X6_faultOf C gX6_understands_X6_faultOf ⟨Nat.le_of_ble_eq_true rfl, Nat.le_of_ble_eq_true rfl⟩ (Nat.le_of_ble_eq_true rfl) dX6_understands_36  h (fun r_4 gs_5 ga_6 gg_7 gb_8 gu_9 gh_10 gk_11 gl_12 h => ?_)
  refine g_if_lt C 46 dX6_understands_39 (by decide) (fun c_13 => ?_) (fun c_13 => ?_)
  · replace h := h.1 c_13
    refine g_aload_n C 1 dX6_understands_46 rfl rfl ?_
    refine g_aload_n C 1 dX6_understands_47 rfl rfl ?_
    refine g_get C inX6_understands_6 0 WMg0 rfl 0 (by decide) lkX6_understands_7 rfl dX6_understands_48 ?_
    refine g_iload_n C 2 dX6_understands_51 rfl rfl ?_
    refine g_iconst C (0 : Int32) dX6_understands_52 (by decide) ?_
    refine g_iadd C dX6_understands_53 ?_
    refine g_iald C 1 1 WMg1 rfl h.1 dX6_understands_54 ?_
    replace h := h.2
    refine g_iconst C (1 : Int32) dX6_understands_55 (by decide) ?_
    refine g_icmp_ne C 63 dX6_understands_56 (by decide) (fun c_14 => ?_) (fun c_14 => ?_)
    · replace h := h.2 c_14
      refine g_iconst C (0 : Int32) dX6_understands_63 (by decide) ?_
      exact g_sub [1, 2] rfl (t_B_X6_understands_64 C hrt9 hlk  v3 (0 : Int32) gs_5 ga_6 gg_7 gb_8 gu_9 gh_10 gk_11 gl_12  h)
    · replace h := h.1 c_14
      refine g_iconst C (1 : Int32) dX6_understands_59 (by decide) ?_
      refine g_goto C 64 dX6_understands_60 (by decide) ?_
      exact g_sub [1, 2] rfl (t_B_X6_understands_64 C hrt9 hlk  v3 (1 : Int32) gs_5 ga_6 gg_7 gb_8 gu_9 gh_10 gk_11 gl_12  h)
  · replace h := h.2 c_13
    refine g_iconst C (0 : Int32) dX6_understands_42 (by decide) ?_
    refine g_goto C 101 dX6_understands_43 (by decide) ?_
    exact g_sub [] rfl (t_B_X6_understands_101 C hrt9 hlk  (0 : Int32) gs_5 ga_6 gg_7 gb_8 gu_9 gh_10 gk_11 gl_12  h)
set_option maxHeartbeats 4000000 in
set_option maxRecDepth 100000 in
theorem t_B_X6_understands_0  {Q : Int32 → Int32 → Int32 → Int32 → Int32 → Int32 → Int32 → Int32 → Int32 → Prop} (C : CxX p s m args c D (tysX cA) RX6 cX6_understands 5 wsX6_understands) (hrt9 : meth.sig.returnType = (some .int)) (hlk : meth.locks = false) (v1 : Int32) (v2 : Int32) (gs : Int32) (ga : Int32) (gg : Int32) (gb : Int32) (gu : Int32) (gh : Int32) (gk : Int32) (gl : Int32)  (h : B_X6_understands_0  Q ms my v1 v2 gs ga gg gb gu gh gk gl) : GoX p l e rmX6_understands s m args below meth c D A 5 0 0 (QP_X6_understands D A ad cA ms mb my mt mw ml mo gm gn gt Q below args s) 0 [(0, .ref (ad 0)), (1, .int v1), (2, .int v2)] [] (WM ad cA ms mb my mt mw ml mo gm gs ga gg gb gu gh gk gl gn gt) := by
  replace h : (vp_in (((9 : Int32) * v1) + (6 : Int32)) 106 ∧ (((ms (((9 : Int32) * v1) + (6 : Int32)).toNatClampNeg) ≤ v2 → (vp_in (((9 : Int32) * v1) + (6 : Int32)) 106 ∧ (B_X6_understands_31  Q ms my ((9 : Int32) * v1) (ms (((9 : Int32) * v1) + (6 : Int32)).toNatClampNeg) gs ga gg gb gu gh gk gl))) ∧ (¬ (ms (((9 : Int32) * v1) + (6 : Int32)).toNatClampNeg) ≤ v2 → (B_X6_understands_31  Q ms my ((9 : Int32) * v1) v2 gs ga gg gb gu gh gk gl)))) := h
  refine g_bipush C (9 : Int32) dX6_understands_0 (by decide) ?_
  refine g_iload_n C 1 dX6_understands_2 rfl rfl ?_
  refine g_imul C dX6_understands_3 ?_
  refine g_istore_n C (lv2 := [(3, .int ((9 : Int32) * v1)), (0, .ref (ad 0)), (1, .int v1), (2, .int v2)]) dX6_understands_4 rfl (by decide) rfl ?_
  refine g_iload_n C 3 dX6_understands_5 rfl rfl ?_
  refine g_aload_n C 1 dX6_understands_6 rfl rfl ?_
  refine g_get C inX6_understands_6 0 WMg0 rfl 0 (by decide) lkX6_understands_7 rfl dX6_understands_7 ?_
  refine g_iload_n C 0 dX6_understands_10 rfl rfl ?_
  refine g_bipush C (6 : Int32) dX6_understands_11 (by decide) ?_
  refine g_iadd C dX6_understands_13 ?_
  refine g_iald C 1 1 WMg1 rfl h.1 dX6_understands_14 ?_
  replace h := h.2
  refine g_icmp_ge C 22 dX6_understands_15 (by decide) (fun c_15 => ?_) (fun c_15 => ?_)
  · replace h := h.1 c_15
    refine g_aload_n C 1 dX6_understands_22 rfl rfl ?_
    refine g_get C inX6_understands_6 0 WMg0 rfl 0 (by decide) lkX6_understands_7 rfl dX6_understands_23 ?_
    refine g_iload_n C 0 dX6_understands_26 rfl rfl ?_
    refine g_bipush C (6 : Int32) dX6_understands_27 (by decide) ?_
    refine g_iadd C dX6_understands_29 ?_
    refine g_iald C 1 1 WMg1 rfl h.1 dX6_understands_30 ?_
    replace h := h.2
    exact g_sub [1, 0] rfl (t_B_X6_understands_31 C hrt9 hlk  ((9 : Int32) * v1) (ms (((9 : Int32) * v1) + (6 : Int32)).toNatClampNeg) gs ga gg gb gu gh gk gl  h)
  · replace h := h.2 c_15
    refine g_iload_n C 3 dX6_understands_18 rfl rfl ?_
    refine g_goto C 31 dX6_understands_19 (by decide) ?_
    exact g_sub [1, 0] rfl (t_B_X6_understands_31 C hrt9 hlk  ((9 : Int32) * v1) v2 gs ga gg gb gu gh gk gl  h)
theorem c_X6_understands (l : Launch) (D : va_G) (A : Nat → Prop) (ad : Nat → Nat) (cA : Nat → ClassId) (v1 : Int32) (v2 : Int32) {ms : (Nat → Int32)} {mb : (Nat → Int32)} {my : (Nat → Int32)} {mt : (Nat → Int32)} {mw : (Nat → Int32)} {ml : (Nat → Int32)} {mo : (Nat → Int32)} {gm : Int32} {gs : Int32} {ga : Int32} {gg : Int32} {gb : Int32} {gu : Int32} {gh : Int32} {gk : Int32} {gl : Int32} {gn : Int32} {gt : Int32}  (Q : Int32 → Int32 → Int32 → Int32 → Int32 → Int32 → Int32 → Int32 → Int32 → Prop) (h : F_X6_understands v1 v2 ms my gs ga gg gb gu gh gk gl Q) : Met l yX6_understands wsX6_understands rmX6_understands (va_Pc [.ref (ad 0), .int v1, .int v2] (OKX D (tysX cA) (WM ad cA ms mb my mt mw ml mo gm gs ga gg gb gu gh gk gl gn gt) A)) (QC_X6_understands D A ad cA ms mb my mt mw ml mo gm gn gt Q) 0 0 A :=
  g_met (own := RX6) (by decide) rfl rfl (Nat.le_of_ble_eq_true rfl) (fun p e s m below meth c C hrt9 hlk _ => g_sub [0, 1, 2] rfl (t_B_X6_understands_0 C hrt9 hlk v1 v2 gs ga gg gb gu gh gk gl  h))
theorem k_X6_understands {ws : List Cond} {own : String} {cc : ByteArray} {nL pc index : Nat} {lv : List (Nat × Value)} {st : List Value} {Q : State → Prop} {R : Room} {K : Int32 → Int32 → Int32 → Int32 → Int32 → Int32 → Int32 → Int32 → Int32 → Prop} {v1 : Int32} {v2 : Int32} (C : CxX p s m args c D (tysX cA) own cc nL ws) (hT : GoodIn ws (wsV own index RX6 yX6_understands wsX6_understands)) (hR : rmX6_understands.frames + 1 ≤ R.frames ∧ 8 + (5 + 11) + rmX6_understands.locals ≤ R.locals) (hcat : (st.map fun v => v.category).sum ≤ 8) (hdg : decode cc pc = .ok (.invokevirtual index, 3))  (h : F_X6_understands v1 v2 ms my gs ga gg gb gu gh gk gl K) (kk : ∀ (r : Int32) (gsq : Int32) (gaq : Int32) (ggq : Int32) (gbq : Int32) (guq : Int32) (ghq : Int32) (gkq : Int32) (glq : Int32), K r gsq gaq ggq gbq guq ghq gkq glq → GoX p l e R s m args below meth c D A nL 0 0 Q (pc + 3) lv (.int r :: st) (WM ad cA ms mb my mt mw ml mo gm gsq gaq ggq gbq guq ghq gkq glq gn gt)) : GoX p l e R s m args below meth c D A nL 0 0 Q pc lv (.int v2 :: .int v1 :: .ref (ad 0) :: st) (WM ad cA ms mb my mt mw ml mo gm gs ga gg gb gu gh gk gl gn gt) :=
  g_callVi C (As := [.int v1, .int v2]) 2 (c_X6_understands l D A ad cA v1 v2  K h) hT rfl rfl rfl (by decide +kernel) hR 0 WMg0 rfl rfl rfl hcat hdg (fun r u hu => kk r u.1 u.2.1 u.2.2.1 u.2.2.2.1 u.2.2.2.2.1 u.2.2.2.2.2.1 u.2.2.2.2.2.2.1 u.2.2.2.2.2.2.2 hu)
