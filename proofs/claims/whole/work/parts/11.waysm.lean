variable {p : Program} {l : Launch} {e : Env} {s : State} {m : MethodId} {args : Array Value} {below : List Frame} {meth : Method} {c : Code} {D : va_G} {A : Nat → Prop} {ad : Nat → Nat} {cA : Nat → ClassId}
variable {ms : (Nat → Int32)} {mb : (Nat → Int32)} {my : (Nat → Int32)} {mt : (Nat → Int32)} {mw : (Nat → Int32)} {ml : (Nat → Int32)} {mo : (Nat → Int32)} {gm : Int32} {gs : Int32} {ga : Int32} {gg : Int32} {gb : Int32} {gu : Int32} {gh : Int32} {gk : Int32} {gl : Int32} {gn : Int32} {gt : Int32}
/-! X6_put -/
abbrev rmX6_put : Room := { frames := 0, cells := 0, slots := 0, locals := 0 }
abbrev QC_X6_put (D : va_G) (A : Nat → Prop) (ad : Nat → Nat) (cA : Nat → ClassId) (ms : (Nat → Int32)) (mb : (Nat → Int32)) (my : (Nat → Int32)) (mt : (Nat → Int32)) (mo : (Nat → Int32)) (gm : Int32) (gs : Int32) (ga : Int32) (gg : Int32) (gb : Int32) (gu : Int32) (gh : Int32) (gk : Int32) (gl : Int32) (gn : Int32) (gt : Int32) (Q : (Nat → Int32) → (Nat → Int32) → Prop) : Array Value → State → Outcome → State → Prop := va_Qv (fun u : (Nat → Int32) × (Nat → Int32) => Q u.1 u.2) (fun u t => OKX D (tysX cA) ((fun u : (Nat → Int32) × (Nat → Int32) => WM ad cA ms mb my mt u.1 u.2 mo gm gs ga gg gb gu gh gk gl gn gt) u) A t) A
abbrev QP_X6_put (D : va_G) (A : Nat → Prop) (ad : Nat → Nat) (cA : Nat → ClassId) (ms : (Nat → Int32)) (mb : (Nat → Int32)) (my : (Nat → Int32)) (mt : (Nat → Int32)) (mo : (Nat → Int32)) (gm : Int32) (gs : Int32) (ga : Int32) (gg : Int32) (gb : Int32) (gu : Int32) (gh : Int32) (gk : Int32) (gl : Int32) (gn : Int32) (gt : Int32) (Q : (Nat → Int32) → (Nat → Int32) → Prop) (below : List Frame) (args : Array Value) (s : State) : State → Prop := MQ below (QC_X6_put D A ad cA ms mb my mt mo gm gs ga gg gb gu gh gk gl gn gt Q) args s 0 0 A
def B_X6_put_0  (Q : (Nat → Int32) → (Nat → Int32) → Prop) (gm : Int32) (v1 : Int32) (mw : (Nat → Int32)) (ml : (Nat → Int32)) : Prop := (vp_in gm 16 ∧ (vp_in (((10 : Int32) * gm) + (ml gm.toNatClampNeg)) 160 ∧ (vp_in gm 16 ∧ (vp_in gm 16 ∧ (Q (upd mw (((10 : Int32) * gm) + (ml gm.toNatClampNeg)).toNatClampNeg (vp_nar .char v1)) (upd ml gm.toNatClampNeg ((ml gm.toNatClampNeg) + (1 : Int32))))))))
def F_X6_put (v1 : Int32) (gm : Int32) (mw : (Nat → Int32)) (ml : (Nat → Int32)) (Q : (Nat → Int32) → (Nat → Int32) → Prop) : Prop := B_X6_put_0 Q gm v1 mw ml
theorem lkX6_put_26 : Cond.fieldLink RX6 26 (TX6 5).1 (TX6 5).2.1 (TX6 5).2.2.1 ∈ wsX6_put := by decide +kernel
theorem lkX6_put_107 : Cond.fieldLink RX6 107 (TX6 7).1 (TX6 7).2.1 (TX6 7).2.2.1 ∈ wsX6_put := by decide +kernel
theorem lkX6_put_23 : Cond.fieldLink RX6 23 (TX6 4).1 (TX6 4).2.1 (TX6 4).2.2.1 ∈ wsX6_put := by decide +kernel
theorem inX6_put_6 : ∀ q ∈ u_ws RX6 TX6 18, q ∈ wsX6_put := by decide +kernel
set_option maxHeartbeats 4000000 in
set_option maxRecDepth 100000 in
theorem t_B_X6_put_0  {Q : (Nat → Int32) → (Nat → Int32) → Prop} (C : CxX p s m args c D (tysX cA) RX6 cX6_put 2 wsX6_put) (hrt9 : meth.sig.returnType = none) (hlk : meth.locks = false) (v1 : Int32) (mw : (Nat → Int32)) (ml : (Nat → Int32))  (h : B_X6_put_0  Q gm v1 mw ml) : GoX p l e rmX6_put s m args below meth c D A 2 0 0 (QP_X6_put D A ad cA ms mb my mt mo gm gs ga gg gb gu gh gk gl gn gt Q below args s) 0 [(0, .ref (ad 0)), (1, .int v1)] [] (WM ad cA ms mb my mt mw ml mo gm gs ga gg gb gu gh gk gl gn gt) := by
  replace h : (vp_in gm 16 ∧ (vp_in (((10 : Int32) * gm) + (ml gm.toNatClampNeg)) 160 ∧ (vp_in gm 16 ∧ (vp_in gm 16 ∧ (Q (upd mw (((10 : Int32) * gm) + (ml gm.toNatClampNeg)).toNatClampNeg (vp_nar .char v1)) (upd ml gm.toNatClampNeg ((ml gm.toNatClampNeg) + (1 : Int32)))))))) := h
  refine g_aload_n C 0 dX6_put_0 rfl rfl ?_
  refine g_get C inX6_put_6 0 WMg0 rfl 4 (by decide) lkX6_put_23 rfl dX6_put_1 ?_
  refine g_bipush C (10 : Int32) dX6_put_4 (by decide) ?_
  refine g_aload_n C 0 dX6_put_6 rfl rfl ?_
  refine g_get C inX6_put_6 0 WMg0 rfl 7 (by decide) lkX6_put_107 rfl dX6_put_7 ?_
  refine g_imul C dX6_put_10 ?_
  refine g_aload_n C 0 dX6_put_11 rfl rfl ?_
  refine g_get C inX6_put_6 0 WMg0 rfl 5 (by decide) lkX6_put_26 rfl dX6_put_12 ?_
  refine g_aload_n C 0 dX6_put_15 rfl rfl ?_
  refine g_get C inX6_put_6 0 WMg0 rfl 7 (by decide) lkX6_put_107 rfl dX6_put_16 ?_
  refine g_iald C 6 1 WMg6 rfl h.1 dX6_put_19 ?_
  replace h := h.2
  refine g_iadd C dX6_put_20 ?_
  refine g_iload_n C 1 dX6_put_21 rfl rfl ?_
  refine g_cast C 5 0 WMg5 rfl h.1 WMs_mw dX6_put_22 ?_
  replace h := h.2
  refine g_aload_n C 0 dX6_put_23 rfl rfl ?_
  refine g_get C inX6_put_6 0 WMg0 rfl 5 (by decide) lkX6_put_26 rfl dX6_put_24 ?_
  refine g_aload_n C 0 dX6_put_27 rfl rfl ?_
  refine g_get C inX6_put_6 0 WMg0 rfl 7 (by decide) lkX6_put_107 rfl dX6_put_28 ?_
  refine g_dup2 C dX6_put_31 rfl rfl ?_
  refine g_iald C 6 1 WMg6 rfl h.1 dX6_put_32 ?_
  replace h := h.2
  refine g_iconst C (1 : Int32) dX6_put_33 (by decide) ?_
  refine g_iadd C dX6_put_34 ?_
  refine g_iast C 6 1 WMg6 rfl h.1 WMs_ml dX6_put_35 ?_
  replace h := h.2
  exact g_vret C hrt9 hlk (u := ((upd mw (((10 : Int32) * gm) + (ml gm.toNatClampNeg)).toNatClampNeg (vp_nar .char v1)), (upd ml gm.toNatClampNeg ((ml gm.toNatClampNeg) + (1 : Int32))))) rfl h dX6_put_36
theorem c_X6_put (l : Launch) (D : va_G) (A : Nat → Prop) (ad : Nat → Nat) (cA : Nat → ClassId) (v1 : Int32) {ms : (Nat → Int32)} {mb : (Nat → Int32)} {my : (Nat → Int32)} {mt : (Nat → Int32)} {mw : (Nat → Int32)} {ml : (Nat → Int32)} {mo : (Nat → Int32)} {gm : Int32} {gs : Int32} {ga : Int32} {gg : Int32} {gb : Int32} {gu : Int32} {gh : Int32} {gk : Int32} {gl : Int32} {gn : Int32} {gt : Int32}  (Q : (Nat → Int32) → (Nat → Int32) → Prop) (h : F_X6_put v1 gm mw ml Q) : Met l yX6_put wsX6_put rmX6_put (va_Pc [.ref (ad 0), .int v1] (OKX D (tysX cA) (WM ad cA ms mb my mt mw ml mo gm gs ga gg gb gu gh gk gl gn gt) A)) (QC_X6_put D A ad cA ms mb my mt mo gm gs ga gg gb gu gh gk gl gn gt Q) 0 0 A :=
  g_met (own := RX6) (by decide) rfl rfl (Nat.le_of_ble_eq_true rfl) (fun p e s m below meth c C hrt9 hlk _ => g_sub [0, 1] rfl (t_B_X6_put_0 C hrt9 hlk v1 mw ml  h))
theorem k_X6_put {ws : List Cond} {own : String} {cc : ByteArray} {nL pc index : Nat} {lv : List (Nat × Value)} {st : List Value} {Q : State → Prop} {R : Room} {K : (Nat → Int32) → (Nat → Int32) → Prop} {v1 : Int32} (C : CxX p s m args c D (tysX cA) own cc nL ws) (hT : GoodIn ws (wsV own index RX6 yX6_put wsX6_put)) (hR : rmX6_put.frames + 1 ≤ R.frames ∧ 8 + (2 + 11) + rmX6_put.locals ≤ R.locals) (hcat : (st.map fun v => v.category).sum ≤ 8) (hdg : decode cc pc = .ok (.invokevirtual index, 3))  (h : F_X6_put v1 gm mw ml K) (kk : ∀ (mwq : (Nat → Int32)) (mlq : (Nat → Int32)), K mwq mlq → GoX p l e R s m args below meth c D A nL 0 0 Q (pc + 3) lv (st) (WM ad cA ms mb my mt mwq mlq mo gm gs ga gg gb gu gh gk gl gn gt)) : GoX p l e R s m args below meth c D A nL 0 0 Q pc lv (.int v1 :: .ref (ad 0) :: st) (WM ad cA ms mb my mt mw ml mo gm gs ga gg gb gu gh gk gl gn gt) :=
  g_callVv C (As := [.int v1]) 1 (c_X6_put l D A ad cA v1  K h) hT rfl rfl rfl (by decide +kernel) hR 0 WMg0 rfl rfl rfl hcat hdg (fun u hu => kk u.1 u.2 hu)
/-! X6_putCount -/
abbrev rmX6_putCount : Room := { frames := 1, cells := 0, slots := 0, locals := 21 }
abbrev QC_X6_putCount (D : va_G) (A : Nat → Prop) (ad : Nat → Nat) (cA : Nat → ClassId) (ms : (Nat → Int32)) (mb : (Nat → Int32)) (my : (Nat → Int32)) (mt : (Nat → Int32)) (mo : (Nat → Int32)) (gm : Int32) (gs : Int32) (ga : Int32) (gg : Int32) (gb : Int32) (gu : Int32) (gh : Int32) (gk : Int32) (gl : Int32) (gn : Int32) (gt : Int32) (Q : (Nat → Int32) → (Nat → Int32) → Prop) : Array Value → State → Outcome → State → Prop := va_Qv (fun u : (Nat → Int32) × (Nat → Int32) => Q u.1 u.2) (fun u t => OKX D (tysX cA) ((fun u : (Nat → Int32) × (Nat → Int32) => WM ad cA ms mb my mt u.1 u.2 mo gm gs ga gg gb gu gh gk gl gn gt) u) A t) A
abbrev QP_X6_putCount (D : va_G) (A : Nat → Prop) (ad : Nat → Nat) (cA : Nat → ClassId) (ms : (Nat → Int32)) (mb : (Nat → Int32)) (my : (Nat → Int32)) (mt : (Nat → Int32)) (mo : (Nat → Int32)) (gm : Int32) (gs : Int32) (ga : Int32) (gg : Int32) (gb : Int32) (gu : Int32) (gh : Int32) (gk : Int32) (gl : Int32) (gn : Int32) (gt : Int32) (Q : (Nat → Int32) → (Nat → Int32) → Prop) (below : List Frame) (args : Array Value) (s : State) : State → Prop := MQ below (QC_X6_putCount D A ad cA ms mb my mt mo gm gs ga gg gb gu gh gk gl gn gt Q) args s 0 0 A
def B_X6_putCount_26  (Q : (Nat → Int32) → (Nat → Int32) → Prop) (gm : Int32) (v3 : Int32) (mw : (Nat → Int32)) (ml : (Nat → Int32)) : Prop := (F_X6_put v3 gm mw ml (fun mw_1 ml_2 => (Q mw_1 ml_2)))
def B_X6_putCount_10  (Q : (Nat → Int32) → (Nat → Int32) → Prop) (gm : Int32) (v1 : Int32) (v3 : Int32) (mw : (Nat → Int32)) (ml : (Nat → Int32)) : Prop := ((v1 ≤ (1 : Int32) → (B_X6_putCount_26  Q gm v3 mw ml)) ∧ (¬ v1 ≤ (1 : Int32) → (F_X6_put (((((97 : Int32) + v1) - (1 : Int32)).toUInt32 % 65536).toInt32) gm mw ml (fun mw_4 ml_5 => (B_X6_putCount_26  Q gm v3 mw_4 ml_5)))))
def B_X6_putCount_0  (Q : (Nat → Int32) → (Nat → Int32) → Prop) (gm : Int32) (v1 : Int32) (v2 : Int32) (v3 : Int32) (mw : (Nat → Int32)) (ml : (Nat → Int32)) : Prop := ((v2 = 0 → (B_X6_putCount_10  Q gm v1 v3 mw ml)) ∧ (¬ v2 = 0 → (F_X6_put (72 : Int32) gm mw ml (fun mw_7 ml_8 => (B_X6_putCount_10  Q gm v1 v3 mw_7 ml_8)))))
def F_X6_putCount (v1 : Int32) (v2 : Int32) (v3 : Int32) (gm : Int32) (mw : (Nat → Int32)) (ml : (Nat → Int32)) (Q : (Nat → Int32) → (Nat → Int32) → Prop) : Prop := B_X6_putCount_0 Q gm v1 v2 v3 mw ml
set_option maxHeartbeats 4000000 in
set_option maxRecDepth 100000 in
theorem t_B_X6_putCount_26  {Q : (Nat → Int32) → (Nat → Int32) → Prop} (C : CxX p s m args c D (tysX cA) RX6 cX6_putCount 4 wsX6_putCount) (hrt9 : meth.sig.returnType = none) (hlk : meth.locks = false) (v3 : Int32) (mw : (Nat → Int32)) (ml : (Nat → Int32))  (h : B_X6_putCount_26  Q gm v3 mw ml) : GoX p l e rmX6_putCount s m args below meth c D A 4 0 0 (QP_X6_putCount D A ad cA ms mb my mt mo gm gs ga gg gb gu gh gk gl gn gt Q below args s) 26 [(0, .ref (ad 0)), (3, .int v3)] [] (WM ad cA ms mb my mt mw ml mo gm gs ga gg gb gu gh gk gl gn gt) := by
  replace h : (F_X6_put v3 gm mw ml (fun mw_1 ml_2 => (Q mw_1 ml_2))) := h
  refine g_aload_n C 0 dX6_putCount_26 rfl rfl ?_
  refine g_iload_n C 1 dX6_putCount_27 rfl rfl ?_
  refine k_X6_put C gX6_putCount_X6_put ⟨Nat.le_of_ble_eq_true rfl, Nat.le_of_ble_eq_true rfl⟩ (Nat.le_of_ble_eq_true rfl) dX6_putCount_28  h (fun mw_1 ml_2 h => ?_)
  exact g_vret C hrt9 hlk (u := (mw_1, ml_2)) rfl h dX6_putCount_31
set_option maxHeartbeats 4000000 in
set_option maxRecDepth 100000 in
theorem t_B_X6_putCount_10  {Q : (Nat → Int32) → (Nat → Int32) → Prop} (C : CxX p s m args c D (tysX cA) RX6 cX6_putCount 4 wsX6_putCount) (hrt9 : meth.sig.returnType = none) (hlk : meth.locks = false) (v1 : Int32) (v3 : Int32) (mw : (Nat → Int32)) (ml : (Nat → Int32))  (h : B_X6_putCount_10  Q gm v1 v3 mw ml) : GoX p l e rmX6_putCount s m args below meth c D A 4 0 0 (QP_X6_putCount D A ad cA ms mb my mt mo gm gs ga gg gb gu gh gk gl gn gt Q below args s) 10 [(0, .ref (ad 0)), (1, .int v1), (3, .int v3)] [] (WM ad cA ms mb my mt mw ml mo gm gs ga gg gb gu gh gk gl gn gt) := by
  replace h : ((v1 ≤ (1 : Int32) → (B_X6_putCount_26  Q gm v3 mw ml)) ∧ (¬ v1 ≤ (1 : Int32) → (F_X6_put (((((97 : Int32) + v1) - (1 : Int32)).toUInt32 % 65536).toInt32) gm mw ml (fun mw_4 ml_5 => (B_X6_putCount_26  Q gm v3 mw_4 ml_5))))) := h
  refine g_iload_n C 1 dX6_putCount_10 rfl rfl ?_
  refine g_iconst C (1 : Int32) dX6_putCount_11 (by decide) ?_
  refine g_icmp_le C 26 dX6_putCount_12 (by decide) (fun c_3 => ?_) (fun c_3 => ?_)
  · replace h := h.1 c_3
    exact g_sub [0, 2] rfl (t_B_X6_putCount_26 C hrt9 hlk  v3 mw ml  h)
  · replace h := h.2 c_3
    refine g_aload_n C 0 dX6_putCount_15 rfl rfl ?_
    refine g_bipush C (97 : Int32) dX6_putCount_16 (by decide) ?_
    refine g_iload_n C 1 dX6_putCount_18 rfl rfl ?_
    refine g_iadd C dX6_putCount_19 ?_
    refine g_iconst C (1 : Int32) dX6_putCount_20 (by decide) ?_
    refine g_isub C dX6_putCount_21 ?_
    refine g_i2c C dX6_putCount_22 ?_
    refine k_X6_put C gX6_putCount_X6_put ⟨Nat.le_of_ble_eq_true rfl, Nat.le_of_ble_eq_true rfl⟩ (Nat.le_of_ble_eq_true rfl) dX6_putCount_23  h (fun mw_4 ml_5 h => ?_)
    exact g_sub [0, 2] rfl (t_B_X6_putCount_26 C hrt9 hlk  v3 mw_4 ml_5  h)
set_option maxHeartbeats 4000000 in
set_option maxRecDepth 100000 in
theorem t_B_X6_putCount_0  {Q : (Nat → Int32) → (Nat → Int32) → Prop} (C : CxX p s m args c D (tysX cA) RX6 cX6_putCount 4 wsX6_putCount) (hrt9 : meth.sig.returnType = none) (hlk : meth.locks = false) (v1 : Int32) (v2 : Int32) (v3 : Int32) (mw : (Nat → Int32)) (ml : (Nat → Int32))  (h : B_X6_putCount_0  Q gm v1 v2 v3 mw ml) : GoX p l e rmX6_putCount s m args below meth c D A 4 0 0 (QP_X6_putCount D A ad cA ms mb my mt mo gm gs ga gg gb gu gh gk gl gn gt Q below args s) 0 [(0, .ref (ad 0)), (1, .int v1), (2, .int v2), (3, .int v3)] [] (WM ad cA ms mb my mt mw ml mo gm gs ga gg gb gu gh gk gl gn gt) := by
  replace h : ((v2 = 0 → (B_X6_putCount_10  Q gm v1 v3 mw ml)) ∧ (¬ v2 = 0 → (F_X6_put (72 : Int32) gm mw ml (fun mw_7 ml_8 => (B_X6_putCount_10  Q gm v1 v3 mw_7 ml_8))))) := h
  refine g_iload_n C 2 dX6_putCount_0 rfl rfl ?_
  refine g_if_eq C 10 dX6_putCount_1 (by decide) (fun c_6 => ?_) (fun c_6 => ?_)
  · replace h := h.1 c_6
    exact g_sub [0, 1, 3] rfl (t_B_X6_putCount_10 C hrt9 hlk  v1 v3 mw ml  h)
  · replace h := h.2 c_6
    refine g_aload_n C 0 dX6_putCount_4 rfl rfl ?_
    refine g_bipush C (72 : Int32) dX6_putCount_5 (by decide) ?_
    refine k_X6_put C gX6_putCount_X6_put ⟨Nat.le_of_ble_eq_true rfl, Nat.le_of_ble_eq_true rfl⟩ (Nat.le_of_ble_eq_true rfl) dX6_putCount_7  h (fun mw_7 ml_8 h => ?_)
    exact g_sub [0, 1, 3] rfl (t_B_X6_putCount_10 C hrt9 hlk  v1 v3 mw_7 ml_8  h)
theorem c_X6_putCount (l : Launch) (D : va_G) (A : Nat → Prop) (ad : Nat → Nat) (cA : Nat → ClassId) (v1 : Int32) (v2 : Int32) (v3 : Int32) {ms : (Nat → Int32)} {mb : (Nat → Int32)} {my : (Nat → Int32)} {mt : (Nat → Int32)} {mw : (Nat → Int32)} {ml : (Nat → Int32)} {mo : (Nat → Int32)} {gm : Int32} {gs : Int32} {ga : Int32} {gg : Int32} {gb : Int32} {gu : Int32} {gh : Int32} {gk : Int32} {gl : Int32} {gn : Int32} {gt : Int32}  (Q : (Nat → Int32) → (Nat → Int32) → Prop) (h : F_X6_putCount v1 v2 v3 gm mw ml Q) : Met l yX6_putCount wsX6_putCount rmX6_putCount (va_Pc [.ref (ad 0), .int v1, .int v2, .int v3] (OKX D (tysX cA) (WM ad cA ms mb my mt mw ml mo gm gs ga gg gb gu gh gk gl gn gt) A)) (QC_X6_putCount D A ad cA ms mb my mt mo gm gs ga gg gb gu gh gk gl gn gt Q) 0 0 A :=
  g_met (own := RX6) (by decide) rfl rfl (Nat.le_of_ble_eq_true rfl) (fun p e s m below meth c C hrt9 hlk _ => g_sub [0, 1, 2, 3] rfl (t_B_X6_putCount_0 C hrt9 hlk v1 v2 v3 mw ml  h))
theorem k_X6_putCount {ws : List Cond} {own : String} {cc : ByteArray} {nL pc index : Nat} {lv : List (Nat × Value)} {st : List Value} {Q : State → Prop} {R : Room} {K : (Nat → Int32) → (Nat → Int32) → Prop} {v1 : Int32} {v2 : Int32} {v3 : Int32} (C : CxX p s m args c D (tysX cA) own cc nL ws) (hT : GoodIn ws (wsV own index RX6 yX6_putCount wsX6_putCount)) (hR : rmX6_putCount.frames + 1 ≤ R.frames ∧ 8 + (4 + 11) + rmX6_putCount.locals ≤ R.locals) (hcat : (st.map fun v => v.category).sum ≤ 8) (hdg : decode cc pc = .ok (.invokevirtual index, 3))  (h : F_X6_putCount v1 v2 v3 gm mw ml K) (kk : ∀ (mwq : (Nat → Int32)) (mlq : (Nat → Int32)), K mwq mlq → GoX p l e R s m args below meth c D A nL 0 0 Q (pc + 3) lv (st) (WM ad cA ms mb my mt mwq mlq mo gm gs ga gg gb gu gh gk gl gn gt)) : GoX p l e R s m args below meth c D A nL 0 0 Q pc lv (.int v3 :: .int v2 :: .int v1 :: .ref (ad 0) :: st) (WM ad cA ms mb my mt mw ml mo gm gs ga gg gb gu gh gk gl gn gt) :=
  g_callVv C (As := [.int v1, .int v2, .int v3]) 3 (c_X6_putCount l D A ad cA v1 v2 v3  K h) hT rfl rfl rfl (by decide +kernel) hR 0 WMg0 rfl rfl rfl hcat hdg (fun u hu => kk u.1 u.2 hu)
/-! X6_begins -/
abbrev rmX6_begins : Room := { frames := 2, cells := 0, slots := 0, locals := 44 }
abbrev QC_X6_begins (D : va_G) (A : Nat → Prop) (ad : Nat → Nat) (cA : Nat → ClassId) (ms : (Nat → Int32)) (mb : (Nat → Int32)) (my : (Nat → Int32)) (mt : (Nat → Int32)) (mo : (Nat → Int32)) (gm : Int32) (gs : Int32) (ga : Int32) (gg : Int32) (gb : Int32) (gu : Int32) (gh : Int32) (gk : Int32) (gl : Int32) (gn : Int32) (gt : Int32) (Q : (Nat → Int32) → (Nat → Int32) → Prop) : Array Value → State → Outcome → State → Prop := va_Qv (fun u : (Nat → Int32) × (Nat → Int32) => Q u.1 u.2) (fun u t => OKX D (tysX cA) ((fun u : (Nat → Int32) × (Nat → Int32) => WM ad cA ms mb my mt u.1 u.2 mo gm gs ga gg gb gu gh gk gl gn gt) u) A t) A
abbrev QP_X6_begins (D : va_G) (A : Nat → Prop) (ad : Nat → Nat) (cA : Nat → ClassId) (ms : (Nat → Int32)) (mb : (Nat → Int32)) (my : (Nat → Int32)) (mt : (Nat → Int32)) (mo : (Nat → Int32)) (gm : Int32) (gs : Int32) (ga : Int32) (gg : Int32) (gb : Int32) (gu : Int32) (gh : Int32) (gk : Int32) (gl : Int32) (gn : Int32) (gt : Int32) (Q : (Nat → Int32) → (Nat → Int32) → Prop) (below : List Frame) (args : Array Value) (s : State) : State → Prop := MQ below (QC_X6_begins D A ad cA ms mb my mt mo gm gs ga gg gb gu gh gk gl gn gt Q) args s 0 0 A
def B_X6_begins_47  (Q : (Nat → Int32) → (Nat → Int32) → Prop) (gm : Int32)  (mw : (Nat → Int32)) (ml : (Nat → Int32)) : Prop := (Q mw ml)
def B_X6_begins_32  (Q : (Nat → Int32) → (Nat → Int32) → Prop) (gm : Int32) (v2 : Int32) (s1 : Int32) (s2 : Int32) (mw : (Nat → Int32)) (ml : (Nat → Int32)) : Prop := (F_X6_putCount s1 s2 (71 : Int32) gm mw ml (fun mw_1 ml_2 => ((v2 = 0 → (B_X6_begins_47  Q gm mw_1 ml_2)) ∧ (¬ v2 = 0 → (F_X6_put (38 : Int32) gm mw_1 ml_2 (fun mw_4 ml_5 => (B_X6_begins_47  Q gm mw_4 ml_5)))))))
def B_X6_begins_0  (Q : (Nat → Int32) → (Nat → Int32) → Prop) (gm : Int32) (v1 : Int32) (v2 : Int32) (mw : (Nat → Int32)) (ml : (Nat → Int32)) : Prop := (vp_in gm 16 ∧ ((v1 ≤ 0 → (B_X6_begins_47  Q gm mw (upd ml gm.toNatClampNeg (0 : Int32)))) ∧ (¬ v1 ≤ 0 → (((v1 - v1 / (2 : Int32) * (2 : Int32)) = (1 : Int32) → (B_X6_begins_32  Q gm v2 ((v1 + (1 : Int32)) / (2 : Int32)) (1 : Int32) mw (upd ml gm.toNatClampNeg (0 : Int32)))) ∧ (¬ (v1 - v1 / (2 : Int32) * (2 : Int32)) = (1 : Int32) → (B_X6_begins_32  Q gm v2 ((v1 + (1 : Int32)) / (2 : Int32)) (0 : Int32) mw (upd ml gm.toNatClampNeg (0 : Int32))))))))
def F_X6_begins (v1 : Int32) (v2 : Int32) (gm : Int32) (mw : (Nat → Int32)) (ml : (Nat → Int32)) (Q : (Nat → Int32) → (Nat → Int32) → Prop) : Prop := B_X6_begins_0 Q gm v1 v2 mw ml
theorem lkX6_begins_107 : Cond.fieldLink RX6 107 (TX6 7).1 (TX6 7).2.1 (TX6 7).2.2.1 ∈ wsX6_begins := by decide +kernel
theorem lkX6_begins_26 : Cond.fieldLink RX6 26 (TX6 5).1 (TX6 5).2.1 (TX6 5).2.2.1 ∈ wsX6_begins := by decide +kernel
theorem inX6_begins_6 : ∀ q ∈ u_ws RX6 TX6 18, q ∈ wsX6_begins := by decide +kernel
set_option maxHeartbeats 4000000 in
set_option maxRecDepth 100000 in
theorem t_B_X6_begins_47  {Q : (Nat → Int32) → (Nat → Int32) → Prop} (C : CxX p s m args c D (tysX cA) RX6 cX6_begins 3 wsX6_begins) (hrt9 : meth.sig.returnType = none) (hlk : meth.locks = false)  (mw : (Nat → Int32)) (ml : (Nat → Int32))  (h : B_X6_begins_47  Q gm mw ml) : GoX p l e rmX6_begins s m args below meth c D A 3 0 0 (QP_X6_begins D A ad cA ms mb my mt mo gm gs ga gg gb gu gh gk gl gn gt Q below args s) 47 [] [] (WM ad cA ms mb my mt mw ml mo gm gs ga gg gb gu gh gk gl gn gt) := by
  replace h : (Q mw ml) := h
  exact g_vret C hrt9 hlk (u := (mw, ml)) rfl h dX6_begins_47
set_option maxHeartbeats 4000000 in
set_option maxRecDepth 100000 in
theorem t_B_X6_begins_32  {Q : (Nat → Int32) → (Nat → Int32) → Prop} (C : CxX p s m args c D (tysX cA) RX6 cX6_begins 3 wsX6_begins) (hrt9 : meth.sig.returnType = none) (hlk : meth.locks = false) (v2 : Int32) (s1 : Int32) (s2 : Int32) (mw : (Nat → Int32)) (ml : (Nat → Int32))  (h : B_X6_begins_32  Q gm v2 s1 s2 mw ml) : GoX p l e rmX6_begins s m args below meth c D A 3 0 0 (QP_X6_begins D A ad cA ms mb my mt mo gm gs ga gg gb gu gh gk gl gn gt Q below args s) 32 [(0, .ref (ad 0)), (2, .int v2)] [.int s2, .int s1, .ref (ad 0)] (WM ad cA ms mb my mt mw ml mo gm gs ga gg gb gu gh gk gl gn gt) := by
  replace h : (F_X6_putCount s1 s2 (71 : Int32) gm mw ml (fun mw_1 ml_2 => ((v2 = 0 → (B_X6_begins_47  Q gm mw_1 ml_2)) ∧ (¬ v2 = 0 → (F_X6_put (38 : Int32) gm mw_1 ml_2 (fun mw_4 ml_5 => (B_X6_begins_47  Q gm mw_4 ml_5))))))) := h
  refine g_bipush C (71 : Int32) dX6_begins_32 (by decide) ?_
  refine k_X6_putCount C gX6_begins_X6_putCount ⟨Nat.le_of_ble_eq_true rfl, Nat.le_of_ble_eq_true rfl⟩ (Nat.le_of_ble_eq_true rfl) dX6_begins_34  h (fun mw_1 ml_2 h => ?_)
  refine g_iload_n C 1 dX6_begins_37 rfl rfl ?_
  refine g_if_eq C 47 dX6_begins_38 (by decide) (fun c_3 => ?_) (fun c_3 => ?_)
  · replace h := h.1 c_3
    exact g_sub [] rfl (t_B_X6_begins_47 C hrt9 hlk  mw_1 ml_2  h)
  · replace h := h.2 c_3
    refine g_aload_n C 0 dX6_begins_41 rfl rfl ?_
    refine g_bipush C (38 : Int32) dX6_begins_42 (by decide) ?_
    refine k_X6_put C gX6_begins_X6_put ⟨Nat.le_of_ble_eq_true rfl, Nat.le_of_ble_eq_true rfl⟩ (Nat.le_of_ble_eq_true rfl) dX6_begins_44  h (fun mw_4 ml_5 h => ?_)
    exact g_sub [] rfl (t_B_X6_begins_47 C hrt9 hlk  mw_4 ml_5  h)
set_option maxHeartbeats 4000000 in
set_option maxRecDepth 100000 in
theorem t_B_X6_begins_0  {Q : (Nat → Int32) → (Nat → Int32) → Prop} (C : CxX p s m args c D (tysX cA) RX6 cX6_begins 3 wsX6_begins) (hrt9 : meth.sig.returnType = none) (hlk : meth.locks = false) (v1 : Int32) (v2 : Int32) (mw : (Nat → Int32)) (ml : (Nat → Int32))  (h : B_X6_begins_0  Q gm v1 v2 mw ml) : GoX p l e rmX6_begins s m args below meth c D A 3 0 0 (QP_X6_begins D A ad cA ms mb my mt mo gm gs ga gg gb gu gh gk gl gn gt Q below args s) 0 [(0, .ref (ad 0)), (1, .int v1), (2, .int v2)] [] (WM ad cA ms mb my mt mw ml mo gm gs ga gg gb gu gh gk gl gn gt) := by
  replace h : (vp_in gm 16 ∧ ((v1 ≤ 0 → (B_X6_begins_47  Q gm mw (upd ml gm.toNatClampNeg (0 : Int32)))) ∧ (¬ v1 ≤ 0 → (((v1 - v1 / (2 : Int32) * (2 : Int32)) = (1 : Int32) → (B_X6_begins_32  Q gm v2 ((v1 + (1 : Int32)) / (2 : Int32)) (1 : Int32) mw (upd ml gm.toNatClampNeg (0 : Int32)))) ∧ (¬ (v1 - v1 / (2 : Int32) * (2 : Int32)) = (1 : Int32) → (B_X6_begins_32  Q gm v2 ((v1 + (1 : Int32)) / (2 : Int32)) (0 : Int32) mw (upd ml gm.toNatClampNeg (0 : Int32)))))))) := h
  refine g_aload_n C 0 dX6_begins_0 rfl rfl ?_
  refine g_get C inX6_begins_6 0 WMg0 rfl 5 (by decide) lkX6_begins_26 rfl dX6_begins_1 ?_
  refine g_aload_n C 0 dX6_begins_4 rfl rfl ?_
  refine g_get C inX6_begins_6 0 WMg0 rfl 7 (by decide) lkX6_begins_107 rfl dX6_begins_5 ?_
  refine g_iconst C (0 : Int32) dX6_begins_8 (by decide) ?_
  refine g_iast C 6 1 WMg6 rfl h.1 WMs_ml dX6_begins_9 ?_
  replace h := h.2
  refine g_iload_n C 1 dX6_begins_10 rfl rfl ?_
  refine g_if_le C 47 dX6_begins_11 (by decide) (fun c_6 => ?_) (fun c_6 => ?_)
  · replace h := h.1 c_6
    exact g_sub [] rfl (t_B_X6_begins_47 C hrt9 hlk  mw (upd ml gm.toNatClampNeg (0 : Int32))  h)
  · replace h := h.2 c_6
    refine g_aload_n C 0 dX6_begins_14 rfl rfl ?_
    refine g_iload_n C 1 dX6_begins_15 rfl rfl ?_
    refine g_iconst C (1 : Int32) dX6_begins_16 (by decide) ?_
    refine g_iadd C dX6_begins_17 ?_
    refine g_iconst C (2 : Int32) dX6_begins_18 (by decide) ?_
    refine g_idiv C dX6_begins_19 (by decide) ?_
    refine g_iload_n C 1 dX6_begins_20 rfl rfl ?_
    refine g_iconst C (2 : Int32) dX6_begins_21 (by decide) ?_
    refine g_irem C dX6_begins_22 (by decide) ?_
    refine g_iconst C (1 : Int32) dX6_begins_23 (by decide) ?_
    refine g_icmp_ne C 31 dX6_begins_24 (by decide) (fun c_7 => ?_) (fun c_7 => ?_)
    · replace h := h.2 c_7
      refine g_iconst C (0 : Int32) dX6_begins_31 (by decide) ?_
      exact g_sub [0, 2] rfl (t_B_X6_begins_32 C hrt9 hlk  v2 ((v1 + (1 : Int32)) / (2 : Int32)) (0 : Int32) mw (upd ml gm.toNatClampNeg (0 : Int32))  h)
    · replace h := h.1 c_7
      refine g_iconst C (1 : Int32) dX6_begins_27 (by decide) ?_
      refine g_goto C 32 dX6_begins_28 (by decide) ?_
      exact g_sub [0, 2] rfl (t_B_X6_begins_32 C hrt9 hlk  v2 ((v1 + (1 : Int32)) / (2 : Int32)) (1 : Int32) mw (upd ml gm.toNatClampNeg (0 : Int32))  h)
theorem c_X6_begins (l : Launch) (D : va_G) (A : Nat → Prop) (ad : Nat → Nat) (cA : Nat → ClassId) (v1 : Int32) (v2 : Int32) {ms : (Nat → Int32)} {mb : (Nat → Int32)} {my : (Nat → Int32)} {mt : (Nat → Int32)} {mw : (Nat → Int32)} {ml : (Nat → Int32)} {mo : (Nat → Int32)} {gm : Int32} {gs : Int32} {ga : Int32} {gg : Int32} {gb : Int32} {gu : Int32} {gh : Int32} {gk : Int32} {gl : Int32} {gn : Int32} {gt : Int32}  (Q : (Nat → Int32) → (Nat → Int32) → Prop) (h : F_X6_begins v1 v2 gm mw ml Q) : Met l yX6_begins wsX6_begins rmX6_begins (va_Pc [.ref (ad 0), .int v1, .int v2] (OKX D (tysX cA) (WM ad cA ms mb my mt mw ml mo gm gs ga gg gb gu gh gk gl gn gt) A)) (QC_X6_begins D A ad cA ms mb my mt mo gm gs ga gg gb gu gh gk gl gn gt Q) 0 0 A :=
  g_met (own := RX6) (by decide) rfl rfl (Nat.le_of_ble_eq_true rfl) (fun p e s m below meth c C hrt9 hlk _ => g_sub [0, 1, 2] rfl (t_B_X6_begins_0 C hrt9 hlk v1 v2 mw ml  h))
theorem k_X6_begins {ws : List Cond} {own : String} {cc : ByteArray} {nL pc index : Nat} {lv : List (Nat × Value)} {st : List Value} {Q : State → Prop} {R : Room} {K : (Nat → Int32) → (Nat → Int32) → Prop} {v1 : Int32} {v2 : Int32} (C : CxX p s m args c D (tysX cA) own cc nL ws) (hT : GoodIn ws (wsV own index RX6 yX6_begins wsX6_begins)) (hR : rmX6_begins.frames + 1 ≤ R.frames ∧ 8 + (3 + 11) + rmX6_begins.locals ≤ R.locals) (hcat : (st.map fun v => v.category).sum ≤ 8) (hdg : decode cc pc = .ok (.invokevirtual index, 3))  (h : F_X6_begins v1 v2 gm mw ml K) (kk : ∀ (mwq : (Nat → Int32)) (mlq : (Nat → Int32)), K mwq mlq → GoX p l e R s m args below meth c D A nL 0 0 Q (pc + 3) lv (st) (WM ad cA ms mb my mt mwq mlq mo gm gs ga gg gb gu gh gk gl gn gt)) : GoX p l e R s m args below meth c D A nL 0 0 Q pc lv (.int v2 :: .int v1 :: .ref (ad 0) :: st) (WM ad cA ms mb my mt mw ml mo gm gs ga gg gb gu gh gk gl gn gt) :=
  g_callVv C (As := [.int v1, .int v2]) 2 (c_X6_begins l D A ad cA v1 v2  K h) hT rfl rfl rfl (by decide +kernel) hR 0 WMg0 rfl rfl rfl hcat hdg (fun u hu => kk u.1 u.2 hu)
/-! X6_isBase -/
abbrev rmX6_isBase : Room := { frames := 1, cells := 0, slots := 0, locals := 22 }
abbrev QC_X6_isBase (D : va_G) (A : Nat → Prop) (ad : Nat → Nat) (cA : Nat → ClassId) (ms : (Nat → Int32)) (mb : (Nat → Int32)) (my : (Nat → Int32)) (mt : (Nat → Int32)) (mw : (Nat → Int32)) (ml : (Nat → Int32)) (mo : (Nat → Int32)) (gm : Int32) (gs : Int32) (ga : Int32) (gg : Int32) (gb : Int32) (gu : Int32) (gh : Int32) (gk : Int32) (gl : Int32) (gn : Int32) (gt : Int32) (Q : Int32 → Prop) : Array Value → State → Outcome → State → Prop := va_Qi (fun (r : Int32) (u : Unit) => Q r ) (fun u t => OKX D (tysX cA) ((fun u : Unit => WM ad cA ms mb my mt mw ml mo gm gs ga gg gb gu gh gk gl gn gt) u) A t) A
abbrev QP_X6_isBase (D : va_G) (A : Nat → Prop) (ad : Nat → Nat) (cA : Nat → ClassId) (ms : (Nat → Int32)) (mb : (Nat → Int32)) (my : (Nat → Int32)) (mt : (Nat → Int32)) (mw : (Nat → Int32)) (ml : (Nat → Int32)) (mo : (Nat → Int32)) (gm : Int32) (gs : Int32) (ga : Int32) (gg : Int32) (gb : Int32) (gu : Int32) (gh : Int32) (gk : Int32) (gl : Int32) (gn : Int32) (gt : Int32) (Q : Int32 → Prop) (below : List Frame) (args : Array Value) (s : State) : State → Prop := MQ below (QC_X6_isBase D A ad cA ms mb my mt mw ml mo gm gs ga gg gb gu gh gk gl gn gt Q) args s 0 0 A
def B_X6_isBase_0  (Q : Int32 → Prop)  (v0 : Int32)  : Prop := (F_X6_in v0 (2 : Int32) (38 : Int32) (fun r_1 => (isBo r_1 ∧ (Q r_1))))
def F_X6_isBase (v0 : Int32)   (Q : Int32 → Prop) : Prop := B_X6_isBase_0 Q  v0 
set_option maxHeartbeats 4000000 in
set_option maxRecDepth 100000 in
theorem t_B_X6_isBase_0  {Q : Int32 → Prop} (C : CxX p s m args c D (tysX cA) RX6 cX6_isBase 1 wsX6_isBase) (hrt9 : meth.sig.returnType = (some .boolean)) (hlk : meth.locks = false) (v0 : Int32)   (h : B_X6_isBase_0  Q  v0) : GoX p l e rmX6_isBase s m args below meth c D A 1 0 0 (QP_X6_isBase D A ad cA ms mb my mt mw ml mo gm gs ga gg gb gu gh gk gl gn gt Q below args s) 0 [(0, .int v0)] [] (WM ad cA ms mb my mt mw ml mo gm gs ga gg gb gu gh gk gl gn gt) := by
  replace h : (F_X6_in v0 (2 : Int32) (38 : Int32) (fun r_1 => (isBo r_1 ∧ (Q r_1)))) := h
  refine g_iload_n C 0 dX6_isBase_0 rfl rfl ?_
  refine g_iconst C (2 : Int32) dX6_isBase_1 (by decide) ?_
  refine g_bipush C (38 : Int32) dX6_isBase_2 (by decide) ?_
  refine k_X6_in C gX6_isBase_X6_in ⟨Nat.le_of_ble_eq_true rfl, Nat.le_of_ble_eq_true rfl⟩ (Nat.le_of_ble_eq_true rfl) dX6_isBase_4  h (fun r_1 h => ?_)
  exact g_zret C hrt9 hlk h.1.n (u := ()) rfl h.2 dX6_isBase_7
theorem c_X6_isBase (l : Launch) (D : va_G) (A : Nat → Prop) (ad : Nat → Nat) (cA : Nat → ClassId) (v0 : Int32) {ms : (Nat → Int32)} {mb : (Nat → Int32)} {my : (Nat → Int32)} {mt : (Nat → Int32)} {mw : (Nat → Int32)} {ml : (Nat → Int32)} {mo : (Nat → Int32)} {gm : Int32} {gs : Int32} {ga : Int32} {gg : Int32} {gb : Int32} {gu : Int32} {gh : Int32} {gk : Int32} {gl : Int32} {gn : Int32} {gt : Int32}  (Q : Int32 → Prop) (h : F_X6_isBase v0 Q) : Met l yX6_isBase wsX6_isBase rmX6_isBase (va_Pc [.int v0] (OKX D (tysX cA) (WM ad cA ms mb my mt mw ml mo gm gs ga gg gb gu gh gk gl gn gt) A)) (QC_X6_isBase D A ad cA ms mb my mt mw ml mo gm gs ga gg gb gu gh gk gl gn gt Q) 0 0 A :=
  g_met (own := RX6) (by decide) rfl rfl (Nat.le_of_ble_eq_true rfl) (fun p e s m below meth c C hrt9 hlk _ => g_sub [0] rfl (t_B_X6_isBase_0 C hrt9 hlk v0   h))
theorem k_X6_isBase {ws : List Cond} {own : String} {cc : ByteArray} {nL pc index : Nat} {lv : List (Nat × Value)} {st : List Value} {Q : State → Prop} {R : Room} {K : Int32 → Prop} {v0 : Int32} (C : CxX p s m args c D (tysX cA) own cc nL ws) (hT : GoodIn ws (va_wsS own index yX6_isBase wsX6_isBase)) (hR : rmX6_isBase.frames + 1 ≤ R.frames ∧ 8 + (1 + 11) + rmX6_isBase.locals ≤ R.locals) (hcat : (st.map fun v => v.category).sum ≤ 8) (hdg : decode cc pc = .ok (.invokestatic index, 3))  (h : F_X6_isBase v0 K) (kk : ∀ (r : Int32) , K r → GoX p l e R s m args below meth c D A nL 0 0 Q (pc + 3) lv (.int r :: st) (WM ad cA ms mb my mt mw ml mo gm gs ga gg gb gu gh gk gl gn gt)) : GoX p l e R s m args below meth c D A nL 0 0 Q pc lv (.int v0 :: st) (WM ad cA ms mb my mt mw ml mo gm gs ga gg gb gu gh gk gl gn gt) :=
  g_callSi C (As := [.int v0]) 1 (c_X6_isBase l D A ad cA v0  K h) hT rfl rfl rfl (by decide +kernel) hR rfl rfl hcat hdg (fun r u hu => kk r  hu)
/-! X6_putBase -/
abbrev rmX6_putBase : Room := { frames := 2, cells := 0, slots := 0, locals := 44 }
abbrev QC_X6_putBase (D : va_G) (A : Nat → Prop) (ad : Nat → Nat) (cA : Nat → ClassId) (ms : (Nat → Int32)) (mb : (Nat → Int32)) (my : (Nat → Int32)) (mt : (Nat → Int32)) (mo : (Nat → Int32)) (gm : Int32) (gs : Int32) (ga : Int32) (gg : Int32) (gb : Int32) (gu : Int32) (gh : Int32) (gk : Int32) (gl : Int32) (gn : Int32) (gt : Int32) (Q : (Nat → Int32) → (Nat → Int32) → Prop) : Array Value → State → Outcome → State → Prop := va_Qv (fun u : (Nat → Int32) × (Nat → Int32) => Q u.1 u.2) (fun u t => OKX D (tysX cA) ((fun u : (Nat → Int32) × (Nat → Int32) => WM ad cA ms mb my mt u.1 u.2 mo gm gs ga gg gb gu gh gk gl gn gt) u) A t) A
abbrev QP_X6_putBase (D : va_G) (A : Nat → Prop) (ad : Nat → Nat) (cA : Nat → ClassId) (ms : (Nat → Int32)) (mb : (Nat → Int32)) (my : (Nat → Int32)) (mt : (Nat → Int32)) (mo : (Nat → Int32)) (gm : Int32) (gs : Int32) (ga : Int32) (gg : Int32) (gb : Int32) (gu : Int32) (gh : Int32) (gk : Int32) (gl : Int32) (gn : Int32) (gt : Int32) (Q : (Nat → Int32) → (Nat → Int32) → Prop) (below : List Frame) (args : Array Value) (s : State) : State → Prop := MQ below (QC_X6_putBase D A ad cA ms mb my mt mo gm gs ga gg gb gu gh gk gl gn gt Q) args s 0 0 A
def B_X6_putBase_18  (Q : (Nat → Int32) → (Nat → Int32) → Prop) (gm : Int32) (s1 : Int32) (s2 : Int32) (mw : (Nat → Int32)) (ml : (Nat → Int32)) : Prop := (F_X6_putCount s1 s2 (83 : Int32) gm mw ml (fun mw_1 ml_2 => (Q mw_1 ml_2)))
def B_X6_putBase_0  (Q : (Nat → Int32) → (Nat → Int32) → Prop) (gm : Int32) (v1 : Int32) (mw : (Nat → Int32)) (ml : (Nat → Int32)) : Prop := (((v1 - v1 / (2 : Int32) * (2 : Int32)) = (1 : Int32) → (B_X6_putBase_18  Q gm ((v1 + (1 : Int32)) / (2 : Int32)) (1 : Int32) mw ml)) ∧ (¬ (v1 - v1 / (2 : Int32) * (2 : Int32)) = (1 : Int32) → (B_X6_putBase_18  Q gm ((v1 + (1 : Int32)) / (2 : Int32)) (0 : Int32) mw ml)))
def F_X6_putBase (v1 : Int32) (gm : Int32) (mw : (Nat → Int32)) (ml : (Nat → Int32)) (Q : (Nat → Int32) → (Nat → Int32) → Prop) : Prop := B_X6_putBase_0 Q gm v1 mw ml
set_option maxHeartbeats 4000000 in
set_option maxRecDepth 100000 in
theorem t_B_X6_putBase_18  {Q : (Nat → Int32) → (Nat → Int32) → Prop} (C : CxX p s m args c D (tysX cA) RX6 cX6_putBase 2 wsX6_putBase) (hrt9 : meth.sig.returnType = none) (hlk : meth.locks = false) (s1 : Int32) (s2 : Int32) (mw : (Nat → Int32)) (ml : (Nat → Int32))  (h : B_X6_putBase_18  Q gm s1 s2 mw ml) : GoX p l e rmX6_putBase s m args below meth c D A 2 0 0 (QP_X6_putBase D A ad cA ms mb my mt mo gm gs ga gg gb gu gh gk gl gn gt Q below args s) 18 [] [.int s2, .int s1, .ref (ad 0)] (WM ad cA ms mb my mt mw ml mo gm gs ga gg gb gu gh gk gl gn gt) := by
  replace h : (F_X6_putCount s1 s2 (83 : Int32) gm mw ml (fun mw_1 ml_2 => (Q mw_1 ml_2))) := h
  refine g_bipush C (83 : Int32) dX6_putBase_18 (by decide) ?_
  refine k_X6_putCount C gX6_putBase_X6_putCount ⟨Nat.le_of_ble_eq_true rfl, Nat.le_of_ble_eq_true rfl⟩ (Nat.le_of_ble_eq_true rfl) dX6_putBase_20  h (fun mw_1 ml_2 h => ?_)
  exact g_vret C hrt9 hlk (u := (mw_1, ml_2)) rfl h dX6_putBase_23
set_option maxHeartbeats 4000000 in
set_option maxRecDepth 100000 in
theorem t_B_X6_putBase_0  {Q : (Nat → Int32) → (Nat → Int32) → Prop} (C : CxX p s m args c D (tysX cA) RX6 cX6_putBase 2 wsX6_putBase) (hrt9 : meth.sig.returnType = none) (hlk : meth.locks = false) (v1 : Int32) (mw : (Nat → Int32)) (ml : (Nat → Int32))  (h : B_X6_putBase_0  Q gm v1 mw ml) : GoX p l e rmX6_putBase s m args below meth c D A 2 0 0 (QP_X6_putBase D A ad cA ms mb my mt mo gm gs ga gg gb gu gh gk gl gn gt Q below args s) 0 [(0, .ref (ad 0)), (1, .int v1)] [] (WM ad cA ms mb my mt mw ml mo gm gs ga gg gb gu gh gk gl gn gt) := by
  replace h : (((v1 - v1 / (2 : Int32) * (2 : Int32)) = (1 : Int32) → (B_X6_putBase_18  Q gm ((v1 + (1 : Int32)) / (2 : Int32)) (1 : Int32) mw ml)) ∧ (¬ (v1 - v1 / (2 : Int32) * (2 : Int32)) = (1 : Int32) → (B_X6_putBase_18  Q gm ((v1 + (1 : Int32)) / (2 : Int32)) (0 : Int32) mw ml))) := h
  refine g_aload_n C 0 dX6_putBase_0 rfl rfl ?_
  refine g_iload_n C 1 dX6_putBase_1 rfl rfl ?_
  refine g_iconst C (1 : Int32) dX6_putBase_2 (by decide) ?_
  refine g_iadd C dX6_putBase_3 ?_
  refine g_iconst C (2 : Int32) dX6_putBase_4 (by decide) ?_
  refine g_idiv C dX6_putBase_5 (by decide) ?_
  refine g_iload_n C 1 dX6_putBase_6 rfl rfl ?_
  refine g_iconst C (2 : Int32) dX6_putBase_7 (by decide) ?_
  refine g_irem C dX6_putBase_8 (by decide) ?_
  refine g_iconst C (1 : Int32) dX6_putBase_9 (by decide) ?_
  refine g_icmp_ne C 17 dX6_putBase_10 (by decide) (fun c_3 => ?_) (fun c_3 => ?_)
  · replace h := h.2 c_3
    refine g_iconst C (0 : Int32) dX6_putBase_17 (by decide) ?_
    exact g_sub [] rfl (t_B_X6_putBase_18 C hrt9 hlk  ((v1 + (1 : Int32)) / (2 : Int32)) (0 : Int32) mw ml  h)
  · replace h := h.1 c_3
    refine g_iconst C (1 : Int32) dX6_putBase_13 (by decide) ?_
    refine g_goto C 18 dX6_putBase_14 (by decide) ?_
    exact g_sub [] rfl (t_B_X6_putBase_18 C hrt9 hlk  ((v1 + (1 : Int32)) / (2 : Int32)) (1 : Int32) mw ml  h)
theorem c_X6_putBase (l : Launch) (D : va_G) (A : Nat → Prop) (ad : Nat → Nat) (cA : Nat → ClassId) (v1 : Int32) {ms : (Nat → Int32)} {mb : (Nat → Int32)} {my : (Nat → Int32)} {mt : (Nat → Int32)} {mw : (Nat → Int32)} {ml : (Nat → Int32)} {mo : (Nat → Int32)} {gm : Int32} {gs : Int32} {ga : Int32} {gg : Int32} {gb : Int32} {gu : Int32} {gh : Int32} {gk : Int32} {gl : Int32} {gn : Int32} {gt : Int32}  (Q : (Nat → Int32) → (Nat → Int32) → Prop) (h : F_X6_putBase v1 gm mw ml Q) : Met l yX6_putBase wsX6_putBase rmX6_putBase (va_Pc [.ref (ad 0), .int v1] (OKX D (tysX cA) (WM ad cA ms mb my mt mw ml mo gm gs ga gg gb gu gh gk gl gn gt) A)) (QC_X6_putBase D A ad cA ms mb my mt mo gm gs ga gg gb gu gh gk gl gn gt Q) 0 0 A :=
  g_met (own := RX6) (by decide) rfl rfl (Nat.le_of_ble_eq_true rfl) (fun p e s m below meth c C hrt9 hlk _ => g_sub [0, 1] rfl (t_B_X6_putBase_0 C hrt9 hlk v1 mw ml  h))
theorem k_X6_putBase {ws : List Cond} {own : String} {cc : ByteArray} {nL pc index : Nat} {lv : List (Nat × Value)} {st : List Value} {Q : State → Prop} {R : Room} {K : (Nat → Int32) → (Nat → Int32) → Prop} {v1 : Int32} (C : CxX p s m args c D (tysX cA) own cc nL ws) (hT : GoodIn ws (wsV own index RX6 yX6_putBase wsX6_putBase)) (hR : rmX6_putBase.frames + 1 ≤ R.frames ∧ 8 + (2 + 11) + rmX6_putBase.locals ≤ R.locals) (hcat : (st.map fun v => v.category).sum ≤ 8) (hdg : decode cc pc = .ok (.invokevirtual index, 3))  (h : F_X6_putBase v1 gm mw ml K) (kk : ∀ (mwq : (Nat → Int32)) (mlq : (Nat → Int32)), K mwq mlq → GoX p l e R s m args below meth c D A nL 0 0 Q (pc + 3) lv (st) (WM ad cA ms mb my mt mwq mlq mo gm gs ga gg gb gu gh gk gl gn gt)) : GoX p l e R s m args below meth c D A nL 0 0 Q pc lv (.int v1 :: .ref (ad 0) :: st) (WM ad cA ms mb my mt mw ml mo gm gs ga gg gb gu gh gk gl gn gt) :=
  g_callVv C (As := [.int v1]) 1 (c_X6_putBase l D A ad cA v1  K h) hT rfl rfl rfl (by decide +kernel) hR 0 WMg0 rfl rfl rfl hcat hdg (fun u hu => kk u.1 u.2 hu)
/-! X6_smalls -/
abbrev rmX6_smalls : Room := { frames := 3, cells := 0, slots := 0, locals := 66 }
abbrev QC_X6_smalls (D : va_G) (A : Nat → Prop) (ad : Nat → Nat) (cA : Nat → ClassId) (ms : (Nat → Int32)) (mb : (Nat → Int32)) (my : (Nat → Int32)) (mt : (Nat → Int32)) (mo : (Nat → Int32)) (gs : Int32) (ga : Int32) (gg : Int32) (gb : Int32) (gu : Int32) (gh : Int32) (gk : Int32) (gl : Int32) (gn : Int32) (gt : Int32) (Q : (Nat → Int32) → (Nat → Int32) → Int32 → Prop) : Array Value → State → Outcome → State → Prop := va_Qv (fun u : (Nat → Int32) × (Nat → Int32) × Int32 => Q u.1 u.2.1 u.2.2) (fun u t => OKX D (tysX cA) ((fun u : (Nat → Int32) × (Nat → Int32) × Int32 => WM ad cA ms mb my mt u.1 u.2.1 mo u.2.2 gs ga gg gb gu gh gk gl gn gt) u) A t) A
abbrev QP_X6_smalls (D : va_G) (A : Nat → Prop) (ad : Nat → Nat) (cA : Nat → ClassId) (ms : (Nat → Int32)) (mb : (Nat → Int32)) (my : (Nat → Int32)) (mt : (Nat → Int32)) (mo : (Nat → Int32)) (gs : Int32) (ga : Int32) (gg : Int32) (gb : Int32) (gu : Int32) (gh : Int32) (gk : Int32) (gl : Int32) (gn : Int32) (gt : Int32) (Q : (Nat → Int32) → (Nat → Int32) → Int32 → Prop) (below : List Frame) (args : Array Value) (s : State) : State → Prop := MQ below (QC_X6_smalls D A ad cA ms mb my mt mo gs ga gg gb gu gh gk gl gn gt Q) args s 0 0 A
def B_X6_smalls_138 (kh36 : Int32 → Int32 → Int32 → (Nat → Int32) → (Nat → Int32) → Int32 → Prop) (Q : (Nat → Int32) → (Nat → Int32) → Int32 → Prop)  (v1 : Int32) (v2 : Int32) (v3 : Int32) (mw : (Nat → Int32)) (ml : (Nat → Int32)) (gm : Int32) : Prop := (kh36 v1 v2 (v3 + (1 : Int32)) mw ml gm)
def B_X6_smalls_128 (kh36 : Int32 → Int32 → Int32 → (Nat → Int32) → (Nat → Int32) → Int32 → Prop) (Q : (Nat → Int32) → (Nat → Int32) → Int32 → Prop)  (v1 : Int32) (v2 : Int32) (v3 : Int32) (mw : (Nat → Int32)) (ml : (Nat → Int32)) (gm : Int32) : Prop := (B_X6_smalls_138 kh36 Q  v1 v2 v3 mw ml (gm + (1 : Int32)))
def B_X6_smalls_98 (kh36 : Int32 → Int32 → Int32 → (Nat → Int32) → (Nat → Int32) → Int32 → Prop) (Q : (Nat → Int32) → (Nat → Int32) → Int32 → Prop)  (v1 : Int32) (v2 : Int32) (v3 : Int32) (v4 : Int32) (mw : (Nat → Int32)) (ml : (Nat → Int32)) (gm : Int32) : Prop := (F_X6_putBase (v4 / (10 : Int32)) gm mw ml (fun mw_1 ml_2 => ((0 ≤ v3 → (B_X6_smalls_128 kh36 Q  v1 v2 v3 mw_1 ml_2 gm)) ∧ (¬ 0 ≤ v3 → (F_X6_put (43 : Int32) gm mw_1 ml_2 (fun mw_4 ml_5 => (F_X6_put (((((97 : Int32) - v3) - (1 : Int32)).toUInt32 % 65536).toInt32) gm mw_4 ml_5 (fun mw_6 ml_7 => (B_X6_smalls_128 kh36 Q  v1 v2 v3 mw_6 ml_7 gm)))))))))
noncomputable def L_X6_smalls_36  (Q : (Nat → Int32) → (Nat → Int32) → Int32 → Prop)  (n9 : Nat) : Int32 → Int32 → Int32 → (Nat → Int32) → (Nat → Int32) → Int32 → Prop := Nat.rec (motive := fun _ => Int32 → Int32 → Int32 → (Nat → Int32) → (Nat → Int32) → Int32 → Prop) (fun _ _ _ _ _ _ => False) (fun _ kh36 => fun v1 v2 v3 mw ml gm => (((20 : Int32) ≤ v3 → (Q mw ml gm)) ∧ (¬ (20 : Int32) ≤ v3 → (((v2 + v3) ≤ 0 → (B_X6_smalls_138 kh36 Q  v1 v2 v3 mw ml gm)) ∧ (¬ (v2 + v3) ≤ 0 → ((((v2 + v3) - (v2 + v3) / (10 : Int32) * (10 : Int32)) = 0 → (F_X6_isBase ((v2 + v3) / (10 : Int32)) (fun r_11 => ((r_11 = 0 → (B_X6_smalls_138 kh36 Q  v1 v2 v3 mw ml gm)) ∧ (¬ r_11 = 0 → (F_X6_begins v1 (1 : Int32) gm mw ml (fun mw_13 ml_14 => ((v3 ≤ 0 → (B_X6_smalls_98 kh36 Q  v1 v2 v3 (v2 + v3) mw_13 ml_14 gm)) ∧ (¬ v3 ≤ 0 → (F_X6_put (((((97 : Int32) + v3) - (1 : Int32)).toUInt32 % 65536).toInt32) gm mw_13 ml_14 (fun mw_16 ml_17 => (F_X6_put (45 : Int32) gm mw_16 ml_17 (fun mw_18 ml_19 => (B_X6_smalls_98 kh36 Q  v1 v2 v3 (v2 + v3) mw_18 ml_19 gm)))))))))))))) ∧ (¬ ((v2 + v3) - (v2 + v3) / (10 : Int32) * (10 : Int32)) = 0 → (B_X6_smalls_138 kh36 Q  v1 v2 v3 mw ml gm)))))))) n9
def B_X6_smalls_33  (Q : (Nat → Int32) → (Nat → Int32) → Int32 → Prop)  (v1 : Int32) (v2 : Int32) (mw : (Nat → Int32)) (ml : (Nat → Int32)) (gm : Int32) : Prop := (∃ n9 : Nat, L_X6_smalls_36  Q  n9 v1 v2 (-19 : Int32) mw ml gm)
def B_X6_smalls_0  (Q : (Nat → Int32) → (Nat → Int32) → Int32 → Prop)  (v1 : Int32) (v2 : Int32) (mw : (Nat → Int32)) (ml : (Nat → Int32)) (gm : Int32) : Prop := (((20 : Int32) ≤ v2 → (B_X6_smalls_33  Q  v1 v2 mw ml gm)) ∧ (¬ (20 : Int32) ≤ v2 → (F_X6_begins v1 (1 : Int32) gm mw ml (fun mw_21 ml_22 => (F_X6_put (((((97 : Int32) + v2) - (1 : Int32)).toUInt32 % 65536).toInt32) gm mw_21 ml_22 (fun mw_23 ml_24 => (B_X6_smalls_33  Q  v1 v2 mw_23 ml_24 (gm + (1 : Int32)))))))))
def F_X6_smalls (v1 : Int32) (v2 : Int32)  (mw : (Nat → Int32)) (ml : (Nat → Int32)) (gm : Int32) (Q : (Nat → Int32) → (Nat → Int32) → Int32 → Prop) : Prop := B_X6_smalls_0 Q  v1 v2 mw ml gm
theorem lkX6_smalls_107 : Cond.fieldLink RX6 107 (TX6 7).1 (TX6 7).2.1 (TX6 7).2.2.1 ∈ wsX6_smalls := by decide +kernel
theorem inX6_smalls_6 : ∀ q ∈ u_ws RX6 TX6 18, q ∈ wsX6_smalls := by decide +kernel
set_option maxHeartbeats 4000000 in
set_option maxRecDepth 100000 in
theorem t_B_X6_smalls_138 {kh36 : Int32 → Int32 → Int32 → (Nat → Int32) → (Nat → Int32) → Int32 → Prop} {Q : (Nat → Int32) → (Nat → Int32) → Int32 → Prop} (C : CxX p s m args c D (tysX cA) RX6 cX6_smalls 5 wsX6_smalls) (hrt9 : meth.sig.returnType = none) (hlk : meth.locks = false) (Hk36 : ∀ (v1q : Int32) (v2q : Int32) (v3q : Int32) (mwq : (Nat → Int32)) (mlq : (Nat → Int32)) (gmq : Int32) , kh36 v1q v2q v3q mwq mlq gmq → GoX p l e rmX6_smalls s m args below meth c D A 5 0 0 (QP_X6_smalls D A ad cA ms mb my mt mo gs ga gg gb gu gh gk gl gn gt Q below args s) 36 [(0, .ref (ad 0)), (1, .int v1q), (2, .int v2q), (3, .int v3q)] [] (WM ad cA ms mb my mt mwq mlq mo gmq gs ga gg gb gu gh gk gl gn gt)) (v1 : Int32) (v2 : Int32) (v3 : Int32) (mw : (Nat → Int32)) (ml : (Nat → Int32)) (gm : Int32)  (h : B_X6_smalls_138 kh36 Q  v1 v2 v3 mw ml gm) : GoX p l e rmX6_smalls s m args below meth c D A 5 0 0 (QP_X6_smalls D A ad cA ms mb my mt mo gs ga gg gb gu gh gk gl gn gt Q below args s) 138 [(0, .ref (ad 0)), (1, .int v1), (2, .int v2), (3, .int v3)] [] (WM ad cA ms mb my mt mw ml mo gm gs ga gg gb gu gh gk gl gn gt) := by
  replace h : (kh36 v1 v2 (v3 + (1 : Int32)) mw ml gm) := h
  refine g_iinc C (v := (v3 + (1 : Int32))) (lv2 := [(3, .int (v3 + (1 : Int32))), (0, .ref (ad 0)), (1, .int v1), (2, .int v2)]) 3 dX6_smalls_138 rfl rfl (by decide) rfl ?_
  refine g_goto C 36 dX6_smalls_141 (by decide) ?_
  exact g_sub [1, 2, 3, 0] rfl (Hk36 v1 v2 (v3 + (1 : Int32)) mw ml gm  h)
set_option maxHeartbeats 4000000 in
set_option maxRecDepth 100000 in
theorem t_B_X6_smalls_128 {kh36 : Int32 → Int32 → Int32 → (Nat → Int32) → (Nat → Int32) → Int32 → Prop} {Q : (Nat → Int32) → (Nat → Int32) → Int32 → Prop} (C : CxX p s m args c D (tysX cA) RX6 cX6_smalls 5 wsX6_smalls) (hrt9 : meth.sig.returnType = none) (hlk : meth.locks = false) (Hk36 : ∀ (v1q : Int32) (v2q : Int32) (v3q : Int32) (mwq : (Nat → Int32)) (mlq : (Nat → Int32)) (gmq : Int32) , kh36 v1q v2q v3q mwq mlq gmq → GoX p l e rmX6_smalls s m args below meth c D A 5 0 0 (QP_X6_smalls D A ad cA ms mb my mt mo gs ga gg gb gu gh gk gl gn gt Q below args s) 36 [(0, .ref (ad 0)), (1, .int v1q), (2, .int v2q), (3, .int v3q)] [] (WM ad cA ms mb my mt mwq mlq mo gmq gs ga gg gb gu gh gk gl gn gt)) (v1 : Int32) (v2 : Int32) (v3 : Int32) (mw : (Nat → Int32)) (ml : (Nat → Int32)) (gm : Int32)  (h : B_X6_smalls_128 kh36 Q  v1 v2 v3 mw ml gm) : GoX p l e rmX6_smalls s m args below meth c D A 5 0 0 (QP_X6_smalls D A ad cA ms mb my mt mo gs ga gg gb gu gh gk gl gn gt Q below args s) 128 [(0, .ref (ad 0)), (1, .int v1), (2, .int v2), (3, .int v3)] [] (WM ad cA ms mb my mt mw ml mo gm gs ga gg gb gu gh gk gl gn gt) := by
  replace h : (B_X6_smalls_138 kh36 Q  v1 v2 v3 mw ml (gm + (1 : Int32))) := h
  refine g_aload_n C 0 dX6_smalls_128 rfl rfl ?_
  refine g_dup C dX6_smalls_129 rfl ?_
  refine g_get C inX6_smalls_6 0 WMg0 rfl 7 (by decide) lkX6_smalls_107 rfl dX6_smalls_130 ?_
  refine g_iconst C (1 : Int32) dX6_smalls_133 (by decide) ?_
  refine g_iadd C dX6_smalls_134 ?_
  refine g_put C inX6_smalls_6 tyX6 tyX6_ok nmX6 0 WMg0 rfl 7 (by decide) lkX6_smalls_107 rfl rfl rfl (Nat.le_of_ble_eq_true rfl) (WMs_gm) dX6_smalls_135 ?_
  exact g_sub [0, 1, 2, 3] rfl (t_B_X6_smalls_138 C hrt9 hlk Hk36 v1 v2 v3 mw ml (gm + (1 : Int32))  h)
set_option maxHeartbeats 4000000 in
set_option maxRecDepth 100000 in
theorem t_B_X6_smalls_98 {kh36 : Int32 → Int32 → Int32 → (Nat → Int32) → (Nat → Int32) → Int32 → Prop} {Q : (Nat → Int32) → (Nat → Int32) → Int32 → Prop} (C : CxX p s m args c D (tysX cA) RX6 cX6_smalls 5 wsX6_smalls) (hrt9 : meth.sig.returnType = none) (hlk : meth.locks = false) (Hk36 : ∀ (v1q : Int32) (v2q : Int32) (v3q : Int32) (mwq : (Nat → Int32)) (mlq : (Nat → Int32)) (gmq : Int32) , kh36 v1q v2q v3q mwq mlq gmq → GoX p l e rmX6_smalls s m args below meth c D A 5 0 0 (QP_X6_smalls D A ad cA ms mb my mt mo gs ga gg gb gu gh gk gl gn gt Q below args s) 36 [(0, .ref (ad 0)), (1, .int v1q), (2, .int v2q), (3, .int v3q)] [] (WM ad cA ms mb my mt mwq mlq mo gmq gs ga gg gb gu gh gk gl gn gt)) (v1 : Int32) (v2 : Int32) (v3 : Int32) (v4 : Int32) (mw : (Nat → Int32)) (ml : (Nat → Int32)) (gm : Int32)  (h : B_X6_smalls_98 kh36 Q  v1 v2 v3 v4 mw ml gm) : GoX p l e rmX6_smalls s m args below meth c D A 5 0 0 (QP_X6_smalls D A ad cA ms mb my mt mo gs ga gg gb gu gh gk gl gn gt Q below args s) 98 [(0, .ref (ad 0)), (1, .int v1), (2, .int v2), (3, .int v3), (4, .int v4)] [] (WM ad cA ms mb my mt mw ml mo gm gs ga gg gb gu gh gk gl gn gt) := by
  replace h : (F_X6_putBase (v4 / (10 : Int32)) gm mw ml (fun mw_1 ml_2 => ((0 ≤ v3 → (B_X6_smalls_128 kh36 Q  v1 v2 v3 mw_1 ml_2 gm)) ∧ (¬ 0 ≤ v3 → (F_X6_put (43 : Int32) gm mw_1 ml_2 (fun mw_4 ml_5 => (F_X6_put (((((97 : Int32) - v3) - (1 : Int32)).toUInt32 % 65536).toInt32) gm mw_4 ml_5 (fun mw_6 ml_7 => (B_X6_smalls_128 kh36 Q  v1 v2 v3 mw_6 ml_7 gm))))))))) := h
  refine g_aload_n C 0 dX6_smalls_98 rfl rfl ?_
  refine g_iload C 4 dX6_smalls_99 rfl ?_
  refine g_bipush C (10 : Int32) dX6_smalls_101 (by decide) ?_
  refine g_idiv C dX6_smalls_103 (by decide) ?_
  refine k_X6_putBase C gX6_smalls_X6_putBase ⟨Nat.le_of_ble_eq_true rfl, Nat.le_of_ble_eq_true rfl⟩ (Nat.le_of_ble_eq_true rfl) dX6_smalls_104  h (fun mw_1 ml_2 h => ?_)
  refine g_iload_n C 3 dX6_smalls_107 rfl rfl ?_
  refine g_if_ge C 128 dX6_smalls_108 (by decide) (fun c_3 => ?_) (fun c_3 => ?_)
  · replace h := h.1 c_3
    exact g_sub [0, 1, 2, 3] rfl (t_B_X6_smalls_128 C hrt9 hlk Hk36 v1 v2 v3 mw_1 ml_2 gm  h)
  · replace h := h.2 c_3
    refine g_aload_n C 0 dX6_smalls_111 rfl rfl ?_
    refine g_bipush C (43 : Int32) dX6_smalls_112 (by decide) ?_
    refine k_X6_put C gX6_smalls_X6_put ⟨Nat.le_of_ble_eq_true rfl, Nat.le_of_ble_eq_true rfl⟩ (Nat.le_of_ble_eq_true rfl) dX6_smalls_114  h (fun mw_4 ml_5 h => ?_)
    refine g_aload_n C 0 dX6_smalls_117 rfl rfl ?_
    refine g_bipush C (97 : Int32) dX6_smalls_118 (by decide) ?_
    refine g_iload_n C 3 dX6_smalls_120 rfl rfl ?_
    refine g_isub C dX6_smalls_121 ?_
    refine g_iconst C (1 : Int32) dX6_smalls_122 (by decide) ?_
    refine g_isub C dX6_smalls_123 ?_
    refine g_i2c C dX6_smalls_124 ?_
    refine k_X6_put C gX6_smalls_X6_put ⟨Nat.le_of_ble_eq_true rfl, Nat.le_of_ble_eq_true rfl⟩ (Nat.le_of_ble_eq_true rfl) dX6_smalls_125  h (fun mw_6 ml_7 h => ?_)
    exact g_sub [0, 1, 2, 3] rfl (t_B_X6_smalls_128 C hrt9 hlk Hk36 v1 v2 v3 mw_6 ml_7 gm  h)
set_option maxHeartbeats 4000000 in
set_option maxRecDepth 100000 in
theorem t_L_X6_smalls_36  {Q : (Nat → Int32) → (Nat → Int32) → Int32 → Prop} (C : CxX p s m args c D (tysX cA) RX6 cX6_smalls 5 wsX6_smalls) (hrt9 : meth.sig.returnType = none) (hlk : meth.locks = false) (m9 : Nat) : ∀ (v1 : Int32) (v2 : Int32) (v3 : Int32) (mw : (Nat → Int32)) (ml : (Nat → Int32)) (gm : Int32) , L_X6_smalls_36  Q  m9 v1 v2 v3 mw ml gm → GoX p l e rmX6_smalls s m args below meth c D A 5 0 0 (QP_X6_smalls D A ad cA ms mb my mt mo gs ga gg gb gu gh gk gl gn gt Q below args s) 36 [(0, .ref (ad 0)), (1, .int v1), (2, .int v2), (3, .int v3)] [] (WM ad cA ms mb my mt mw ml mo gm gs ga gg gb gu gh gk gl gn gt) := by
  induction m9 with
  | zero =>
    intro v1 v2 v3 mw ml gm h
    exact False.elim h
  | succ m9 Hk36 =>
    intro v1 v2 v3 mw ml gm h
    replace h : (((20 : Int32) ≤ v3 → (Q mw ml gm)) ∧ (¬ (20 : Int32) ≤ v3 → (((v2 + v3) ≤ 0 → (B_X6_smalls_138 (L_X6_smalls_36  Q  m9) Q  v1 v2 v3 mw ml gm)) ∧ (¬ (v2 + v3) ≤ 0 → ((((v2 + v3) - (v2 + v3) / (10 : Int32) * (10 : Int32)) = 0 → (F_X6_isBase ((v2 + v3) / (10 : Int32)) (fun r_11 => ((r_11 = 0 → (B_X6_smalls_138 (L_X6_smalls_36  Q  m9) Q  v1 v2 v3 mw ml gm)) ∧ (¬ r_11 = 0 → (F_X6_begins v1 (1 : Int32) gm mw ml (fun mw_13 ml_14 => ((v3 ≤ 0 → (B_X6_smalls_98 (L_X6_smalls_36  Q  m9) Q  v1 v2 v3 (v2 + v3) mw_13 ml_14 gm)) ∧ (¬ v3 ≤ 0 → (F_X6_put (((((97 : Int32) + v3) - (1 : Int32)).toUInt32 % 65536).toInt32) gm mw_13 ml_14 (fun mw_16 ml_17 => (F_X6_put (45 : Int32) gm mw_16 ml_17 (fun mw_18 ml_19 => (B_X6_smalls_98 (L_X6_smalls_36  Q  m9) Q  v1 v2 v3 (v2 + v3) mw_18 ml_19 gm)))))))))))))) ∧ (¬ ((v2 + v3) - (v2 + v3) / (10 : Int32) * (10 : Int32)) = 0 → (B_X6_smalls_138 (L_X6_smalls_36  Q  m9) Q  v1 v2 v3 mw ml gm))))))) := h
    refine g_iload_n C 3 dX6_smalls_36 rfl rfl ?_
    refine g_bipush C (20 : Int32) dX6_smalls_37 (by decide) ?_
    refine g_icmp_ge C 144 dX6_smalls_39 (by decide) (fun c_8 => ?_) (fun c_8 => ?_)
    · replace h := h.1 c_8
      exact g_vret C hrt9 hlk (u := (mw, ml, gm)) rfl h dX6_smalls_144
    · replace h := h.2 c_8
      refine g_iload_n C 2 dX6_smalls_42 rfl rfl ?_
      refine g_iload_n C 3 dX6_smalls_43 rfl rfl ?_
      refine g_iadd C dX6_smalls_44 ?_
      refine g_istore C (lv2 := [(4, .int (v2 + v3)), (0, .ref (ad 0)), (1, .int v1), (2, .int v2), (3, .int v3)]) dX6_smalls_45 (by decide) rfl ?_
      refine g_iload C 0 dX6_smalls_47 rfl ?_
      refine g_if_le C 138 dX6_smalls_49 (by decide) (fun c_9 => ?_) (fun c_9 => ?_)
      · replace h := h.1 c_9
        exact g_sub [1, 2, 3, 4] rfl (t_B_X6_smalls_138 C hrt9 hlk Hk36 v1 v2 v3 mw ml gm  h)
      · replace h := h.2 c_9
        refine g_iload C 0 dX6_smalls_52 rfl ?_
        refine g_bipush C (10 : Int32) dX6_smalls_54 (by decide) ?_
        refine g_irem C dX6_smalls_56 (by decide) ?_
        refine g_if_ne C 138 dX6_smalls_57 (by decide) (fun c_10 => ?_) (fun c_10 => ?_)
        · replace h := h.2 c_10
          exact g_sub [1, 2, 3, 4] rfl (t_B_X6_smalls_138 C hrt9 hlk Hk36 v1 v2 v3 mw ml gm  h)
        · replace h := h.1 c_10
          refine g_iload C 0 dX6_smalls_60 rfl ?_
          refine g_bipush C (10 : Int32) dX6_smalls_62 (by decide) ?_
          refine g_idiv C dX6_smalls_64 (by decide) ?_
          refine k_X6_isBase C gX6_smalls_X6_isBase ⟨Nat.le_of_ble_eq_true rfl, Nat.le_of_ble_eq_true rfl⟩ (Nat.le_of_ble_eq_true rfl) dX6_smalls_65  h (fun r_11 h => ?_)
          refine g_if_eq C 138 dX6_smalls_68 (by decide) (fun c_12 => ?_) (fun c_12 => ?_)
          · replace h := h.1 c_12
            exact g_sub [1, 2, 3, 4] rfl (t_B_X6_smalls_138 C hrt9 hlk Hk36 v1 v2 v3 mw ml gm  h)
          · replace h := h.2 c_12
            refine g_aload_n C 1 dX6_smalls_71 rfl rfl ?_
            refine g_iload_n C 2 dX6_smalls_72 rfl rfl ?_
            refine g_iconst C (1 : Int32) dX6_smalls_73 (by decide) ?_
            refine k_X6_begins C gX6_smalls_X6_begins ⟨Nat.le_of_ble_eq_true rfl, Nat.le_of_ble_eq_true rfl⟩ (Nat.le_of_ble_eq_true rfl) dX6_smalls_74  h (fun mw_13 ml_14 h => ?_)
            refine g_iload_n C 4 dX6_smalls_77 rfl rfl ?_
            refine g_if_le C 98 dX6_smalls_78 (by decide) (fun c_15 => ?_) (fun c_15 => ?_)
            · replace h := h.1 c_15
              exact g_sub [1, 2, 3, 4, 0] rfl (t_B_X6_smalls_98 C hrt9 hlk Hk36 v1 v2 v3 (v2 + v3) mw_13 ml_14 gm  h)
            · replace h := h.2 c_15
              refine g_aload_n C 1 dX6_smalls_81 rfl rfl ?_
              refine g_bipush C (97 : Int32) dX6_smalls_82 (by decide) ?_
              refine g_iload_n C 4 dX6_smalls_84 rfl rfl ?_
              refine g_iadd C dX6_smalls_85 ?_
              refine g_iconst C (1 : Int32) dX6_smalls_86 (by decide) ?_
              refine g_isub C dX6_smalls_87 ?_
              refine g_i2c C dX6_smalls_88 ?_
              refine k_X6_put C gX6_smalls_X6_put ⟨Nat.le_of_ble_eq_true rfl, Nat.le_of_ble_eq_true rfl⟩ (Nat.le_of_ble_eq_true rfl) dX6_smalls_89  h (fun mw_16 ml_17 h => ?_)
              refine g_aload_n C 1 dX6_smalls_92 rfl rfl ?_
              refine g_bipush C (45 : Int32) dX6_smalls_93 (by decide) ?_
              refine k_X6_put C gX6_smalls_X6_put ⟨Nat.le_of_ble_eq_true rfl, Nat.le_of_ble_eq_true rfl⟩ (Nat.le_of_ble_eq_true rfl) dX6_smalls_95  h (fun mw_18 ml_19 h => ?_)
              exact g_sub [1, 2, 3, 4, 0] rfl (t_B_X6_smalls_98 C hrt9 hlk Hk36 v1 v2 v3 (v2 + v3) mw_18 ml_19 gm  h)
set_option maxHeartbeats 4000000 in
set_option maxRecDepth 100000 in
theorem t_B_X6_smalls_33  {Q : (Nat → Int32) → (Nat → Int32) → Int32 → Prop} (C : CxX p s m args c D (tysX cA) RX6 cX6_smalls 5 wsX6_smalls) (hrt9 : meth.sig.returnType = none) (hlk : meth.locks = false) (v1 : Int32) (v2 : Int32) (mw : (Nat → Int32)) (ml : (Nat → Int32)) (gm : Int32)  (h : B_X6_smalls_33  Q  v1 v2 mw ml gm) : GoX p l e rmX6_smalls s m args below meth c D A 5 0 0 (QP_X6_smalls D A ad cA ms mb my mt mo gs ga gg gb gu gh gk gl gn gt Q below args s) 33 [(0, .ref (ad 0)), (1, .int v1), (2, .int v2)] [] (WM ad cA ms mb my mt mw ml mo gm gs ga gg gb gu gh gk gl gn gt) := by
  replace h : (∃ n9 : Nat, L_X6_smalls_36  Q  n9 v1 v2 (-19 : Int32) mw ml gm) := h
  refine g_bipush C (-19 : Int32) dX6_smalls_33 (by decide) ?_
  refine g_istore_n C (lv2 := [(3, .int (-19 : Int32)), (0, .ref (ad 0)), (1, .int v1), (2, .int v2)]) dX6_smalls_35 rfl (by decide) rfl ?_
  obtain ⟨n9, h⟩ := h
  exact g_sub [1, 2, 3, 0] rfl (t_L_X6_smalls_36 C hrt9 hlk  n9 v1 v2 (-19 : Int32) mw ml gm  h)
set_option maxHeartbeats 4000000 in
set_option maxRecDepth 100000 in
theorem t_B_X6_smalls_0  {Q : (Nat → Int32) → (Nat → Int32) → Int32 → Prop} (C : CxX p s m args c D (tysX cA) RX6 cX6_smalls 5 wsX6_smalls) (hrt9 : meth.sig.returnType = none) (hlk : meth.locks = false) (v1 : Int32) (v2 : Int32) (mw : (Nat → Int32)) (ml : (Nat → Int32)) (gm : Int32)  (h : B_X6_smalls_0  Q  v1 v2 mw ml gm) : GoX p l e rmX6_smalls s m args below meth c D A 5 0 0 (QP_X6_smalls D A ad cA ms mb my mt mo gs ga gg gb gu gh gk gl gn gt Q below args s) 0 [(0, .ref (ad 0)), (1, .int v1), (2, .int v2)] [] (WM ad cA ms mb my mt mw ml mo gm gs ga gg gb gu gh gk gl gn gt) := by
  replace h : (((20 : Int32) ≤ v2 → (B_X6_smalls_33  Q  v1 v2 mw ml gm)) ∧ (¬ (20 : Int32) ≤ v2 → (F_X6_begins v1 (1 : Int32) gm mw ml (fun mw_21 ml_22 => (F_X6_put (((((97 : Int32) + v2) - (1 : Int32)).toUInt32 % 65536).toInt32) gm mw_21 ml_22 (fun mw_23 ml_24 => (B_X6_smalls_33  Q  v1 v2 mw_23 ml_24 (gm + (1 : Int32))))))))) := h
  refine g_iload_n C 2 dX6_smalls_0 rfl rfl ?_
  refine g_bipush C (20 : Int32) dX6_smalls_1 (by decide) ?_
  refine g_icmp_ge C 33 dX6_smalls_3 (by decide) (fun c_20 => ?_) (fun c_20 => ?_)
  · replace h := h.1 c_20
    exact g_sub [0, 1, 2] rfl (t_B_X6_smalls_33 C hrt9 hlk  v1 v2 mw ml gm  h)
  · replace h := h.2 c_20
    refine g_aload_n C 0 dX6_smalls_6 rfl rfl ?_
    refine g_iload_n C 1 dX6_smalls_7 rfl rfl ?_
    refine g_iconst C (1 : Int32) dX6_smalls_8 (by decide) ?_
    refine k_X6_begins C gX6_smalls_X6_begins ⟨Nat.le_of_ble_eq_true rfl, Nat.le_of_ble_eq_true rfl⟩ (Nat.le_of_ble_eq_true rfl) dX6_smalls_9  h (fun mw_21 ml_22 h => ?_)
    refine g_aload_n C 0 dX6_smalls_12 rfl rfl ?_
    refine g_bipush C (97 : Int32) dX6_smalls_13 (by decide) ?_
    refine g_iload_n C 2 dX6_smalls_15 rfl rfl ?_
    refine g_iadd C dX6_smalls_16 ?_
    refine g_iconst C (1 : Int32) dX6_smalls_17 (by decide) ?_
    refine g_isub C dX6_smalls_18 ?_
    refine g_i2c C dX6_smalls_19 ?_
    refine k_X6_put C gX6_smalls_X6_put ⟨Nat.le_of_ble_eq_true rfl, Nat.le_of_ble_eq_true rfl⟩ (Nat.le_of_ble_eq_true rfl) dX6_smalls_20  h (fun mw_23 ml_24 h => ?_)
    refine g_aload_n C 0 dX6_smalls_23 rfl rfl ?_
    refine g_dup C dX6_smalls_24 rfl ?_
    refine g_get C inX6_smalls_6 0 WMg0 rfl 7 (by decide) lkX6_smalls_107 rfl dX6_smalls_25 ?_
    refine g_iconst C (1 : Int32) dX6_smalls_28 (by decide) ?_
    refine g_iadd C dX6_smalls_29 ?_
    refine g_put C inX6_smalls_6 tyX6 tyX6_ok nmX6 0 WMg0 rfl 7 (by decide) lkX6_smalls_107 rfl rfl rfl (Nat.le_of_ble_eq_true rfl) (WMs_gm) dX6_smalls_30 ?_
    exact g_sub [0, 1, 2] rfl (t_B_X6_smalls_33 C hrt9 hlk  v1 v2 mw_23 ml_24 (gm + (1 : Int32))  h)
theorem c_X6_smalls (l : Launch) (D : va_G) (A : Nat → Prop) (ad : Nat → Nat) (cA : Nat → ClassId) (v1 : Int32) (v2 : Int32) {ms : (Nat → Int32)} {mb : (Nat → Int32)} {my : (Nat → Int32)} {mt : (Nat → Int32)} {mw : (Nat → Int32)} {ml : (Nat → Int32)} {mo : (Nat → Int32)} {gm : Int32} {gs : Int32} {ga : Int32} {gg : Int32} {gb : Int32} {gu : Int32} {gh : Int32} {gk : Int32} {gl : Int32} {gn : Int32} {gt : Int32}  (Q : (Nat → Int32) → (Nat → Int32) → Int32 → Prop) (h : F_X6_smalls v1 v2 mw ml gm Q) : Met l yX6_smalls wsX6_smalls rmX6_smalls (va_Pc [.ref (ad 0), .int v1, .int v2] (OKX D (tysX cA) (WM ad cA ms mb my mt mw ml mo gm gs ga gg gb gu gh gk gl gn gt) A)) (QC_X6_smalls D A ad cA ms mb my mt mo gs ga gg gb gu gh gk gl gn gt Q) 0 0 A :=
  g_met (own := RX6) (by decide) rfl rfl (Nat.le_of_ble_eq_true rfl) (fun p e s m below meth c C hrt9 hlk _ => g_sub [0, 1, 2] rfl (t_B_X6_smalls_0 C hrt9 hlk v1 v2 mw ml gm  h))
theorem k_X6_smalls {ws : List Cond} {own : String} {cc : ByteArray} {nL pc index : Nat} {lv : List (Nat × Value)} {st : List Value} {Q : State → Prop} {R : Room} {K : (Nat → Int32) → (Nat → Int32) → Int32 → Prop} {v1 : Int32} {v2 : Int32} (C : CxX p s m args c D (tysX cA) own cc nL ws) (hT : GoodIn ws (wsV own index RX6 yX6_smalls wsX6_smalls)) (hR : rmX6_smalls.frames + 1 ≤ R.frames ∧ 8 + (5 + 11) + rmX6_smalls.locals ≤ R.locals) (hcat : (st.map fun v => v.category).sum ≤ 8) (hdg : decode cc pc = .ok (.invokevirtual index, 3))  (h : F_X6_smalls v1 v2 mw ml gm K) (kk : ∀ (mwq : (Nat → Int32)) (mlq : (Nat → Int32)) (gmq : Int32), K mwq mlq gmq → GoX p l e R s m args below meth c D A nL 0 0 Q (pc + 3) lv (st) (WM ad cA ms mb my mt mwq mlq mo gmq gs ga gg gb gu gh gk gl gn gt)) : GoX p l e R s m args below meth c D A nL 0 0 Q pc lv (.int v2 :: .int v1 :: .ref (ad 0) :: st) (WM ad cA ms mb my mt mw ml mo gm gs ga gg gb gu gh gk gl gn gt) :=
  g_callVv C (As := [.int v1, .int v2]) 2 (c_X6_smalls l D A ad cA v1 v2  K h) hT rfl rfl rfl (by decide +kernel) hR 0 WMg0 rfl rfl rfl hcat hdg (fun u hu => kk u.1 u.2.1 u.2.2 hu)
/-! X6_isAhead -/
abbrev rmX6_isAhead : Room := { frames := 0, cells := 0, slots := 0, locals := 0 }
abbrev QC_X6_isAhead (D : va_G) (A : Nat → Prop) (ad : Nat → Nat) (cA : Nat → ClassId) (ms : (Nat → Int32)) (mb : (Nat → Int32)) (my : (Nat → Int32)) (mt : (Nat → Int32)) (mw : (Nat → Int32)) (ml : (Nat → Int32)) (mo : (Nat → Int32)) (gm : Int32) (gs : Int32) (ga : Int32) (gg : Int32) (gb : Int32) (gu : Int32) (gh : Int32) (gk : Int32) (gl : Int32) (gn : Int32) (gt : Int32) (Q : Int32 → Prop) : Array Value → State → Outcome → State → Prop := va_Qi (fun (r : Int32) (u : Unit) => Q r ) (fun u t => OKX D (tysX cA) ((fun u : Unit => WM ad cA ms mb my mt mw ml mo gm gs ga gg gb gu gh gk gl gn gt) u) A t) A
abbrev QP_X6_isAhead (D : va_G) (A : Nat → Prop) (ad : Nat → Nat) (cA : Nat → ClassId) (ms : (Nat → Int32)) (mb : (Nat → Int32)) (my : (Nat → Int32)) (mt : (Nat → Int32)) (mw : (Nat → Int32)) (ml : (Nat → Int32)) (mo : (Nat → Int32)) (gm : Int32) (gs : Int32) (ga : Int32) (gg : Int32) (gb : Int32) (gu : Int32) (gh : Int32) (gk : Int32) (gl : Int32) (gn : Int32) (gt : Int32) (Q : Int32 → Prop) (below : List Frame) (args : Array Value) (s : State) : State → Prop := MQ below (QC_X6_isAhead D A ad cA ms mb my mt mw ml mo gm gs ga gg gb gu gh gk gl gn gt Q) args s 0 0 A
def B_X6_isAhead_35  (Q : Int32 → Prop) (mw : (Nat → Int32)) (ml : (Nat → Int32)) (s0 : Int32)  : Prop := (isBo s0 ∧ (Q s0))
def B_X6_isAhead_119  (Q : Int32 → Prop) (mw : (Nat → Int32)) (ml : (Nat → Int32)) (s0 : Int32)  : Prop := (isBo s0 ∧ (Q s0))
def B_X6_isAhead_118  (Q : Int32 → Prop) (mw : (Nat → Int32)) (ml : (Nat → Int32))   : Prop := (B_X6_isAhead_119  Q mw ml (0 : Int32))
def B_X6_isAhead_79  (Q : Int32 → Prop) (mw : (Nat → Int32)) (ml : (Nat → Int32)) (v1 : Int32) (v2 : Int32) (v3 : Int32)  : Prop := (vp_in v1 16 ∧ (((ml v1.toNatClampNeg) ≤ v3 → (B_X6_isAhead_118  Q mw ml )) ∧ (¬ (ml v1.toNatClampNeg) ≤ v3 → (vp_in (((10 : Int32) * v1) + v3) 160 ∧ (vp_in (((10 : Int32) * v2) + v3) 160 ∧ (((mw (((10 : Int32) * v2) + v3).toNatClampNeg) ≤ (mw (((10 : Int32) * v1) + v3).toNatClampNeg) → (B_X6_isAhead_118  Q mw ml )) ∧ (¬ (mw (((10 : Int32) * v2) + v3).toNatClampNeg) ≤ (mw (((10 : Int32) * v1) + v3).toNatClampNeg) → (B_X6_isAhead_119  Q mw ml (1 : Int32)))))))))
noncomputable def L_X6_isAhead_38  (Q : Int32 → Prop) (mw : (Nat → Int32)) (ml : (Nat → Int32)) (n9 : Nat) : Int32 → Int32 → Int32 → Prop := Nat.rec (motive := fun _ => Int32 → Int32 → Int32 → Prop) (fun _ _ _ => False) (fun _ kh38 => fun v1 v2 v3 => (vp_in v1 16 ∧ (((ml v1.toNatClampNeg) ≤ v3 → (B_X6_isAhead_79  Q mw ml v1 v2 v3)) ∧ (¬ (ml v1.toNatClampNeg) ≤ v3 → (vp_in (((10 : Int32) * v1) + v3) 160 ∧ (vp_in (((10 : Int32) * v2) + v3) 160 ∧ (((mw (((10 : Int32) * v1) + v3).toNatClampNeg) = (mw (((10 : Int32) * v2) + v3).toNatClampNeg) → (kh38 v1 v2 (v3 + (1 : Int32)))) ∧ (¬ (mw (((10 : Int32) * v1) + v3).toNatClampNeg) = (mw (((10 : Int32) * v2) + v3).toNatClampNeg) → (B_X6_isAhead_79  Q mw ml v1 v2 v3))))))))) n9
def B_X6_isAhead_0  (Q : Int32 → Prop) (mw : (Nat → Int32)) (ml : (Nat → Int32)) (v1 : Int32) (v2 : Int32)  : Prop := (vp_in v1 16 ∧ (vp_in v2 16 ∧ (((ml v1.toNatClampNeg) = (ml v2.toNatClampNeg) → (∃ n9 : Nat, L_X6_isAhead_38  Q mw ml n9 v1 v2 (0 : Int32))) ∧ (¬ (ml v1.toNatClampNeg) = (ml v2.toNatClampNeg) → (vp_in v1 16 ∧ (vp_in v2 16 ∧ (((ml v2.toNatClampNeg) ≤ (ml v1.toNatClampNeg) → (B_X6_isAhead_35  Q mw ml (0 : Int32))) ∧ (¬ (ml v2.toNatClampNeg) ≤ (ml v1.toNatClampNeg) → (B_X6_isAhead_35  Q mw ml (1 : Int32))))))))))
def F_X6_isAhead (v1 : Int32) (v2 : Int32) (mw : (Nat → Int32)) (ml : (Nat → Int32))  (Q : Int32 → Prop) : Prop := B_X6_isAhead_0 Q mw ml v1 v2 
theorem lkX6_isAhead_23 : Cond.fieldLink RX6 23 (TX6 4).1 (TX6 4).2.1 (TX6 4).2.2.1 ∈ wsX6_isAhead := by decide +kernel
theorem lkX6_isAhead_26 : Cond.fieldLink RX6 26 (TX6 5).1 (TX6 5).2.1 (TX6 5).2.2.1 ∈ wsX6_isAhead := by decide +kernel
theorem inX6_isAhead_6 : ∀ q ∈ u_ws RX6 TX6 18, q ∈ wsX6_isAhead := by decide +kernel
set_option maxHeartbeats 4000000 in
set_option maxRecDepth 100000 in
theorem t_B_X6_isAhead_35  {Q : Int32 → Prop} (C : CxX p s m args c D (tysX cA) RX6 cX6_isAhead 4 wsX6_isAhead) (hrt9 : meth.sig.returnType = (some .boolean)) (hlk : meth.locks = false) (s0 : Int32)   (h : B_X6_isAhead_35  Q mw ml s0) : GoX p l e rmX6_isAhead s m args below meth c D A 4 0 0 (QP_X6_isAhead D A ad cA ms mb my mt mw ml mo gm gs ga gg gb gu gh gk gl gn gt Q below args s) 35 [] [.int s0] (WM ad cA ms mb my mt mw ml mo gm gs ga gg gb gu gh gk gl gn gt) := by
  replace h : (isBo s0 ∧ (Q s0)) := h
  exact g_zret C hrt9 hlk h.1.n (u := ()) rfl h.2 dX6_isAhead_35
set_option maxHeartbeats 4000000 in
set_option maxRecDepth 100000 in
theorem t_B_X6_isAhead_119  {Q : Int32 → Prop} (C : CxX p s m args c D (tysX cA) RX6 cX6_isAhead 4 wsX6_isAhead) (hrt9 : meth.sig.returnType = (some .boolean)) (hlk : meth.locks = false) (s0 : Int32)   (h : B_X6_isAhead_119  Q mw ml s0) : GoX p l e rmX6_isAhead s m args below meth c D A 4 0 0 (QP_X6_isAhead D A ad cA ms mb my mt mw ml mo gm gs ga gg gb gu gh gk gl gn gt Q below args s) 119 [] [.int s0] (WM ad cA ms mb my mt mw ml mo gm gs ga gg gb gu gh gk gl gn gt) := by
  replace h : (isBo s0 ∧ (Q s0)) := h
  exact g_zret C hrt9 hlk h.1.n (u := ()) rfl h.2 dX6_isAhead_119
set_option maxHeartbeats 4000000 in
set_option maxRecDepth 100000 in
theorem t_B_X6_isAhead_118  {Q : Int32 → Prop} (C : CxX p s m args c D (tysX cA) RX6 cX6_isAhead 4 wsX6_isAhead) (hrt9 : meth.sig.returnType = (some .boolean)) (hlk : meth.locks = false)    (h : B_X6_isAhead_118  Q mw ml ) : GoX p l e rmX6_isAhead s m args below meth c D A 4 0 0 (QP_X6_isAhead D A ad cA ms mb my mt mw ml mo gm gs ga gg gb gu gh gk gl gn gt Q below args s) 118 [] [] (WM ad cA ms mb my mt mw ml mo gm gs ga gg gb gu gh gk gl gn gt) := by
  replace h : (B_X6_isAhead_119  Q mw ml (0 : Int32)) := h
  refine g_iconst C (0 : Int32) dX6_isAhead_118 (by decide) ?_
  exact g_sub [] rfl (t_B_X6_isAhead_119 C hrt9 hlk  (0 : Int32)  h)
set_option maxHeartbeats 4000000 in
set_option maxRecDepth 100000 in
theorem t_B_X6_isAhead_79  {Q : Int32 → Prop} (C : CxX p s m args c D (tysX cA) RX6 cX6_isAhead 4 wsX6_isAhead) (hrt9 : meth.sig.returnType = (some .boolean)) (hlk : meth.locks = false) (v1 : Int32) (v2 : Int32) (v3 : Int32)   (h : B_X6_isAhead_79  Q mw ml v1 v2 v3) : GoX p l e rmX6_isAhead s m args below meth c D A 4 0 0 (QP_X6_isAhead D A ad cA ms mb my mt mw ml mo gm gs ga gg gb gu gh gk gl gn gt Q below args s) 79 [(0, .ref (ad 0)), (1, .int v1), (2, .int v2), (3, .int v3)] [] (WM ad cA ms mb my mt mw ml mo gm gs ga gg gb gu gh gk gl gn gt) := by
  replace h : (vp_in v1 16 ∧ (((ml v1.toNatClampNeg) ≤ v3 → (B_X6_isAhead_118  Q mw ml )) ∧ (¬ (ml v1.toNatClampNeg) ≤ v3 → (vp_in (((10 : Int32) * v1) + v3) 160 ∧ (vp_in (((10 : Int32) * v2) + v3) 160 ∧ (((mw (((10 : Int32) * v2) + v3).toNatClampNeg) ≤ (mw (((10 : Int32) * v1) + v3).toNatClampNeg) → (B_X6_isAhead_118  Q mw ml )) ∧ (¬ (mw (((10 : Int32) * v2) + v3).toNatClampNeg) ≤ (mw (((10 : Int32) * v1) + v3).toNatClampNeg) → (B_X6_isAhead_119  Q mw ml (1 : Int32))))))))) := h
  refine g_iload_n C 3 dX6_isAhead_79 rfl rfl ?_
  refine g_aload_n C 0 dX6_isAhead_80 rfl rfl ?_
  refine g_get C inX6_isAhead_6 0 WMg0 rfl 5 (by decide) lkX6_isAhead_26 rfl dX6_isAhead_81 ?_
  refine g_iload_n C 1 dX6_isAhead_84 rfl rfl ?_
  refine g_iald C 6 1 WMg6 rfl h.1 dX6_isAhead_85 ?_
  replace h := h.2
  refine g_icmp_ge C 118 dX6_isAhead_86 (by decide) (fun c_1 => ?_) (fun c_1 => ?_)
  · replace h := h.1 c_1
    exact g_sub [] rfl (t_B_X6_isAhead_118 C hrt9 hlk    h)
  · replace h := h.2 c_1
    refine g_aload_n C 0 dX6_isAhead_89 rfl rfl ?_
    refine g_get C inX6_isAhead_6 0 WMg0 rfl 4 (by decide) lkX6_isAhead_23 rfl dX6_isAhead_90 ?_
    refine g_bipush C (10 : Int32) dX6_isAhead_93 (by decide) ?_
    refine g_iload_n C 1 dX6_isAhead_95 rfl rfl ?_
    refine g_imul C dX6_isAhead_96 ?_
    refine g_iload_n C 3 dX6_isAhead_97 rfl rfl ?_
    refine g_iadd C dX6_isAhead_98 ?_
    refine g_cald C 5 0 WMg5 rfl h.1 dX6_isAhead_99 ?_
    replace h := h.2
    refine g_aload_n C 0 dX6_isAhead_100 rfl rfl ?_
    refine g_get C inX6_isAhead_6 0 WMg0 rfl 4 (by decide) lkX6_isAhead_23 rfl dX6_isAhead_101 ?_
    refine g_bipush C (10 : Int32) dX6_isAhead_104 (by decide) ?_
    refine g_iload_n C 2 dX6_isAhead_106 rfl rfl ?_
    refine g_imul C dX6_isAhead_107 ?_
    refine g_iload_n C 3 dX6_isAhead_108 rfl rfl ?_
    refine g_iadd C dX6_isAhead_109 ?_
    refine g_cald C 5 0 WMg5 rfl h.1 dX6_isAhead_110 ?_
    replace h := h.2
    refine g_icmp_ge C 118 dX6_isAhead_111 (by decide) (fun c_2 => ?_) (fun c_2 => ?_)
    · replace h := h.1 c_2
      exact g_sub [] rfl (t_B_X6_isAhead_118 C hrt9 hlk    h)
    · replace h := h.2 c_2
      refine g_iconst C (1 : Int32) dX6_isAhead_114 (by decide) ?_
      refine g_goto C 119 dX6_isAhead_115 (by decide) ?_
      exact g_sub [] rfl (t_B_X6_isAhead_119 C hrt9 hlk  (1 : Int32)  h)
set_option maxHeartbeats 4000000 in
set_option maxRecDepth 100000 in
theorem t_L_X6_isAhead_38  {Q : Int32 → Prop} (C : CxX p s m args c D (tysX cA) RX6 cX6_isAhead 4 wsX6_isAhead) (hrt9 : meth.sig.returnType = (some .boolean)) (hlk : meth.locks = false) (m9 : Nat) : ∀ (v1 : Int32) (v2 : Int32) (v3 : Int32)  , L_X6_isAhead_38  Q mw ml m9 v1 v2 v3 → GoX p l e rmX6_isAhead s m args below meth c D A 4 0 0 (QP_X6_isAhead D A ad cA ms mb my mt mw ml mo gm gs ga gg gb gu gh gk gl gn gt Q below args s) 38 [(0, .ref (ad 0)), (1, .int v1), (2, .int v2), (3, .int v3)] [] (WM ad cA ms mb my mt mw ml mo gm gs ga gg gb gu gh gk gl gn gt) := by
  induction m9 with
  | zero =>
    intro v1 v2 v3 h
    exact False.elim h
  | succ m9 Hk38 =>
    intro v1 v2 v3 h
    replace h : (vp_in v1 16 ∧ (((ml v1.toNatClampNeg) ≤ v3 → (B_X6_isAhead_79  Q mw ml v1 v2 v3)) ∧ (¬ (ml v1.toNatClampNeg) ≤ v3 → (vp_in (((10 : Int32) * v1) + v3) 160 ∧ (vp_in (((10 : Int32) * v2) + v3) 160 ∧ (((mw (((10 : Int32) * v1) + v3).toNatClampNeg) = (mw (((10 : Int32) * v2) + v3).toNatClampNeg) → ((L_X6_isAhead_38  Q mw ml m9) v1 v2 (v3 + (1 : Int32)))) ∧ (¬ (mw (((10 : Int32) * v1) + v3).toNatClampNeg) = (mw (((10 : Int32) * v2) + v3).toNatClampNeg) → (B_X6_isAhead_79  Q mw ml v1 v2 v3)))))))) := h
    refine g_iload_n C 3 dX6_isAhead_38 rfl rfl ?_
    refine g_aload_n C 0 dX6_isAhead_39 rfl rfl ?_
    refine g_get C inX6_isAhead_6 0 WMg0 rfl 5 (by decide) lkX6_isAhead_26 rfl dX6_isAhead_40 ?_
    refine g_iload_n C 1 dX6_isAhead_43 rfl rfl ?_
    refine g_iald C 6 1 WMg6 rfl h.1 dX6_isAhead_44 ?_
    replace h := h.2
    refine g_icmp_ge C 79 dX6_isAhead_45 (by decide) (fun c_3 => ?_) (fun c_3 => ?_)
    · replace h := h.1 c_3
      exact g_sub [0, 1, 2, 3] rfl (t_B_X6_isAhead_79 C hrt9 hlk  v1 v2 v3  h)
    · replace h := h.2 c_3
      refine g_aload_n C 0 dX6_isAhead_48 rfl rfl ?_
      refine g_get C inX6_isAhead_6 0 WMg0 rfl 4 (by decide) lkX6_isAhead_23 rfl dX6_isAhead_49 ?_
      refine g_bipush C (10 : Int32) dX6_isAhead_52 (by decide) ?_
      refine g_iload_n C 1 dX6_isAhead_54 rfl rfl ?_
      refine g_imul C dX6_isAhead_55 ?_
      refine g_iload_n C 3 dX6_isAhead_56 rfl rfl ?_
      refine g_iadd C dX6_isAhead_57 ?_
      refine g_cald C 5 0 WMg5 rfl h.1 dX6_isAhead_58 ?_
      replace h := h.2
      refine g_aload_n C 0 dX6_isAhead_59 rfl rfl ?_
      refine g_get C inX6_isAhead_6 0 WMg0 rfl 4 (by decide) lkX6_isAhead_23 rfl dX6_isAhead_60 ?_
      refine g_bipush C (10 : Int32) dX6_isAhead_63 (by decide) ?_
      refine g_iload_n C 2 dX6_isAhead_65 rfl rfl ?_
      refine g_imul C dX6_isAhead_66 ?_
      refine g_iload_n C 3 dX6_isAhead_67 rfl rfl ?_
      refine g_iadd C dX6_isAhead_68 ?_
      refine g_cald C 5 0 WMg5 rfl h.1 dX6_isAhead_69 ?_
      replace h := h.2
      refine g_icmp_ne C 79 dX6_isAhead_70 (by decide) (fun c_4 => ?_) (fun c_4 => ?_)
      · replace h := h.2 c_4
        exact g_sub [0, 1, 2, 3] rfl (t_B_X6_isAhead_79 C hrt9 hlk  v1 v2 v3  h)
      · replace h := h.1 c_4
        refine g_iinc C (v := (v3 + (1 : Int32))) (lv2 := [(3, .int (v3 + (1 : Int32))), (0, .ref (ad 0)), (1, .int v1), (2, .int v2)]) 3 dX6_isAhead_73 rfl rfl (by decide) rfl ?_
        refine g_goto C 38 dX6_isAhead_76 (by decide) ?_
        exact g_sub [1, 2, 3, 0] rfl (Hk38 v1 v2 (v3 + (1 : Int32))  h)
set_option maxHeartbeats 4000000 in
set_option maxRecDepth 100000 in
theorem t_B_X6_isAhead_0  {Q : Int32 → Prop} (C : CxX p s m args c D (tysX cA) RX6 cX6_isAhead 4 wsX6_isAhead) (hrt9 : meth.sig.returnType = (some .boolean)) (hlk : meth.locks = false) (v1 : Int32) (v2 : Int32)   (h : B_X6_isAhead_0  Q mw ml v1 v2) : GoX p l e rmX6_isAhead s m args below meth c D A 4 0 0 (QP_X6_isAhead D A ad cA ms mb my mt mw ml mo gm gs ga gg gb gu gh gk gl gn gt Q below args s) 0 [(0, .ref (ad 0)), (1, .int v1), (2, .int v2)] [] (WM ad cA ms mb my mt mw ml mo gm gs ga gg gb gu gh gk gl gn gt) := by
  replace h : (vp_in v1 16 ∧ (vp_in v2 16 ∧ (((ml v1.toNatClampNeg) = (ml v2.toNatClampNeg) → (∃ n9 : Nat, L_X6_isAhead_38  Q mw ml n9 v1 v2 (0 : Int32))) ∧ (¬ (ml v1.toNatClampNeg) = (ml v2.toNatClampNeg) → (vp_in v1 16 ∧ (vp_in v2 16 ∧ (((ml v2.toNatClampNeg) ≤ (ml v1.toNatClampNeg) → (B_X6_isAhead_35  Q mw ml (0 : Int32))) ∧ (¬ (ml v2.toNatClampNeg) ≤ (ml v1.toNatClampNeg) → (B_X6_isAhead_35  Q mw ml (1 : Int32)))))))))) := h
  refine g_aload_n C 0 dX6_isAhead_0 rfl rfl ?_
  refine g_get C inX6_isAhead_6 0 WMg0 rfl 5 (by decide) lkX6_isAhead_26 rfl dX6_isAhead_1 ?_
  refine g_iload_n C 1 dX6_isAhead_4 rfl rfl ?_
  refine g_iald C 6 1 WMg6 rfl h.1 dX6_isAhead_5 ?_
  replace h := h.2
  refine g_aload_n C 0 dX6_isAhead_6 rfl rfl ?_
  refine g_get C inX6_isAhead_6 0 WMg0 rfl 5 (by decide) lkX6_isAhead_26 rfl dX6_isAhead_7 ?_
  refine g_iload_n C 2 dX6_isAhead_10 rfl rfl ?_
  refine g_iald C 6 1 WMg6 rfl h.1 dX6_isAhead_11 ?_
  replace h := h.2
  refine g_icmp_eq C 36 dX6_isAhead_12 (by decide) (fun c_5 => ?_) (fun c_5 => ?_)
  · replace h := h.1 c_5
    refine g_iconst C (0 : Int32) dX6_isAhead_36 (by decide) ?_
    refine g_istore_n C (lv2 := [(3, .int (0 : Int32)), (0, .ref (ad 0)), (1, .int v1), (2, .int v2)]) dX6_isAhead_37 rfl (by decide) rfl ?_
    obtain ⟨n9, h⟩ := h
    exact g_sub [1, 2, 3, 0] rfl (t_L_X6_isAhead_38 C hrt9 hlk  n9 v1 v2 (0 : Int32)  h)
  · replace h := h.2 c_5
    refine g_aload_n C 0 dX6_isAhead_15 rfl rfl ?_
    refine g_get C inX6_isAhead_6 0 WMg0 rfl 5 (by decide) lkX6_isAhead_26 rfl dX6_isAhead_16 ?_
    refine g_iload_n C 1 dX6_isAhead_19 rfl rfl ?_
    refine g_iald C 6 1 WMg6 rfl h.1 dX6_isAhead_20 ?_
    replace h := h.2
    refine g_aload_n C 0 dX6_isAhead_21 rfl rfl ?_
    refine g_get C inX6_isAhead_6 0 WMg0 rfl 5 (by decide) lkX6_isAhead_26 rfl dX6_isAhead_22 ?_
    refine g_iload_n C 2 dX6_isAhead_25 rfl rfl ?_
    refine g_iald C 6 1 WMg6 rfl h.1 dX6_isAhead_26 ?_
    replace h := h.2
    refine g_icmp_ge C 34 dX6_isAhead_27 (by decide) (fun c_6 => ?_) (fun c_6 => ?_)
    · replace h := h.1 c_6
      refine g_iconst C (0 : Int32) dX6_isAhead_34 (by decide) ?_
      exact g_sub [] rfl (t_B_X6_isAhead_35 C hrt9 hlk  (0 : Int32)  h)
    · replace h := h.2 c_6
      refine g_iconst C (1 : Int32) dX6_isAhead_30 (by decide) ?_
      refine g_goto C 35 dX6_isAhead_31 (by decide) ?_
      exact g_sub [] rfl (t_B_X6_isAhead_35 C hrt9 hlk  (1 : Int32)  h)
theorem c_X6_isAhead (l : Launch) (D : va_G) (A : Nat → Prop) (ad : Nat → Nat) (cA : Nat → ClassId) (v1 : Int32) (v2 : Int32) {ms : (Nat → Int32)} {mb : (Nat → Int32)} {my : (Nat → Int32)} {mt : (Nat → Int32)} {mw : (Nat → Int32)} {ml : (Nat → Int32)} {mo : (Nat → Int32)} {gm : Int32} {gs : Int32} {ga : Int32} {gg : Int32} {gb : Int32} {gu : Int32} {gh : Int32} {gk : Int32} {gl : Int32} {gn : Int32} {gt : Int32}  (Q : Int32 → Prop) (h : F_X6_isAhead v1 v2 mw ml Q) : Met l yX6_isAhead wsX6_isAhead rmX6_isAhead (va_Pc [.ref (ad 0), .int v1, .int v2] (OKX D (tysX cA) (WM ad cA ms mb my mt mw ml mo gm gs ga gg gb gu gh gk gl gn gt) A)) (QC_X6_isAhead D A ad cA ms mb my mt mw ml mo gm gs ga gg gb gu gh gk gl gn gt Q) 0 0 A :=
  g_met (own := RX6) (by decide) rfl rfl (Nat.le_of_ble_eq_true rfl) (fun p e s m below meth c C hrt9 hlk _ => g_sub [0, 1, 2] rfl (t_B_X6_isAhead_0 C hrt9 hlk v1 v2   h))
theorem k_X6_isAhead {ws : List Cond} {own : String} {cc : ByteArray} {nL pc index : Nat} {lv : List (Nat × Value)} {st : List Value} {Q : State → Prop} {R : Room} {K : Int32 → Prop} {v1 : Int32} {v2 : Int32} (C : CxX p s m args c D (tysX cA) own cc nL ws) (hT : GoodIn ws (wsV own index RX6 yX6_isAhead wsX6_isAhead)) (hR : rmX6_isAhead.frames + 1 ≤ R.frames ∧ 8 + (4 + 11) + rmX6_isAhead.locals ≤ R.locals) (hcat : (st.map fun v => v.category).sum ≤ 8) (hdg : decode cc pc = .ok (.invokevirtual index, 3))  (h : F_X6_isAhead v1 v2 mw ml K) (kk : ∀ (r : Int32) , K r → GoX p l e R s m args below meth c D A nL 0 0 Q (pc + 3) lv (.int r :: st) (WM ad cA ms mb my mt mw ml mo gm gs ga gg gb gu gh gk gl gn gt)) : GoX p l e R s m args below meth c D A nL 0 0 Q pc lv (.int v2 :: .int v1 :: .ref (ad 0) :: st) (WM ad cA ms mb my mt mw ml mo gm gs ga gg gb gu gh gk gl gn gt) :=
  g_callVi C (As := [.int v1, .int v2]) 2 (c_X6_isAhead l D A ad cA v1 v2  K h) hT rfl rfl rfl (by decide +kernel) hR 0 WMg0 rfl rfl rfl hcat hdg (fun r u hu => kk r  hu)
/-! X6_makes -/
abbrev rmX6_makes : Room := { frames := 4, cells := 0, slots := 0, locals := 90 }
abbrev QC_X6_makes (D : va_G) (A : Nat → Prop) (ad : Nat → Nat) (cA : Nat → ClassId) (ms : (Nat → Int32)) (mb : (Nat → Int32)) (my : (Nat → Int32)) (mt : (Nat → Int32)) (gs : Int32) (ga : Int32) (gg : Int32) (gb : Int32) (gu : Int32) (gh : Int32) (gk : Int32) (gl : Int32) (gn : Int32) (gt : Int32) (Q : (Nat → Int32) → (Nat → Int32) → (Nat → Int32) → Int32 → Prop) : Array Value → State → Outcome → State → Prop := va_Qv (fun u : (Nat → Int32) × (Nat → Int32) × (Nat → Int32) × Int32 => Q u.1 u.2.1 u.2.2.1 u.2.2.2) (fun u t => OKX D (tysX cA) ((fun u : (Nat → Int32) × (Nat → Int32) × (Nat → Int32) × Int32 => WM ad cA ms mb my mt u.1 u.2.1 u.2.2.1 u.2.2.2 gs ga gg gb gu gh gk gl gn gt) u) A t) A
abbrev QP_X6_makes (D : va_G) (A : Nat → Prop) (ad : Nat → Nat) (cA : Nat → ClassId) (ms : (Nat → Int32)) (mb : (Nat → Int32)) (my : (Nat → Int32)) (mt : (Nat → Int32)) (gs : Int32) (ga : Int32) (gg : Int32) (gb : Int32) (gu : Int32) (gh : Int32) (gk : Int32) (gl : Int32) (gn : Int32) (gt : Int32) (Q : (Nat → Int32) → (Nat → Int32) → (Nat → Int32) → Int32 → Prop) (below : List Frame) (args : Array Value) (s : State) : State → Prop := MQ below (QC_X6_makes D A ad cA ms mb my mt gs ga gg gb gu gh gk gl gn gt Q) args s 0 0 A
def B_X6_makes_71 (kh7 : Int32 → Int32 → (Nat → Int32) → (Nat → Int32) → (Nat → Int32) → Int32 → Prop) (Q : (Nat → Int32) → (Nat → Int32) → (Nat → Int32) → Int32 → Prop)  (v1 : Int32) (v2 : Int32) (mw : (Nat → Int32)) (ml : (Nat → Int32)) (mo : (Nat → Int32)) (gm : Int32) : Prop := (kh7 v1 (v2 + (1 : Int32)) mw ml mo gm)
def B_X6_makes_49 (kh7 : Int32 → Int32 → (Nat → Int32) → (Nat → Int32) → (Nat → Int32) → Int32 → Prop) (Q : (Nat → Int32) → (Nat → Int32) → (Nat → Int32) → Int32 → Prop)  (v1 : Int32) (v2 : Int32) (v3 : Int32) (mw : (Nat → Int32)) (ml : (Nat → Int32)) (mo : (Nat → Int32)) (gm : Int32) : Prop := ((v2 = (1 : Int32) → (B_X6_makes_71 kh7 Q  v1 v2 mw ml mo gm)) ∧ (¬ v2 = (1 : Int32) → ((v3 ≤ 0 → (B_X6_makes_71 kh7 Q  v1 v2 mw ml mo gm)) ∧ (¬ v3 ≤ 0 → (((400 : Int32) ≤ v3 → (B_X6_makes_71 kh7 Q  v1 v2 mw ml mo gm)) ∧ (¬ (400 : Int32) ≤ v3 → (F_X6_smalls v2 v3 mw ml gm (fun mw_4 ml_5 gm_6 => (B_X6_makes_71 kh7 Q  v1 v2 mw_4 ml_5 mo gm_6)))))))))
def B_X6_makes_117 (kh79 : Int32 → (Nat → Int32) → (Nat → Int32) → (Nat → Int32) → Int32 → Prop) (kh92 : Int32 → Int32 → Int32 → (Nat → Int32) → (Nat → Int32) → (Nat → Int32) → Int32 → Prop) (Q : (Nat → Int32) → (Nat → Int32) → (Nat → Int32) → Int32 → Prop)  (v2 : Int32) (v4 : Int32) (s0 : Int32) (s1 : Int32) (mw : (Nat → Int32)) (ml : (Nat → Int32)) (mo : (Nat → Int32)) (gm : Int32) : Prop := (kh92 v2 (s0 + s1) (v4 + (1 : Int32)) mw ml mo gm)
noncomputable def L_X6_makes_92 (kh79 : Int32 → (Nat → Int32) → (Nat → Int32) → (Nat → Int32) → Int32 → Prop) (Q : (Nat → Int32) → (Nat → Int32) → (Nat → Int32) → Int32 → Prop)  (n9 : Nat) : Int32 → Int32 → Int32 → (Nat → Int32) → (Nat → Int32) → (Nat → Int32) → Int32 → Prop := Nat.rec (motive := fun _ => Int32 → Int32 → Int32 → (Nat → Int32) → (Nat → Int32) → (Nat → Int32) → Int32 → Prop) (fun _ _ _ _ _ _ _ => False) (fun _ kh92 => fun v2 v3 v4 mw ml mo gm => ((gm ≤ v4 → (vp_in v3 16 ∧ (kh79 (v2 + (1 : Int32)) mw ml (upd mo v3.toNatClampNeg v2) gm))) ∧ (¬ gm ≤ v4 → (F_X6_isAhead v4 v2 mw ml (fun r_8 => ((r_8 = 0 → (B_X6_makes_117 kh79 kh92 Q  v2 v4 v3 (0 : Int32) mw ml mo gm)) ∧ (¬ r_8 = 0 → (B_X6_makes_117 kh79 kh92 Q  v2 v4 v3 (1 : Int32) mw ml mo gm)))))))) n9
noncomputable def L_X6_makes_79  (Q : (Nat → Int32) → (Nat → Int32) → (Nat → Int32) → Int32 → Prop)  (n9 : Nat) : Int32 → (Nat → Int32) → (Nat → Int32) → (Nat → Int32) → Int32 → Prop := Nat.rec (motive := fun _ => Int32 → (Nat → Int32) → (Nat → Int32) → (Nat → Int32) → Int32 → Prop) (fun _ _ _ _ _ => False) (fun _ kh79 => fun v2 mw ml mo gm => ((gm ≤ v2 → (Q mw ml mo gm)) ∧ (¬ gm ≤ v2 → (∃ n9 : Nat, L_X6_makes_92 kh79 Q  n9 v2 (0 : Int32) (0 : Int32) mw ml mo gm)))) n9
noncomputable def L_X6_makes_7  (Q : (Nat → Int32) → (Nat → Int32) → (Nat → Int32) → Int32 → Prop)  (n9 : Nat) : Int32 → Int32 → (Nat → Int32) → (Nat → Int32) → (Nat → Int32) → Int32 → Prop := Nat.rec (motive := fun _ => Int32 → Int32 → (Nat → Int32) → (Nat → Int32) → (Nat → Int32) → Int32 → Prop) (fun _ _ _ _ _ _ => False) (fun _ kh7 => fun v1 v2 mw ml mo gm => (((39 : Int32) ≤ v2 → (∃ n9 : Nat, L_X6_makes_79  Q  n9 (0 : Int32) mw ml mo gm)) ∧ (¬ (39 : Int32) ≤ v2 → ((v2 = (1 : Int32) → (B_X6_makes_49 kh7 Q  v1 v2 (v1 - ((200 : Int32) * v2)) mw ml mo gm)) ∧ (¬ v2 = (1 : Int32) → (((v1 - ((200 : Int32) * v2)) = 0 → (F_X6_begins v2 (0 : Int32) gm mw ml (fun mw_14 ml_15 => (B_X6_makes_71 kh7 Q  v1 v2 mw_14 ml_15 mo (gm + (1 : Int32)))))) ∧ (¬ (v1 - ((200 : Int32) * v2)) = 0 → (B_X6_makes_49 kh7 Q  v1 v2 (v1 - ((200 : Int32) * v2)) mw ml mo gm)))))))) n9
def B_X6_makes_0  (Q : (Nat → Int32) → (Nat → Int32) → (Nat → Int32) → Int32 → Prop)  (v1 : Int32) (mw : (Nat → Int32)) (ml : (Nat → Int32)) (mo : (Nat → Int32)) (gm : Int32) : Prop := (∃ n9 : Nat, L_X6_makes_7  Q  n9 v1 (0 : Int32) mw ml mo (0 : Int32))
def F_X6_makes (v1 : Int32)  (mw : (Nat → Int32)) (ml : (Nat → Int32)) (mo : (Nat → Int32)) (gm : Int32) (Q : (Nat → Int32) → (Nat → Int32) → (Nat → Int32) → Int32 → Prop) : Prop := B_X6_makes_0 Q  v1 mw ml mo gm
theorem lkX6_makes_29 : Cond.fieldLink RX6 29 (TX6 6).1 (TX6 6).2.1 (TX6 6).2.2.1 ∈ wsX6_makes := by decide +kernel
theorem lkX6_makes_107 : Cond.fieldLink RX6 107 (TX6 7).1 (TX6 7).2.1 (TX6 7).2.2.1 ∈ wsX6_makes := by decide +kernel
theorem inX6_makes_6 : ∀ q ∈ u_ws RX6 TX6 18, q ∈ wsX6_makes := by decide +kernel
set_option maxHeartbeats 4000000 in
set_option maxRecDepth 100000 in
theorem t_B_X6_makes_71 {kh7 : Int32 → Int32 → (Nat → Int32) → (Nat → Int32) → (Nat → Int32) → Int32 → Prop} {Q : (Nat → Int32) → (Nat → Int32) → (Nat → Int32) → Int32 → Prop} (C : CxX p s m args c D (tysX cA) RX6 cX6_makes 5 wsX6_makes) (hrt9 : meth.sig.returnType = none) (hlk : meth.locks = false) (Hk7 : ∀ (v1q : Int32) (v2q : Int32) (mwq : (Nat → Int32)) (mlq : (Nat → Int32)) (moq : (Nat → Int32)) (gmq : Int32) , kh7 v1q v2q mwq mlq moq gmq → GoX p l e rmX6_makes s m args below meth c D A 5 0 0 (QP_X6_makes D A ad cA ms mb my mt gs ga gg gb gu gh gk gl gn gt Q below args s) 7 [(0, .ref (ad 0)), (1, .int v1q), (2, .int v2q)] [] (WM ad cA ms mb my mt mwq mlq moq gmq gs ga gg gb gu gh gk gl gn gt)) (v1 : Int32) (v2 : Int32) (mw : (Nat → Int32)) (ml : (Nat → Int32)) (mo : (Nat → Int32)) (gm : Int32)  (h : B_X6_makes_71 kh7 Q  v1 v2 mw ml mo gm) : GoX p l e rmX6_makes s m args below meth c D A 5 0 0 (QP_X6_makes D A ad cA ms mb my mt gs ga gg gb gu gh gk gl gn gt Q below args s) 71 [(0, .ref (ad 0)), (1, .int v1), (2, .int v2)] [] (WM ad cA ms mb my mt mw ml mo gm gs ga gg gb gu gh gk gl gn gt) := by
  replace h : (kh7 v1 (v2 + (1 : Int32)) mw ml mo gm) := h
  refine g_iinc C (v := (v2 + (1 : Int32))) (lv2 := [(2, .int (v2 + (1 : Int32))), (0, .ref (ad 0)), (1, .int v1)]) 2 dX6_makes_71 rfl rfl (by decide) rfl ?_
  refine g_goto C 7 dX6_makes_74 (by decide) ?_
  exact g_sub [1, 2, 0] rfl (Hk7 v1 (v2 + (1 : Int32)) mw ml mo gm  h)
set_option maxHeartbeats 4000000 in
set_option maxRecDepth 100000 in
theorem t_B_X6_makes_49 {kh7 : Int32 → Int32 → (Nat → Int32) → (Nat → Int32) → (Nat → Int32) → Int32 → Prop} {Q : (Nat → Int32) → (Nat → Int32) → (Nat → Int32) → Int32 → Prop} (C : CxX p s m args c D (tysX cA) RX6 cX6_makes 5 wsX6_makes) (hrt9 : meth.sig.returnType = none) (hlk : meth.locks = false) (Hk7 : ∀ (v1q : Int32) (v2q : Int32) (mwq : (Nat → Int32)) (mlq : (Nat → Int32)) (moq : (Nat → Int32)) (gmq : Int32) , kh7 v1q v2q mwq mlq moq gmq → GoX p l e rmX6_makes s m args below meth c D A 5 0 0 (QP_X6_makes D A ad cA ms mb my mt gs ga gg gb gu gh gk gl gn gt Q below args s) 7 [(0, .ref (ad 0)), (1, .int v1q), (2, .int v2q)] [] (WM ad cA ms mb my mt mwq mlq moq gmq gs ga gg gb gu gh gk gl gn gt)) (v1 : Int32) (v2 : Int32) (v3 : Int32) (mw : (Nat → Int32)) (ml : (Nat → Int32)) (mo : (Nat → Int32)) (gm : Int32)  (h : B_X6_makes_49 kh7 Q  v1 v2 v3 mw ml mo gm) : GoX p l e rmX6_makes s m args below meth c D A 5 0 0 (QP_X6_makes D A ad cA ms mb my mt gs ga gg gb gu gh gk gl gn gt Q below args s) 49 [(0, .ref (ad 0)), (1, .int v1), (2, .int v2), (3, .int v3)] [] (WM ad cA ms mb my mt mw ml mo gm gs ga gg gb gu gh gk gl gn gt) := by
  replace h : ((v2 = (1 : Int32) → (B_X6_makes_71 kh7 Q  v1 v2 mw ml mo gm)) ∧ (¬ v2 = (1 : Int32) → ((v3 ≤ 0 → (B_X6_makes_71 kh7 Q  v1 v2 mw ml mo gm)) ∧ (¬ v3 ≤ 0 → (((400 : Int32) ≤ v3 → (B_X6_makes_71 kh7 Q  v1 v2 mw ml mo gm)) ∧ (¬ (400 : Int32) ≤ v3 → (F_X6_smalls v2 v3 mw ml gm (fun mw_4 ml_5 gm_6 => (B_X6_makes_71 kh7 Q  v1 v2 mw_4 ml_5 mo gm_6))))))))) := h
  refine g_iload_n C 2 dX6_makes_49 rfl rfl ?_
  refine g_iconst C (1 : Int32) dX6_makes_50 (by decide) ?_
  refine g_icmp_eq C 71 dX6_makes_51 (by decide) (fun c_1 => ?_) (fun c_1 => ?_)
  · replace h := h.1 c_1
    exact g_sub [0, 1, 2] rfl (t_B_X6_makes_71 C hrt9 hlk Hk7 v1 v2 mw ml mo gm  h)
  · replace h := h.2 c_1
    refine g_iload_n C 3 dX6_makes_54 rfl rfl ?_
    refine g_if_le C 71 dX6_makes_55 (by decide) (fun c_2 => ?_) (fun c_2 => ?_)
    · replace h := h.1 c_2
      exact g_sub [0, 1, 2] rfl (t_B_X6_makes_71 C hrt9 hlk Hk7 v1 v2 mw ml mo gm  h)
    · replace h := h.2 c_2
      refine g_iload_n C 3 dX6_makes_58 rfl rfl ?_
      refine g_sipush C (400 : Int32) dX6_makes_59 (by decide) ?_
      refine g_icmp_ge C 71 dX6_makes_62 (by decide) (fun c_3 => ?_) (fun c_3 => ?_)
      · replace h := h.1 c_3
        exact g_sub [0, 1, 2] rfl (t_B_X6_makes_71 C hrt9 hlk Hk7 v1 v2 mw ml mo gm  h)
      · replace h := h.2 c_3
        refine g_aload_n C 0 dX6_makes_65 rfl rfl ?_
        refine g_iload_n C 2 dX6_makes_66 rfl rfl ?_
        refine g_iload_n C 3 dX6_makes_67 rfl rfl ?_
        refine k_X6_smalls C gX6_makes_X6_smalls ⟨Nat.le_of_ble_eq_true rfl, Nat.le_of_ble_eq_true rfl⟩ (Nat.le_of_ble_eq_true rfl) dX6_makes_68  h (fun mw_4 ml_5 gm_6 h => ?_)
        exact g_sub [0, 1, 2] rfl (t_B_X6_makes_71 C hrt9 hlk Hk7 v1 v2 mw_4 ml_5 mo gm_6  h)
set_option maxHeartbeats 4000000 in
set_option maxRecDepth 100000 in
theorem t_B_X6_makes_117 {kh79 : Int32 → (Nat → Int32) → (Nat → Int32) → (Nat → Int32) → Int32 → Prop} {kh92 : Int32 → Int32 → Int32 → (Nat → Int32) → (Nat → Int32) → (Nat → Int32) → Int32 → Prop} {Q : (Nat → Int32) → (Nat → Int32) → (Nat → Int32) → Int32 → Prop} (C : CxX p s m args c D (tysX cA) RX6 cX6_makes 5 wsX6_makes) (hrt9 : meth.sig.returnType = none) (hlk : meth.locks = false) (Hk79 : ∀ (v2q : Int32) (mwq : (Nat → Int32)) (mlq : (Nat → Int32)) (moq : (Nat → Int32)) (gmq : Int32) , kh79 v2q mwq mlq moq gmq → GoX p l e rmX6_makes s m args below meth c D A 5 0 0 (QP_X6_makes D A ad cA ms mb my mt gs ga gg gb gu gh gk gl gn gt Q below args s) 79 [(0, .ref (ad 0)), (2, .int v2q)] [] (WM ad cA ms mb my mt mwq mlq moq gmq gs ga gg gb gu gh gk gl gn gt)) (Hk92 : ∀ (v2q : Int32) (v3q : Int32) (v4q : Int32) (mwq : (Nat → Int32)) (mlq : (Nat → Int32)) (moq : (Nat → Int32)) (gmq : Int32) , kh92 v2q v3q v4q mwq mlq moq gmq → GoX p l e rmX6_makes s m args below meth c D A 5 0 0 (QP_X6_makes D A ad cA ms mb my mt gs ga gg gb gu gh gk gl gn gt Q below args s) 92 [(0, .ref (ad 0)), (2, .int v2q), (3, .int v3q), (4, .int v4q)] [] (WM ad cA ms mb my mt mwq mlq moq gmq gs ga gg gb gu gh gk gl gn gt)) (v2 : Int32) (v4 : Int32) (s0 : Int32) (s1 : Int32) (mw : (Nat → Int32)) (ml : (Nat → Int32)) (mo : (Nat → Int32)) (gm : Int32)  (h : B_X6_makes_117 kh79 kh92 Q  v2 v4 s0 s1 mw ml mo gm) : GoX p l e rmX6_makes s m args below meth c D A 5 0 0 (QP_X6_makes D A ad cA ms mb my mt gs ga gg gb gu gh gk gl gn gt Q below args s) 117 [(0, .ref (ad 0)), (2, .int v2), (4, .int v4)] [.int s1, .int s0] (WM ad cA ms mb my mt mw ml mo gm gs ga gg gb gu gh gk gl gn gt) := by
  replace h : (kh92 v2 (s0 + s1) (v4 + (1 : Int32)) mw ml mo gm) := h
  refine g_iadd C dX6_makes_117 ?_
  refine g_istore_n C (lv2 := [(3, .int (s0 + s1)), (0, .ref (ad 0)), (2, .int v2), (4, .int v4)]) dX6_makes_118 rfl (by decide) rfl ?_
  refine g_iinc C (v := (v4 + (1 : Int32))) (lv2 := [(4, .int (v4 + (1 : Int32))), (3, .int (s0 + s1)), (0, .ref (ad 0)), (2, .int v2)]) 3 dX6_makes_119 rfl rfl (by decide) rfl ?_
  refine g_goto C 92 dX6_makes_122 (by decide) ?_
  exact g_sub [2, 3, 1, 0] rfl (Hk92 v2 (s0 + s1) (v4 + (1 : Int32)) mw ml mo gm  h)
set_option maxHeartbeats 4000000 in
set_option maxRecDepth 100000 in
theorem t_L_X6_makes_92 {kh79 : Int32 → (Nat → Int32) → (Nat → Int32) → (Nat → Int32) → Int32 → Prop} {Q : (Nat → Int32) → (Nat → Int32) → (Nat → Int32) → Int32 → Prop} (C : CxX p s m args c D (tysX cA) RX6 cX6_makes 5 wsX6_makes) (hrt9 : meth.sig.returnType = none) (hlk : meth.locks = false) (Hk79 : ∀ (v2q : Int32) (mwq : (Nat → Int32)) (mlq : (Nat → Int32)) (moq : (Nat → Int32)) (gmq : Int32) , kh79 v2q mwq mlq moq gmq → GoX p l e rmX6_makes s m args below meth c D A 5 0 0 (QP_X6_makes D A ad cA ms mb my mt gs ga gg gb gu gh gk gl gn gt Q below args s) 79 [(0, .ref (ad 0)), (2, .int v2q)] [] (WM ad cA ms mb my mt mwq mlq moq gmq gs ga gg gb gu gh gk gl gn gt)) (m9 : Nat) : ∀ (v2 : Int32) (v3 : Int32) (v4 : Int32) (mw : (Nat → Int32)) (ml : (Nat → Int32)) (mo : (Nat → Int32)) (gm : Int32) , L_X6_makes_92 kh79 Q  m9 v2 v3 v4 mw ml mo gm → GoX p l e rmX6_makes s m args below meth c D A 5 0 0 (QP_X6_makes D A ad cA ms mb my mt gs ga gg gb gu gh gk gl gn gt Q below args s) 92 [(0, .ref (ad 0)), (2, .int v2), (3, .int v3), (4, .int v4)] [] (WM ad cA ms mb my mt mw ml mo gm gs ga gg gb gu gh gk gl gn gt) := by
  induction m9 with
  | zero =>
    intro v2 v3 v4 mw ml mo gm h
    exact False.elim h
  | succ m9 Hk92 =>
    intro v2 v3 v4 mw ml mo gm h
    replace h : ((gm ≤ v4 → (vp_in v3 16 ∧ (kh79 (v2 + (1 : Int32)) mw ml (upd mo v3.toNatClampNeg v2) gm))) ∧ (¬ gm ≤ v4 → (F_X6_isAhead v4 v2 mw ml (fun r_8 => ((r_8 = 0 → (B_X6_makes_117 kh79 (L_X6_makes_92 kh79 Q  m9) Q  v2 v4 v3 (0 : Int32) mw ml mo gm)) ∧ (¬ r_8 = 0 → (B_X6_makes_117 kh79 (L_X6_makes_92 kh79 Q  m9) Q  v2 v4 v3 (1 : Int32) mw ml mo gm))))))) := h
    refine g_iload C 3 dX6_makes_92 rfl ?_
    refine g_aload_n C 0 dX6_makes_94 rfl rfl ?_
    refine g_get C inX6_makes_6 0 WMg0 rfl 7 (by decide) lkX6_makes_107 rfl dX6_makes_95 ?_
    refine g_icmp_ge C 125 dX6_makes_98 (by decide) (fun c_7 => ?_) (fun c_7 => ?_)
    · replace h := h.1 c_7
      refine g_aload_n C 0 dX6_makes_125 rfl rfl ?_
      refine g_get C inX6_makes_6 0 WMg0 rfl 6 (by decide) lkX6_makes_29 rfl dX6_makes_126 ?_
      refine g_iload_n C 2 dX6_makes_129 rfl rfl ?_
      refine g_iload_n C 1 dX6_makes_130 rfl rfl ?_
      refine g_iast C 7 1 WMg7 rfl h.1 WMs_mo dX6_makes_131 ?_
      replace h := h.2
      refine g_iinc C (v := (v2 + (1 : Int32))) (lv2 := [(2, .int (v2 + (1 : Int32))), (0, .ref (ad 0)), (3, .int v3), (4, .int v4)]) 1 dX6_makes_132 rfl rfl (by decide) rfl ?_
      refine g_goto C 79 dX6_makes_135 (by decide) ?_
      exact g_sub [1, 0] rfl (Hk79 (v2 + (1 : Int32)) mw ml (upd mo v3.toNatClampNeg v2) gm  h)
    · replace h := h.2 c_7
      refine g_iload_n C 2 dX6_makes_101 rfl rfl ?_
      refine g_aload_n C 0 dX6_makes_102 rfl rfl ?_
      refine g_iload C 3 dX6_makes_103 rfl ?_
      refine g_iload_n C 1 dX6_makes_105 rfl rfl ?_
      refine k_X6_isAhead C gX6_makes_X6_isAhead ⟨Nat.le_of_ble_eq_true rfl, Nat.le_of_ble_eq_true rfl⟩ (Nat.le_of_ble_eq_true rfl) dX6_makes_106  h (fun r_8 h => ?_)
      refine g_if_eq C 116 dX6_makes_109 (by decide) (fun c_9 => ?_) (fun c_9 => ?_)
      · replace h := h.1 c_9
        refine g_iconst C (0 : Int32) dX6_makes_116 (by decide) ?_
        exact g_sub [0, 1, 3] rfl (t_B_X6_makes_117 C hrt9 hlk Hk79 Hk92 v2 v4 v3 (0 : Int32) mw ml mo gm  h)
      · replace h := h.2 c_9
        refine g_iconst C (1 : Int32) dX6_makes_112 (by decide) ?_
        refine g_goto C 117 dX6_makes_113 (by decide) ?_
        exact g_sub [0, 1, 3] rfl (t_B_X6_makes_117 C hrt9 hlk Hk79 Hk92 v2 v4 v3 (1 : Int32) mw ml mo gm  h)
set_option maxHeartbeats 4000000 in
set_option maxRecDepth 100000 in
theorem t_L_X6_makes_79  {Q : (Nat → Int32) → (Nat → Int32) → (Nat → Int32) → Int32 → Prop} (C : CxX p s m args c D (tysX cA) RX6 cX6_makes 5 wsX6_makes) (hrt9 : meth.sig.returnType = none) (hlk : meth.locks = false) (m9 : Nat) : ∀ (v2 : Int32) (mw : (Nat → Int32)) (ml : (Nat → Int32)) (mo : (Nat → Int32)) (gm : Int32) , L_X6_makes_79  Q  m9 v2 mw ml mo gm → GoX p l e rmX6_makes s m args below meth c D A 5 0 0 (QP_X6_makes D A ad cA ms mb my mt gs ga gg gb gu gh gk gl gn gt Q below args s) 79 [(0, .ref (ad 0)), (2, .int v2)] [] (WM ad cA ms mb my mt mw ml mo gm gs ga gg gb gu gh gk gl gn gt) := by
  induction m9 with
  | zero =>
    intro v2 mw ml mo gm h
    exact False.elim h
  | succ m9 Hk79 =>
    intro v2 mw ml mo gm h
    replace h : ((gm ≤ v2 → (Q mw ml mo gm)) ∧ (¬ gm ≤ v2 → (∃ n9 : Nat, L_X6_makes_92 (L_X6_makes_79  Q  m9) Q  n9 v2 (0 : Int32) (0 : Int32) mw ml mo gm))) := h
    refine g_iload_n C 1 dX6_makes_79 rfl rfl ?_
    refine g_aload_n C 0 dX6_makes_80 rfl rfl ?_
    refine g_get C inX6_makes_6 0 WMg0 rfl 7 (by decide) lkX6_makes_107 rfl dX6_makes_81 ?_
    refine g_icmp_ge C 138 dX6_makes_84 (by decide) (fun c_10 => ?_) (fun c_10 => ?_)
    · replace h := h.1 c_10
      exact g_vret C hrt9 hlk (u := (mw, ml, mo, gm)) rfl h dX6_makes_138
    · replace h := h.2 c_10
      refine g_iconst C (0 : Int32) dX6_makes_87 (by decide) ?_
      refine g_istore_n C (lv2 := [(3, .int (0 : Int32)), (0, .ref (ad 0)), (2, .int v2)]) dX6_makes_88 rfl (by decide) rfl ?_
      refine g_iconst C (0 : Int32) dX6_makes_89 (by decide) ?_
      refine g_istore C (lv2 := [(4, .int (0 : Int32)), (3, .int (0 : Int32)), (0, .ref (ad 0)), (2, .int v2)]) dX6_makes_90 (by decide) rfl ?_
      obtain ⟨n9, h⟩ := h
      exact g_sub [2, 3, 1, 0] rfl (t_L_X6_makes_92 C hrt9 hlk Hk79 n9 v2 (0 : Int32) (0 : Int32) mw ml mo gm  h)
set_option maxHeartbeats 4000000 in
set_option maxRecDepth 100000 in
theorem t_L_X6_makes_7  {Q : (Nat → Int32) → (Nat → Int32) → (Nat → Int32) → Int32 → Prop} (C : CxX p s m args c D (tysX cA) RX6 cX6_makes 5 wsX6_makes) (hrt9 : meth.sig.returnType = none) (hlk : meth.locks = false) (m9 : Nat) : ∀ (v1 : Int32) (v2 : Int32) (mw : (Nat → Int32)) (ml : (Nat → Int32)) (mo : (Nat → Int32)) (gm : Int32) , L_X6_makes_7  Q  m9 v1 v2 mw ml mo gm → GoX p l e rmX6_makes s m args below meth c D A 5 0 0 (QP_X6_makes D A ad cA ms mb my mt gs ga gg gb gu gh gk gl gn gt Q below args s) 7 [(0, .ref (ad 0)), (1, .int v1), (2, .int v2)] [] (WM ad cA ms mb my mt mw ml mo gm gs ga gg gb gu gh gk gl gn gt) := by
  induction m9 with
  | zero =>
    intro v1 v2 mw ml mo gm h
    exact False.elim h
  | succ m9 Hk7 =>
    intro v1 v2 mw ml mo gm h
    replace h : (((39 : Int32) ≤ v2 → (∃ n9 : Nat, L_X6_makes_79  Q  n9 (0 : Int32) mw ml mo gm)) ∧ (¬ (39 : Int32) ≤ v2 → ((v2 = (1 : Int32) → (B_X6_makes_49 (L_X6_makes_7  Q  m9) Q  v1 v2 (v1 - ((200 : Int32) * v2)) mw ml mo gm)) ∧ (¬ v2 = (1 : Int32) → (((v1 - ((200 : Int32) * v2)) = 0 → (F_X6_begins v2 (0 : Int32) gm mw ml (fun mw_14 ml_15 => (B_X6_makes_71 (L_X6_makes_7  Q  m9) Q  v1 v2 mw_14 ml_15 mo (gm + (1 : Int32)))))) ∧ (¬ (v1 - ((200 : Int32) * v2)) = 0 → (B_X6_makes_49 (L_X6_makes_7  Q  m9) Q  v1 v2 (v1 - ((200 : Int32) * v2)) mw ml mo gm))))))) := h
    refine g_iload_n C 2 dX6_makes_7 rfl rfl ?_
    refine g_bipush C (39 : Int32) dX6_makes_8 (by decide) ?_
    refine g_icmp_ge C 77 dX6_makes_10 (by decide) (fun c_11 => ?_) (fun c_11 => ?_)
    · replace h := h.1 c_11
      refine g_iconst C (0 : Int32) dX6_makes_77 (by decide) ?_
      refine g_istore_n C (lv2 := [(2, .int (0 : Int32)), (0, .ref (ad 0)), (1, .int v1)]) dX6_makes_78 rfl (by decide) rfl ?_
      obtain ⟨n9, h⟩ := h
      exact g_sub [1, 0] rfl (t_L_X6_makes_79 C hrt9 hlk  n9 (0 : Int32) mw ml mo gm  h)
    · replace h := h.2 c_11
      refine g_iload_n C 1 dX6_makes_13 rfl rfl ?_
      refine g_sipush C (200 : Int32) dX6_makes_14 (by decide) ?_
      refine g_iload_n C 2 dX6_makes_17 rfl rfl ?_
      refine g_imul C dX6_makes_18 ?_
      refine g_isub C dX6_makes_19 ?_
      refine g_istore_n C (lv2 := [(3, .int (v1 - ((200 : Int32) * v2))), (0, .ref (ad 0)), (1, .int v1), (2, .int v2)]) dX6_makes_20 rfl (by decide) rfl ?_
      refine g_iload_n C 3 dX6_makes_21 rfl rfl ?_
      refine g_iconst C (1 : Int32) dX6_makes_22 (by decide) ?_
      refine g_icmp_eq C 49 dX6_makes_23 (by decide) (fun c_12 => ?_) (fun c_12 => ?_)
      · replace h := h.1 c_12
        exact g_sub [1, 2, 3, 0] rfl (t_B_X6_makes_49 C hrt9 hlk Hk7 v1 v2 (v1 - ((200 : Int32) * v2)) mw ml mo gm  h)
      · replace h := h.2 c_12
        refine g_iload_n C 0 dX6_makes_26 rfl rfl ?_
        refine g_if_ne C 49 dX6_makes_27 (by decide) (fun c_13 => ?_) (fun c_13 => ?_)
        · replace h := h.2 c_13
          exact g_sub [1, 2, 3, 0] rfl (t_B_X6_makes_49 C hrt9 hlk Hk7 v1 v2 (v1 - ((200 : Int32) * v2)) mw ml mo gm  h)
        · replace h := h.1 c_13
          refine g_aload_n C 1 dX6_makes_30 rfl rfl ?_
          refine g_iload_n C 3 dX6_makes_31 rfl rfl ?_
          refine g_iconst C (0 : Int32) dX6_makes_32 (by decide) ?_
          refine k_X6_begins C gX6_makes_X6_begins ⟨Nat.le_of_ble_eq_true rfl, Nat.le_of_ble_eq_true rfl⟩ (Nat.le_of_ble_eq_true rfl) dX6_makes_33  h (fun mw_14 ml_15 h => ?_)
          refine g_aload_n C 1 dX6_makes_36 rfl rfl ?_
          refine g_dup C dX6_makes_37 rfl ?_
          refine g_get C inX6_makes_6 0 WMg0 rfl 7 (by decide) lkX6_makes_107 rfl dX6_makes_38 ?_
          refine g_iconst C (1 : Int32) dX6_makes_41 (by decide) ?_
          refine g_iadd C dX6_makes_42 ?_
          refine g_put C inX6_makes_6 tyX6 tyX6_ok nmX6 0 WMg0 rfl 7 (by decide) lkX6_makes_107 rfl rfl rfl (Nat.le_of_ble_eq_true rfl) (WMs_gm) dX6_makes_43 ?_
          refine g_goto C 71 dX6_makes_46 (by decide) ?_
          exact g_sub [1, 2, 3] rfl (t_B_X6_makes_71 C hrt9 hlk Hk7 v1 v2 mw_14 ml_15 mo (gm + (1 : Int32))  h)
set_option maxHeartbeats 4000000 in
set_option maxRecDepth 100000 in
theorem t_B_X6_makes_0  {Q : (Nat → Int32) → (Nat → Int32) → (Nat → Int32) → Int32 → Prop} (C : CxX p s m args c D (tysX cA) RX6 cX6_makes 5 wsX6_makes) (hrt9 : meth.sig.returnType = none) (hlk : meth.locks = false) (v1 : Int32) (mw : (Nat → Int32)) (ml : (Nat → Int32)) (mo : (Nat → Int32)) (gm : Int32)  (h : B_X6_makes_0  Q  v1 mw ml mo gm) : GoX p l e rmX6_makes s m args below meth c D A 5 0 0 (QP_X6_makes D A ad cA ms mb my mt gs ga gg gb gu gh gk gl gn gt Q below args s) 0 [(0, .ref (ad 0)), (1, .int v1)] [] (WM ad cA ms mb my mt mw ml mo gm gs ga gg gb gu gh gk gl gn gt) := by
  replace h : (∃ n9 : Nat, L_X6_makes_7  Q  n9 v1 (0 : Int32) mw ml mo (0 : Int32)) := h
  refine g_aload_n C 0 dX6_makes_0 rfl rfl ?_
  refine g_iconst C (0 : Int32) dX6_makes_1 (by decide) ?_
  refine g_put C inX6_makes_6 tyX6 tyX6_ok nmX6 0 WMg0 rfl 7 (by decide) lkX6_makes_107 rfl rfl rfl (Nat.le_of_ble_eq_true rfl) (WMs_gm) dX6_makes_2 ?_
  refine g_iconst C (0 : Int32) dX6_makes_5 (by decide) ?_
  refine g_istore_n C (lv2 := [(2, .int (0 : Int32)), (0, .ref (ad 0)), (1, .int v1)]) dX6_makes_6 rfl (by decide) rfl ?_
  obtain ⟨n9, h⟩ := h
  exact g_sub [1, 2, 0] rfl (t_L_X6_makes_7 C hrt9 hlk  n9 v1 (0 : Int32) mw ml mo (0 : Int32)  h)
theorem c_X6_makes (l : Launch) (D : va_G) (A : Nat → Prop) (ad : Nat → Nat) (cA : Nat → ClassId) (v1 : Int32) {ms : (Nat → Int32)} {mb : (Nat → Int32)} {my : (Nat → Int32)} {mt : (Nat → Int32)} {mw : (Nat → Int32)} {ml : (Nat → Int32)} {mo : (Nat → Int32)} {gm : Int32} {gs : Int32} {ga : Int32} {gg : Int32} {gb : Int32} {gu : Int32} {gh : Int32} {gk : Int32} {gl : Int32} {gn : Int32} {gt : Int32}  (Q : (Nat → Int32) → (Nat → Int32) → (Nat → Int32) → Int32 → Prop) (h : F_X6_makes v1 mw ml mo gm Q) : Met l yX6_makes wsX6_makes rmX6_makes (va_Pc [.ref (ad 0), .int v1] (OKX D (tysX cA) (WM ad cA ms mb my mt mw ml mo gm gs ga gg gb gu gh gk gl gn gt) A)) (QC_X6_makes D A ad cA ms mb my mt gs ga gg gb gu gh gk gl gn gt Q) 0 0 A :=
  g_met (own := RX6) (by decide) rfl rfl (Nat.le_of_ble_eq_true rfl) (fun p e s m below meth c C hrt9 hlk _ => g_sub [0, 1] rfl (t_B_X6_makes_0 C hrt9 hlk v1 mw ml mo gm  h))
theorem k_X6_makes {ws : List Cond} {own : String} {cc : ByteArray} {nL pc index : Nat} {lv : List (Nat × Value)} {st : List Value} {Q : State → Prop} {R : Room} {K : (Nat → Int32) → (Nat → Int32) → (Nat → Int32) → Int32 → Prop} {v1 : Int32} (C : CxX p s m args c D (tysX cA) own cc nL ws) (hT : GoodIn ws (wsV own index RX6 yX6_makes wsX6_makes)) (hR : rmX6_makes.frames + 1 ≤ R.frames ∧ 8 + (5 + 11) + rmX6_makes.locals ≤ R.locals) (hcat : (st.map fun v => v.category).sum ≤ 8) (hdg : decode cc pc = .ok (.invokevirtual index, 3))  (h : F_X6_makes v1 mw ml mo gm K) (kk : ∀ (mwq : (Nat → Int32)) (mlq : (Nat → Int32)) (moq : (Nat → Int32)) (gmq : Int32), K mwq mlq moq gmq → GoX p l e R s m args below meth c D A nL 0 0 Q (pc + 3) lv (st) (WM ad cA ms mb my mt mwq mlq moq gmq gs ga gg gb gu gh gk gl gn gt)) : GoX p l e R s m args below meth c D A nL 0 0 Q pc lv (.int v1 :: .ref (ad 0) :: st) (WM ad cA ms mb my mt mw ml mo gm gs ga gg gb gu gh gk gl gn gt) :=
  g_callVv C (As := [.int v1]) 1 (c_X6_makes l D A ad cA v1  K h) hT rfl rfl rfl (by decide +kernel) hR 0 WMg0 rfl rfl rfl hcat hdg (fun u hu => kk u.1 u.2.1 u.2.2.1 u.2.2.2 hu)
/-! X6_says -/
abbrev rmX6_says : Room := { frames := 0, cells := 0, slots := 0, locals := 0 }
abbrev QC_X6_says (D : va_G) (A : Nat → Prop) (ad : Nat → Nat) (cA : Nat → ClassId) (ms : (Nat → Int32)) (mb : (Nat → Int32)) (mt : (Nat → Int32)) (mw : (Nat → Int32)) (ml : (Nat → Int32)) (mo : (Nat → Int32)) (gm : Int32) (gs : Int32) (ga : Int32) (gg : Int32) (gb : Int32) (gu : Int32) (gh : Int32) (gk : Int32) (gl : Int32) (gn : Int32) (gt : Int32) (Q : Int32 → (Nat → Int32) → Prop) : Array Value → State → Outcome → State → Prop := va_Qi (fun (r : Int32) (u : (Nat → Int32)) => Q r u) (fun u t => OKX D (tysX cA) ((fun u : (Nat → Int32) => WM ad cA ms mb u mt mw ml mo gm gs ga gg gb gu gh gk gl gn gt) u) A t) A
abbrev QP_X6_says (D : va_G) (A : Nat → Prop) (ad : Nat → Nat) (cA : Nat → ClassId) (ms : (Nat → Int32)) (mb : (Nat → Int32)) (mt : (Nat → Int32)) (mw : (Nat → Int32)) (ml : (Nat → Int32)) (mo : (Nat → Int32)) (gm : Int32) (gs : Int32) (ga : Int32) (gg : Int32) (gb : Int32) (gu : Int32) (gh : Int32) (gk : Int32) (gl : Int32) (gn : Int32) (gt : Int32) (Q : Int32 → (Nat → Int32) → Prop) (below : List Frame) (args : Array Value) (s : State) : State → Prop := MQ below (QC_X6_says D A ad cA ms mb mt mw ml mo gm gs ga gg gb gu gh gk gl gn gt Q) args s 0 0 A
noncomputable def L_X6_says_9  (Q : Int32 → (Nat → Int32) → Prop) (mw : (Nat → Int32)) (ml : (Nat → Int32)) (mo : (Nat → Int32)) (n9 : Nat) : Int32 → Int32 → (Nat → Int32) → Prop := Nat.rec (motive := fun _ => Int32 → Int32 → (Nat → Int32) → Prop) (fun _ _ _ => False) (fun _ kh9 => fun v2 v3 my => (vp_in v2 16 ∧ (((ml v2.toNatClampNeg) ≤ v3 → (vp_in v2 16 ∧ (Q (ml v2.toNatClampNeg) my))) ∧ (¬ (ml v2.toNatClampNeg) ≤ v3 → (vp_in (((10 : Int32) * v2) + v3) 160 ∧ (vp_in v3 20 ∧ (kh9 v2 (v3 + (1 : Int32)) (upd my v3.toNatClampNeg (vp_nar .char (mw (((10 : Int32) * v2) + v3).toNatClampNeg)))))))))) n9
def B_X6_says_0  (Q : Int32 → (Nat → Int32) → Prop) (mw : (Nat → Int32)) (ml : (Nat → Int32)) (mo : (Nat → Int32)) (v1 : Int32) (my : (Nat → Int32)) : Prop := (vp_in v1 16 ∧ (∃ n9 : Nat, L_X6_says_9  Q mw ml mo n9 (mo v1.toNatClampNeg) (0 : Int32) my))
def F_X6_says (v1 : Int32) (mw : (Nat → Int32)) (ml : (Nat → Int32)) (mo : (Nat → Int32)) (my : (Nat → Int32)) (Q : Int32 → (Nat → Int32) → Prop) : Prop := B_X6_says_0 Q mw ml mo v1 my
theorem lkX6_says_29 : Cond.fieldLink RX6 29 (TX6 6).1 (TX6 6).2.1 (TX6 6).2.2.1 ∈ wsX6_says := by decide +kernel
theorem lkX6_says_23 : Cond.fieldLink RX6 23 (TX6 4).1 (TX6 4).2.1 (TX6 4).2.2.1 ∈ wsX6_says := by decide +kernel
theorem lkX6_says_16 : Cond.fieldLink RX6 16 (TX6 2).1 (TX6 2).2.1 (TX6 2).2.2.1 ∈ wsX6_says := by decide +kernel
theorem lkX6_says_26 : Cond.fieldLink RX6 26 (TX6 5).1 (TX6 5).2.1 (TX6 5).2.2.1 ∈ wsX6_says := by decide +kernel
theorem inX6_says_6 : ∀ q ∈ u_ws RX6 TX6 18, q ∈ wsX6_says := by decide +kernel
set_option maxHeartbeats 4000000 in
set_option maxRecDepth 100000 in
theorem t_L_X6_says_9  {Q : Int32 → (Nat → Int32) → Prop} (C : CxX p s m args c D (tysX cA) RX6 cX6_says 4 wsX6_says) (hrt9 : meth.sig.returnType = (some .int)) (hlk : meth.locks = false) (m9 : Nat) : ∀ (v2 : Int32) (v3 : Int32) (my : (Nat → Int32)) , L_X6_says_9  Q mw ml mo m9 v2 v3 my → GoX p l e rmX6_says s m args below meth c D A 4 0 0 (QP_X6_says D A ad cA ms mb mt mw ml mo gm gs ga gg gb gu gh gk gl gn gt Q below args s) 9 [(0, .ref (ad 0)), (2, .int v2), (3, .int v3)] [] (WM ad cA ms mb my mt mw ml mo gm gs ga gg gb gu gh gk gl gn gt) := by
  induction m9 with
  | zero =>
    intro v2 v3 my h
    exact False.elim h
  | succ m9 Hk9 =>
    intro v2 v3 my h
    replace h : (vp_in v2 16 ∧ (((ml v2.toNatClampNeg) ≤ v3 → (vp_in v2 16 ∧ (Q (ml v2.toNatClampNeg) my))) ∧ (¬ (ml v2.toNatClampNeg) ≤ v3 → (vp_in (((10 : Int32) * v2) + v3) 160 ∧ (vp_in v3 20 ∧ ((L_X6_says_9  Q mw ml mo m9) v2 (v3 + (1 : Int32)) (upd my v3.toNatClampNeg (vp_nar .char (mw (((10 : Int32) * v2) + v3).toNatClampNeg))))))))) := h
    refine g_iload_n C 2 dX6_says_9 rfl rfl ?_
    refine g_aload_n C 0 dX6_says_10 rfl rfl ?_
    refine g_get C inX6_says_6 0 WMg0 rfl 5 (by decide) lkX6_says_26 rfl dX6_says_11 ?_
    refine g_iload_n C 1 dX6_says_14 rfl rfl ?_
    refine g_iald C 6 1 WMg6 rfl h.1 dX6_says_15 ?_
    replace h := h.2
    refine g_icmp_ge C 42 dX6_says_16 (by decide) (fun c_1 => ?_) (fun c_1 => ?_)
    · replace h := h.1 c_1
      refine g_aload_n C 0 dX6_says_42 rfl rfl ?_
      refine g_get C inX6_says_6 0 WMg0 rfl 5 (by decide) lkX6_says_26 rfl dX6_says_43 ?_
      refine g_iload_n C 1 dX6_says_46 rfl rfl ?_
      refine g_iald C 6 1 WMg6 rfl h.1 dX6_says_47 ?_
      replace h := h.2
      exact g_iret C hrt9 hlk (u := my) rfl h dX6_says_48
    · replace h := h.2 c_1
      refine g_aload_n C 0 dX6_says_19 rfl rfl ?_
      refine g_get C inX6_says_6 0 WMg0 rfl 2 (by decide) lkX6_says_16 rfl dX6_says_20 ?_
      refine g_iload_n C 2 dX6_says_23 rfl rfl ?_
      refine g_aload_n C 0 dX6_says_24 rfl rfl ?_
      refine g_get C inX6_says_6 0 WMg0 rfl 4 (by decide) lkX6_says_23 rfl dX6_says_25 ?_
      refine g_bipush C (10 : Int32) dX6_says_28 (by decide) ?_
      refine g_iload_n C 1 dX6_says_30 rfl rfl ?_
      refine g_imul C dX6_says_31 ?_
      refine g_iload_n C 2 dX6_says_32 rfl rfl ?_
      refine g_iadd C dX6_says_33 ?_
      refine g_cald C 5 0 WMg5 rfl h.1 dX6_says_34 ?_
      replace h := h.2
      refine g_cast C 3 0 WMg3 rfl h.1 WMs_my dX6_says_35 ?_
      replace h := h.2
      refine g_iinc C (v := (v3 + (1 : Int32))) (lv2 := [(3, .int (v3 + (1 : Int32))), (0, .ref (ad 0)), (2, .int v2)]) 2 dX6_says_36 rfl rfl (by decide) rfl ?_
      refine g_goto C 9 dX6_says_39 (by decide) ?_
      exact g_sub [1, 2, 0] rfl (Hk9 v2 (v3 + (1 : Int32)) (upd my v3.toNatClampNeg (vp_nar .char (mw (((10 : Int32) * v2) + v3).toNatClampNeg)))  h)
set_option maxHeartbeats 4000000 in
set_option maxRecDepth 100000 in
theorem t_B_X6_says_0  {Q : Int32 → (Nat → Int32) → Prop} (C : CxX p s m args c D (tysX cA) RX6 cX6_says 4 wsX6_says) (hrt9 : meth.sig.returnType = (some .int)) (hlk : meth.locks = false) (v1 : Int32) (my : (Nat → Int32))  (h : B_X6_says_0  Q mw ml mo v1 my) : GoX p l e rmX6_says s m args below meth c D A 4 0 0 (QP_X6_says D A ad cA ms mb mt mw ml mo gm gs ga gg gb gu gh gk gl gn gt Q below args s) 0 [(0, .ref (ad 0)), (1, .int v1)] [] (WM ad cA ms mb my mt mw ml mo gm gs ga gg gb gu gh gk gl gn gt) := by
  replace h : (vp_in v1 16 ∧ (∃ n9 : Nat, L_X6_says_9  Q mw ml mo n9 (mo v1.toNatClampNeg) (0 : Int32) my)) := h
  refine g_aload_n C 0 dX6_says_0 rfl rfl ?_
  refine g_get C inX6_says_6 0 WMg0 rfl 6 (by decide) lkX6_says_29 rfl dX6_says_1 ?_
  refine g_iload_n C 1 dX6_says_4 rfl rfl ?_
  refine g_iald C 7 1 WMg7 rfl h.1 dX6_says_5 ?_
  replace h := h.2
  refine g_istore_n C (lv2 := [(2, .int (mo v1.toNatClampNeg)), (0, .ref (ad 0)), (1, .int v1)]) dX6_says_6 rfl (by decide) rfl ?_
  refine g_iconst C (0 : Int32) dX6_says_7 (by decide) ?_
  refine g_istore_n C (lv2 := [(3, .int (0 : Int32)), (2, .int (mo v1.toNatClampNeg)), (0, .ref (ad 0)), (1, .int v1)]) dX6_says_8 rfl (by decide) rfl ?_
  obtain ⟨n9, h⟩ := h
  exact g_sub [2, 1, 0] rfl (t_L_X6_says_9 C hrt9 hlk  n9 (mo v1.toNatClampNeg) (0 : Int32) my  h)
theorem c_X6_says (l : Launch) (D : va_G) (A : Nat → Prop) (ad : Nat → Nat) (cA : Nat → ClassId) (v1 : Int32) {ms : (Nat → Int32)} {mb : (Nat → Int32)} {my : (Nat → Int32)} {mt : (Nat → Int32)} {mw : (Nat → Int32)} {ml : (Nat → Int32)} {mo : (Nat → Int32)} {gm : Int32} {gs : Int32} {ga : Int32} {gg : Int32} {gb : Int32} {gu : Int32} {gh : Int32} {gk : Int32} {gl : Int32} {gn : Int32} {gt : Int32}  (Q : Int32 → (Nat → Int32) → Prop) (h : F_X6_says v1 mw ml mo my Q) : Met l yX6_says wsX6_says rmX6_says (va_Pc [.ref (ad 0), .int v1] (OKX D (tysX cA) (WM ad cA ms mb my mt mw ml mo gm gs ga gg gb gu gh gk gl gn gt) A)) (QC_X6_says D A ad cA ms mb mt mw ml mo gm gs ga gg gb gu gh gk gl gn gt Q) 0 0 A :=
  g_met (own := RX6) (by decide) rfl rfl (Nat.le_of_ble_eq_true rfl) (fun p e s m below meth c C hrt9 hlk _ => g_sub [0, 1] rfl (t_B_X6_says_0 C hrt9 hlk v1 my  h))
theorem k_X6_says {ws : List Cond} {own : String} {cc : ByteArray} {nL pc index : Nat} {lv : List (Nat × Value)} {st : List Value} {Q : State → Prop} {R : Room} {K : Int32 → (Nat → Int32) → Prop} {v1 : Int32} (C : CxX p s m args c D (tysX cA) own cc nL ws) (hT : GoodIn ws (wsV own index RX6 yX6_says wsX6_says)) (hR : rmX6_says.frames + 1 ≤ R.frames ∧ 8 + (4 + 11) + rmX6_says.locals ≤ R.locals) (hcat : (st.map fun v => v.category).sum ≤ 8) (hdg : decode cc pc = .ok (.invokevirtual index, 3))  (h : F_X6_says v1 mw ml mo my K) (kk : ∀ (r : Int32) (myq : (Nat → Int32)), K r myq → GoX p l e R s m args below meth c D A nL 0 0 Q (pc + 3) lv (.int r :: st) (WM ad cA ms mb myq mt mw ml mo gm gs ga gg gb gu gh gk gl gn gt)) : GoX p l e R s m args below meth c D A nL 0 0 Q pc lv (.int v1 :: .ref (ad 0) :: st) (WM ad cA ms mb my mt mw ml mo gm gs ga gg gb gu gh gk gl gn gt) :=
  g_callVi C (As := [.int v1]) 1 (c_X6_says l D A ad cA v1  K h) hT rfl rfl rfl (by decide +kernel) hR 0 WMg0 rfl rfl rfl hcat hdg (fun r u hu => kk r u hu)
/-! X6_has -/
abbrev rmX6_has : Room := { frames := 0, cells := 0, slots := 0, locals := 0 }
abbrev QC_X6_has (D : va_G) (A : Nat → Prop) (ad : Nat → Nat) (cA : Nat → ClassId) (ms : (Nat → Int32)) (mb : (Nat → Int32)) (my : (Nat → Int32)) (mt : (Nat → Int32)) (mw : (Nat → Int32)) (ml : (Nat → Int32)) (mo : (Nat → Int32)) (gm : Int32) (gs : Int32) (ga : Int32) (gg : Int32) (gb : Int32) (gu : Int32) (gh : Int32) (gk : Int32) (gl : Int32) (gn : Int32) (gt : Int32) (Q : Int32 → Prop) : Array Value → State → Outcome → State → Prop := va_Qi (fun (r : Int32) (u : Unit) => Q r ) (fun u t => OKX D (tysX cA) ((fun u : Unit => WM ad cA ms mb my mt mw ml mo gm gs ga gg gb gu gh gk gl gn gt) u) A t) A
abbrev QP_X6_has (D : va_G) (A : Nat → Prop) (ad : Nat → Nat) (cA : Nat → ClassId) (ms : (Nat → Int32)) (mb : (Nat → Int32)) (my : (Nat → Int32)) (mt : (Nat → Int32)) (mw : (Nat → Int32)) (ml : (Nat → Int32)) (mo : (Nat → Int32)) (gm : Int32) (gs : Int32) (ga : Int32) (gg : Int32) (gb : Int32) (gu : Int32) (gh : Int32) (gk : Int32) (gl : Int32) (gn : Int32) (gt : Int32) (Q : Int32 → Prop) (below : List Frame) (args : Array Value) (s : State) : State → Prop := MQ below (QC_X6_has D A ad cA ms mb my mt mw ml mo gm gs ga gg gb gu gh gk gl gn gt Q) args s 0 0 A
def B_X6_has_41 (kh5 : Int32 → Int32 → Int32 → Int32 → Prop) (Q : Int32 → Prop) (mw : (Nat → Int32)) (ml : (Nat → Int32)) (v1 : Int32) (v2 : Int32) (v4 : Int32) (s0 : Int32)  : Prop := (kh5 v1 v2 s0 (v4 + (1 : Int32)))
def B_X6_has_36 (kh5 : Int32 → Int32 → Int32 → Int32 → Prop) (Q : Int32 → Prop) (mw : (Nat → Int32)) (ml : (Nat → Int32)) (v1 : Int32) (v2 : Int32) (v4 : Int32)  : Prop := (B_X6_has_41 kh5 Q mw ml v1 v2 v4 (1 : Int32))
noncomputable def L_X6_has_5  (Q : Int32 → Prop) (mw : (Nat → Int32)) (ml : (Nat → Int32)) (n9 : Nat) : Int32 → Int32 → Int32 → Int32 → Prop := Nat.rec (motive := fun _ => Int32 → Int32 → Int32 → Int32 → Prop) (fun _ _ _ _ => False) (fun _ kh5 => fun v1 v2 v3 v4 => (vp_in v1 16 ∧ (((ml v1.toNatClampNeg) ≤ v4 → (isBo v3 ∧ (Q v3))) ∧ (¬ (ml v1.toNatClampNeg) ≤ v4 → ((v3 = 0 → (vp_in (((10 : Int32) * v1) + v4) 160 ∧ (((mw (((10 : Int32) * v1) + v4).toNatClampNeg) = v2 → (B_X6_has_36 kh5 Q mw ml v1 v2 v4)) ∧ (¬ (mw (((10 : Int32) * v1) + v4).toNatClampNeg) = v2 → (B_X6_has_41 kh5 Q mw ml v1 v2 v4 (0 : Int32)))))) ∧ (¬ v3 = 0 → (B_X6_has_36 kh5 Q mw ml v1 v2 v4))))))) n9
def B_X6_has_0  (Q : Int32 → Prop) (mw : (Nat → Int32)) (ml : (Nat → Int32)) (v1 : Int32) (v2 : Int32)  : Prop := (∃ n9 : Nat, L_X6_has_5  Q mw ml n9 v1 v2 (0 : Int32) (0 : Int32))
def F_X6_has (v1 : Int32) (v2 : Int32) (mw : (Nat → Int32)) (ml : (Nat → Int32))  (Q : Int32 → Prop) : Prop := B_X6_has_0 Q mw ml v1 v2 
theorem lkX6_has_23 : Cond.fieldLink RX6 23 (TX6 4).1 (TX6 4).2.1 (TX6 4).2.2.1 ∈ wsX6_has := by decide +kernel
theorem lkX6_has_26 : Cond.fieldLink RX6 26 (TX6 5).1 (TX6 5).2.1 (TX6 5).2.2.1 ∈ wsX6_has := by decide +kernel
theorem inX6_has_6 : ∀ q ∈ u_ws RX6 TX6 18, q ∈ wsX6_has := by decide +kernel
set_option maxHeartbeats 4000000 in
set_option maxRecDepth 100000 in
theorem t_B_X6_has_41 {kh5 : Int32 → Int32 → Int32 → Int32 → Prop} {Q : Int32 → Prop} (C : CxX p s m args c D (tysX cA) RX6 cX6_has 5 wsX6_has) (hrt9 : meth.sig.returnType = (some .boolean)) (hlk : meth.locks = false) (Hk5 : ∀ (v1q : Int32) (v2q : Int32) (v3q : Int32) (v4q : Int32)  , kh5 v1q v2q v3q v4q → GoX p l e rmX6_has s m args below meth c D A 5 0 0 (QP_X6_has D A ad cA ms mb my mt mw ml mo gm gs ga gg gb gu gh gk gl gn gt Q below args s) 5 [(0, .ref (ad 0)), (1, .int v1q), (2, .int v2q), (3, .int v3q), (4, .int v4q)] [] (WM ad cA ms mb my mt mw ml mo gm gs ga gg gb gu gh gk gl gn gt)) (v1 : Int32) (v2 : Int32) (v4 : Int32) (s0 : Int32)   (h : B_X6_has_41 kh5 Q mw ml v1 v2 v4 s0) : GoX p l e rmX6_has s m args below meth c D A 5 0 0 (QP_X6_has D A ad cA ms mb my mt mw ml mo gm gs ga gg gb gu gh gk gl gn gt Q below args s) 41 [(0, .ref (ad 0)), (1, .int v1), (2, .int v2), (4, .int v4)] [.int s0] (WM ad cA ms mb my mt mw ml mo gm gs ga gg gb gu gh gk gl gn gt) := by
  replace h : (kh5 v1 v2 s0 (v4 + (1 : Int32))) := h
  refine g_istore_n C (lv2 := [(3, .int s0), (0, .ref (ad 0)), (1, .int v1), (2, .int v2), (4, .int v4)]) dX6_has_41 rfl (by decide) rfl ?_
  refine g_iinc C (v := (v4 + (1 : Int32))) (lv2 := [(4, .int (v4 + (1 : Int32))), (3, .int s0), (0, .ref (ad 0)), (1, .int v1), (2, .int v2)]) 4 dX6_has_42 rfl rfl (by decide) rfl ?_
  refine g_goto C 5 dX6_has_45 (by decide) ?_
  exact g_sub [2, 3, 4, 1, 0] rfl (Hk5 v1 v2 s0 (v4 + (1 : Int32))  h)
set_option maxHeartbeats 4000000 in
set_option maxRecDepth 100000 in
theorem t_B_X6_has_36 {kh5 : Int32 → Int32 → Int32 → Int32 → Prop} {Q : Int32 → Prop} (C : CxX p s m args c D (tysX cA) RX6 cX6_has 5 wsX6_has) (hrt9 : meth.sig.returnType = (some .boolean)) (hlk : meth.locks = false) (Hk5 : ∀ (v1q : Int32) (v2q : Int32) (v3q : Int32) (v4q : Int32)  , kh5 v1q v2q v3q v4q → GoX p l e rmX6_has s m args below meth c D A 5 0 0 (QP_X6_has D A ad cA ms mb my mt mw ml mo gm gs ga gg gb gu gh gk gl gn gt Q below args s) 5 [(0, .ref (ad 0)), (1, .int v1q), (2, .int v2q), (3, .int v3q), (4, .int v4q)] [] (WM ad cA ms mb my mt mw ml mo gm gs ga gg gb gu gh gk gl gn gt)) (v1 : Int32) (v2 : Int32) (v4 : Int32)   (h : B_X6_has_36 kh5 Q mw ml v1 v2 v4) : GoX p l e rmX6_has s m args below meth c D A 5 0 0 (QP_X6_has D A ad cA ms mb my mt mw ml mo gm gs ga gg gb gu gh gk gl gn gt Q below args s) 36 [(0, .ref (ad 0)), (1, .int v1), (2, .int v2), (4, .int v4)] [] (WM ad cA ms mb my mt mw ml mo gm gs ga gg gb gu gh gk gl gn gt) := by
  replace h : (B_X6_has_41 kh5 Q mw ml v1 v2 v4 (1 : Int32)) := h
  refine g_iconst C (1 : Int32) dX6_has_36 (by decide) ?_
  refine g_goto C 41 dX6_has_37 (by decide) ?_
  exact g_sub [0, 1, 2, 3] rfl (t_B_X6_has_41 C hrt9 hlk Hk5 v1 v2 v4 (1 : Int32)  h)
set_option maxHeartbeats 4000000 in
set_option maxRecDepth 100000 in
theorem t_L_X6_has_5  {Q : Int32 → Prop} (C : CxX p s m args c D (tysX cA) RX6 cX6_has 5 wsX6_has) (hrt9 : meth.sig.returnType = (some .boolean)) (hlk : meth.locks = false) (m9 : Nat) : ∀ (v1 : Int32) (v2 : Int32) (v3 : Int32) (v4 : Int32)  , L_X6_has_5  Q mw ml m9 v1 v2 v3 v4 → GoX p l e rmX6_has s m args below meth c D A 5 0 0 (QP_X6_has D A ad cA ms mb my mt mw ml mo gm gs ga gg gb gu gh gk gl gn gt Q below args s) 5 [(0, .ref (ad 0)), (1, .int v1), (2, .int v2), (3, .int v3), (4, .int v4)] [] (WM ad cA ms mb my mt mw ml mo gm gs ga gg gb gu gh gk gl gn gt) := by
  induction m9 with
  | zero =>
    intro v1 v2 v3 v4 h
    exact False.elim h
  | succ m9 Hk5 =>
    intro v1 v2 v3 v4 h
    replace h : (vp_in v1 16 ∧ (((ml v1.toNatClampNeg) ≤ v4 → (isBo v3 ∧ (Q v3))) ∧ (¬ (ml v1.toNatClampNeg) ≤ v4 → ((v3 = 0 → (vp_in (((10 : Int32) * v1) + v4) 160 ∧ (((mw (((10 : Int32) * v1) + v4).toNatClampNeg) = v2 → (B_X6_has_36 (L_X6_has_5  Q mw ml m9) Q mw ml v1 v2 v4)) ∧ (¬ (mw (((10 : Int32) * v1) + v4).toNatClampNeg) = v2 → (B_X6_has_41 (L_X6_has_5  Q mw ml m9) Q mw ml v1 v2 v4 (0 : Int32)))))) ∧ (¬ v3 = 0 → (B_X6_has_36 (L_X6_has_5  Q mw ml m9) Q mw ml v1 v2 v4)))))) := h
    refine g_iload C 4 dX6_has_5 rfl ?_
    refine g_aload_n C 0 dX6_has_7 rfl rfl ?_
    refine g_get C inX6_has_6 0 WMg0 rfl 5 (by decide) lkX6_has_26 rfl dX6_has_8 ?_
    refine g_iload_n C 1 dX6_has_11 rfl rfl ?_
    refine g_iald C 6 1 WMg6 rfl h.1 dX6_has_12 ?_
    replace h := h.2
    refine g_icmp_ge C 48 dX6_has_13 (by decide) (fun c_1 => ?_) (fun c_1 => ?_)
    · replace h := h.1 c_1
      refine g_iload_n C 3 dX6_has_48 rfl rfl ?_
      exact g_zret C hrt9 hlk h.1.n (u := ()) rfl h.2 dX6_has_49
    · replace h := h.2 c_1
      refine g_iload_n C 3 dX6_has_16 rfl rfl ?_
      refine g_if_ne C 36 dX6_has_17 (by decide) (fun c_2 => ?_) (fun c_2 => ?_)
      · replace h := h.2 c_2
        exact g_sub [0, 1, 2, 4] rfl (t_B_X6_has_36 C hrt9 hlk Hk5 v1 v2 v4  h)
      · replace h := h.1 c_2
        refine g_aload_n C 0 dX6_has_20 rfl rfl ?_
        refine g_get C inX6_has_6 0 WMg0 rfl 4 (by decide) lkX6_has_23 rfl dX6_has_21 ?_
        refine g_bipush C (10 : Int32) dX6_has_24 (by decide) ?_
        refine g_iload_n C 1 dX6_has_26 rfl rfl ?_
        refine g_imul C dX6_has_27 ?_
        refine g_iload C 4 dX6_has_28 rfl ?_
        refine g_iadd C dX6_has_30 ?_
        refine g_cald C 5 0 WMg5 rfl h.1 dX6_has_31 ?_
        replace h := h.2
        refine g_iload_n C 2 dX6_has_32 rfl rfl ?_
        refine g_icmp_ne C 40 dX6_has_33 (by decide) (fun c_3 => ?_) (fun c_3 => ?_)
        · replace h := h.2 c_3
          refine g_iconst C (0 : Int32) dX6_has_40 (by decide) ?_
          exact g_sub [0, 1, 2, 4] rfl (t_B_X6_has_41 C hrt9 hlk Hk5 v1 v2 v4 (0 : Int32)  h)
        · replace h := h.1 c_3
          exact g_sub [0, 1, 2, 4] rfl (t_B_X6_has_36 C hrt9 hlk Hk5 v1 v2 v4  h)
set_option maxHeartbeats 4000000 in
set_option maxRecDepth 100000 in
theorem t_B_X6_has_0  {Q : Int32 → Prop} (C : CxX p s m args c D (tysX cA) RX6 cX6_has 5 wsX6_has) (hrt9 : meth.sig.returnType = (some .boolean)) (hlk : meth.locks = false) (v1 : Int32) (v2 : Int32)   (h : B_X6_has_0  Q mw ml v1 v2) : GoX p l e rmX6_has s m args below meth c D A 5 0 0 (QP_X6_has D A ad cA ms mb my mt mw ml mo gm gs ga gg gb gu gh gk gl gn gt Q below args s) 0 [(0, .ref (ad 0)), (1, .int v1), (2, .int v2)] [] (WM ad cA ms mb my mt mw ml mo gm gs ga gg gb gu gh gk gl gn gt) := by
  replace h : (∃ n9 : Nat, L_X6_has_5  Q mw ml n9 v1 v2 (0 : Int32) (0 : Int32)) := h
  refine g_iconst C (0 : Int32) dX6_has_0 (by decide) ?_
  refine g_istore_n C (lv2 := [(3, .int (0 : Int32)), (0, .ref (ad 0)), (1, .int v1), (2, .int v2)]) dX6_has_1 rfl (by decide) rfl ?_
  refine g_iconst C (0 : Int32) dX6_has_2 (by decide) ?_
  refine g_istore C (lv2 := [(4, .int (0 : Int32)), (3, .int (0 : Int32)), (0, .ref (ad 0)), (1, .int v1), (2, .int v2)]) dX6_has_3 (by decide) rfl ?_
  obtain ⟨n9, h⟩ := h
  exact g_sub [2, 3, 4, 1, 0] rfl (t_L_X6_has_5 C hrt9 hlk  n9 v1 v2 (0 : Int32) (0 : Int32)  h)
theorem c_X6_has (l : Launch) (D : va_G) (A : Nat → Prop) (ad : Nat → Nat) (cA : Nat → ClassId) (v1 : Int32) (v2 : Int32) {ms : (Nat → Int32)} {mb : (Nat → Int32)} {my : (Nat → Int32)} {mt : (Nat → Int32)} {mw : (Nat → Int32)} {ml : (Nat → Int32)} {mo : (Nat → Int32)} {gm : Int32} {gs : Int32} {ga : Int32} {gg : Int32} {gb : Int32} {gu : Int32} {gh : Int32} {gk : Int32} {gl : Int32} {gn : Int32} {gt : Int32}  (Q : Int32 → Prop) (h : F_X6_has v1 v2 mw ml Q) : Met l yX6_has wsX6_has rmX6_has (va_Pc [.ref (ad 0), .int v1, .int v2] (OKX D (tysX cA) (WM ad cA ms mb my mt mw ml mo gm gs ga gg gb gu gh gk gl gn gt) A)) (QC_X6_has D A ad cA ms mb my mt mw ml mo gm gs ga gg gb gu gh gk gl gn gt Q) 0 0 A :=
  g_met (own := RX6) (by decide) rfl rfl (Nat.le_of_ble_eq_true rfl) (fun p e s m below meth c C hrt9 hlk _ => g_sub [0, 1, 2] rfl (t_B_X6_has_0 C hrt9 hlk v1 v2   h))
theorem k_X6_has {ws : List Cond} {own : String} {cc : ByteArray} {nL pc index : Nat} {lv : List (Nat × Value)} {st : List Value} {Q : State → Prop} {R : Room} {K : Int32 → Prop} {v1 : Int32} {v2 : Int32} (C : CxX p s m args c D (tysX cA) own cc nL ws) (hT : GoodIn ws (wsV own index RX6 yX6_has wsX6_has)) (hR : rmX6_has.frames + 1 ≤ R.frames ∧ 8 + (5 + 11) + rmX6_has.locals ≤ R.locals) (hcat : (st.map fun v => v.category).sum ≤ 8) (hdg : decode cc pc = .ok (.invokevirtual index, 3))  (h : F_X6_has v1 v2 mw ml K) (kk : ∀ (r : Int32) , K r → GoX p l e R s m args below meth c D A nL 0 0 Q (pc + 3) lv (.int r :: st) (WM ad cA ms mb my mt mw ml mo gm gs ga gg gb gu gh gk gl gn gt)) : GoX p l e R s m args below meth c D A nL 0 0 Q pc lv (.int v2 :: .int v1 :: .ref (ad 0) :: st) (WM ad cA ms mb my mt mw ml mo gm gs ga gg gb gu gh gk gl gn gt) :=
  g_callVi C (As := [.int v1, .int v2]) 2 (c_X6_has l D A ad cA v1 v2  K h) hT rfl rfl rfl (by decide +kernel) hR 0 WMg0 rfl rfl rfl hcat hdg (fun r u hu => kk r  hu)
/-! X6_placeOf -/
abbrev rmX6_placeOf : Room := { frames := 1, cells := 0, slots := 0, locals := 24 }
abbrev QC_X6_placeOf (D : va_G) (A : Nat → Prop) (ad : Nat → Nat) (cA : Nat → ClassId) (ms : (Nat → Int32)) (mb : (Nat → Int32)) (my : (Nat → Int32)) (mt : (Nat → Int32)) (mw : (Nat → Int32)) (ml : (Nat → Int32)) (mo : (Nat → Int32)) (gm : Int32) (gs : Int32) (ga : Int32) (gg : Int32) (gb : Int32) (gu : Int32) (gh : Int32) (gk : Int32) (gl : Int32) (gn : Int32) (gt : Int32) (Q : Int32 → Prop) : Array Value → State → Outcome → State → Prop := va_Qi (fun (r : Int32) (u : Unit) => Q r ) (fun u t => OKX D (tysX cA) ((fun u : Unit => WM ad cA ms mb my mt mw ml mo gm gs ga gg gb gu gh gk gl gn gt) u) A t) A
abbrev QP_X6_placeOf (D : va_G) (A : Nat → Prop) (ad : Nat → Nat) (cA : Nat → ClassId) (ms : (Nat → Int32)) (mb : (Nat → Int32)) (my : (Nat → Int32)) (mt : (Nat → Int32)) (mw : (Nat → Int32)) (ml : (Nat → Int32)) (mo : (Nat → Int32)) (gm : Int32) (gs : Int32) (ga : Int32) (gg : Int32) (gb : Int32) (gu : Int32) (gh : Int32) (gk : Int32) (gl : Int32) (gn : Int32) (gt : Int32) (Q : Int32 → Prop) (below : List Frame) (args : Array Value) (s : State) : State → Prop := MQ below (QC_X6_placeOf D A ad cA ms mb my mt mw ml mo gm gs ga gg gb gu gh gk gl gn gt Q) args s 0 0 A
def B_X6_placeOf_102 (kh18 : Int32 → Int32 → Int32 → Prop) (Q : Int32 → Prop) (mw : (Nat → Int32)) (ml : (Nat → Int32)) (mo : (Nat → Int32)) (gm : Int32) (v1 : Int32) (v3 : Int32) (s0 : Int32)  : Prop := (kh18 v1 s0 (v3 + (-1 : Int32)))
def B_X6_placeOf_90 (kh18 : Int32 → Int32 → Int32 → Prop) (Q : Int32 → Prop) (mw : (Nat → Int32)) (ml : (Nat → Int32)) (mo : (Nat → Int32)) (gm : Int32) (v1 : Int32) (v2 : Int32) (v3 : Int32) (s0 : Int32)  : Prop := ((s0 = 0 → (B_X6_placeOf_102 kh18 Q mw ml mo gm v1 v3 v2)) ∧ (¬ s0 = 0 → (B_X6_placeOf_102 kh18 Q mw ml mo gm v1 v3 v3)))
def B_X6_placeOf_89 (kh18 : Int32 → Int32 → Int32 → Prop) (Q : Int32 → Prop) (mw : (Nat → Int32)) (ml : (Nat → Int32)) (mo : (Nat → Int32)) (gm : Int32) (v1 : Int32) (v2 : Int32) (v3 : Int32)  : Prop := (B_X6_placeOf_90 kh18 Q mw ml mo gm v1 v2 v3 (0 : Int32))
def B_X6_placeOf_124  (Q : Int32 → Prop) (mw : (Nat → Int32)) (ml : (Nat → Int32)) (mo : (Nat → Int32)) (gm : Int32) (s0 : Int32)  : Prop := (Q s0)
def B_X6_placeOf_119  (Q : Int32 → Prop) (mw : (Nat → Int32)) (ml : (Nat → Int32)) (mo : (Nat → Int32)) (gm : Int32)   : Prop := (B_X6_placeOf_124  Q mw ml mo gm (0 : Int32))
noncomputable def L_X6_placeOf_18  (Q : Int32 → Prop) (mw : (Nat → Int32)) (ml : (Nat → Int32)) (mo : (Nat → Int32)) (gm : Int32) (n9 : Nat) : Int32 → Int32 → Int32 → Prop := Nat.rec (motive := fun _ => Int32 → Int32 → Int32 → Prop) (fun _ _ _ => False) (fun _ kh18 => fun v1 v2 v3 => ((v3 < 0 → ((v2 = (-5 : Int32) → (B_X6_placeOf_119  Q mw ml mo gm )) ∧ (¬ v2 = (-5 : Int32) → ((v1 = 0 → (B_X6_placeOf_119  Q mw ml mo gm )) ∧ (¬ v1 = 0 → (B_X6_placeOf_124  Q mw ml mo gm v2)))))) ∧ (¬ v3 < 0 → (vp_in v3 16 ∧ (F_X6_has (mo v3.toNatClampNeg) (72 : Int32) mw ml (fun r_5 => (vp_in v3 16 ∧ (F_X6_has (mo v3.toNatClampNeg) (45 : Int32) mw ml (fun r_6 => ((v1 = (1 : Int32) → (B_X6_placeOf_90 kh18 Q mw ml mo gm v1 v2 v3 r_5)) ∧ (¬ v1 = (1 : Int32) → ((v1 = (2 : Int32) → (B_X6_placeOf_90 kh18 Q mw ml mo gm v1 v2 v3 r_6)) ∧ (¬ v1 = (2 : Int32) → ((v1 = (3 : Int32) → ((r_5 = 0 → ((r_6 = 0 → (B_X6_placeOf_90 kh18 Q mw ml mo gm v1 v2 v3 (1 : Int32))) ∧ (¬ r_6 = 0 → (B_X6_placeOf_89 kh18 Q mw ml mo gm v1 v2 v3)))) ∧ (¬ r_5 = 0 → (B_X6_placeOf_89 kh18 Q mw ml mo gm v1 v2 v3)))) ∧ (¬ v1 = (3 : Int32) → (B_X6_placeOf_89 kh18 Q mw ml mo gm v1 v2 v3)))))))))))))))) n9
def B_X6_placeOf_10  (Q : Int32 → Prop) (mw : (Nat → Int32)) (ml : (Nat → Int32)) (mo : (Nat → Int32)) (gm : Int32) (v1 : Int32) (s0 : Int32)  : Prop := (∃ n9 : Nat, L_X6_placeOf_18  Q mw ml mo gm n9 v1 s0 (gm - (1 : Int32)))
def B_X6_placeOf_0  (Q : Int32 → Prop) (mw : (Nat → Int32)) (ml : (Nat → Int32)) (mo : (Nat → Int32)) (gm : Int32) (v1 : Int32)  : Prop := ((v1 = 0 → (B_X6_placeOf_10  Q mw ml mo gm v1 (0 : Int32))) ∧ (¬ v1 = 0 → (B_X6_placeOf_10  Q mw ml mo gm v1 (-5 : Int32))))
def F_X6_placeOf (v1 : Int32) (mw : (Nat → Int32)) (ml : (Nat → Int32)) (mo : (Nat → Int32)) (gm : Int32)  (Q : Int32 → Prop) : Prop := B_X6_placeOf_0 Q mw ml mo gm v1 
theorem lkX6_placeOf_107 : Cond.fieldLink RX6 107 (TX6 7).1 (TX6 7).2.1 (TX6 7).2.2.1 ∈ wsX6_placeOf := by decide +kernel
theorem lkX6_placeOf_29 : Cond.fieldLink RX6 29 (TX6 6).1 (TX6 6).2.1 (TX6 6).2.2.1 ∈ wsX6_placeOf := by decide +kernel
theorem inX6_placeOf_6 : ∀ q ∈ u_ws RX6 TX6 18, q ∈ wsX6_placeOf := by decide +kernel
set_option maxHeartbeats 4000000 in
set_option maxRecDepth 100000 in
theorem t_B_X6_placeOf_102 {kh18 : Int32 → Int32 → Int32 → Prop} {Q : Int32 → Prop} (C : CxX p s m args c D (tysX cA) RX6 cX6_placeOf 7 wsX6_placeOf) (hrt9 : meth.sig.returnType = (some .int)) (hlk : meth.locks = false) (Hk18 : ∀ (v1q : Int32) (v2q : Int32) (v3q : Int32)  , kh18 v1q v2q v3q → GoX p l e rmX6_placeOf s m args below meth c D A 7 0 0 (QP_X6_placeOf D A ad cA ms mb my mt mw ml mo gm gs ga gg gb gu gh gk gl gn gt Q below args s) 18 [(0, .ref (ad 0)), (1, .int v1q), (2, .int v2q), (3, .int v3q)] [] (WM ad cA ms mb my mt mw ml mo gm gs ga gg gb gu gh gk gl gn gt)) (v1 : Int32) (v3 : Int32) (s0 : Int32)   (h : B_X6_placeOf_102 kh18 Q mw ml mo gm v1 v3 s0) : GoX p l e rmX6_placeOf s m args below meth c D A 7 0 0 (QP_X6_placeOf D A ad cA ms mb my mt mw ml mo gm gs ga gg gb gu gh gk gl gn gt Q below args s) 102 [(0, .ref (ad 0)), (1, .int v1), (3, .int v3)] [.int s0] (WM ad cA ms mb my mt mw ml mo gm gs ga gg gb gu gh gk gl gn gt) := by
  replace h : (kh18 v1 s0 (v3 + (-1 : Int32))) := h
  refine g_istore_n C (lv2 := [(2, .int s0), (0, .ref (ad 0)), (1, .int v1), (3, .int v3)]) dX6_placeOf_102 rfl (by decide) rfl ?_
  refine g_iinc C (v := (v3 + (-1 : Int32))) (lv2 := [(3, .int (v3 + (-1 : Int32))), (2, .int s0), (0, .ref (ad 0)), (1, .int v1)]) 3 dX6_placeOf_103 rfl rfl (by decide) rfl ?_
  refine g_goto C 18 dX6_placeOf_106 (by decide) ?_
  exact g_sub [2, 3, 1, 0] rfl (Hk18 v1 s0 (v3 + (-1 : Int32))  h)
set_option maxHeartbeats 4000000 in
set_option maxRecDepth 100000 in
theorem t_B_X6_placeOf_90 {kh18 : Int32 → Int32 → Int32 → Prop} {Q : Int32 → Prop} (C : CxX p s m args c D (tysX cA) RX6 cX6_placeOf 7 wsX6_placeOf) (hrt9 : meth.sig.returnType = (some .int)) (hlk : meth.locks = false) (Hk18 : ∀ (v1q : Int32) (v2q : Int32) (v3q : Int32)  , kh18 v1q v2q v3q → GoX p l e rmX6_placeOf s m args below meth c D A 7 0 0 (QP_X6_placeOf D A ad cA ms mb my mt mw ml mo gm gs ga gg gb gu gh gk gl gn gt Q below args s) 18 [(0, .ref (ad 0)), (1, .int v1q), (2, .int v2q), (3, .int v3q)] [] (WM ad cA ms mb my mt mw ml mo gm gs ga gg gb gu gh gk gl gn gt)) (v1 : Int32) (v2 : Int32) (v3 : Int32) (s0 : Int32)   (h : B_X6_placeOf_90 kh18 Q mw ml mo gm v1 v2 v3 s0) : GoX p l e rmX6_placeOf s m args below meth c D A 7 0 0 (QP_X6_placeOf D A ad cA ms mb my mt mw ml mo gm gs ga gg gb gu gh gk gl gn gt Q below args s) 90 [(0, .ref (ad 0)), (1, .int v1), (2, .int v2), (3, .int v3)] [.int s0] (WM ad cA ms mb my mt mw ml mo gm gs ga gg gb gu gh gk gl gn gt) := by
  replace h : ((s0 = 0 → (B_X6_placeOf_102 kh18 Q mw ml mo gm v1 v3 v2)) ∧ (¬ s0 = 0 → (B_X6_placeOf_102 kh18 Q mw ml mo gm v1 v3 v3))) := h
  refine g_istore C (lv2 := [(6, .int s0), (0, .ref (ad 0)), (1, .int v1), (2, .int v2), (3, .int v3)]) dX6_placeOf_90 (by decide) rfl ?_
  refine g_iload C 0 dX6_placeOf_92 rfl ?_
  refine g_if_eq C 101 dX6_placeOf_94 (by decide) (fun c_1 => ?_) (fun c_1 => ?_)
  · replace h := h.1 c_1
    refine g_iload_n C 3 dX6_placeOf_101 rfl rfl ?_
    exact g_sub [1, 2, 4] rfl (t_B_X6_placeOf_102 C hrt9 hlk Hk18 v1 v3 v2  h)
  · replace h := h.2 c_1
    refine g_iload_n C 4 dX6_placeOf_97 rfl rfl ?_
    refine g_goto C 102 dX6_placeOf_98 (by decide) ?_
    exact g_sub [1, 2, 4] rfl (t_B_X6_placeOf_102 C hrt9 hlk Hk18 v1 v3 v3  h)
set_option maxHeartbeats 4000000 in
set_option maxRecDepth 100000 in
theorem t_B_X6_placeOf_89 {kh18 : Int32 → Int32 → Int32 → Prop} {Q : Int32 → Prop} (C : CxX p s m args c D (tysX cA) RX6 cX6_placeOf 7 wsX6_placeOf) (hrt9 : meth.sig.returnType = (some .int)) (hlk : meth.locks = false) (Hk18 : ∀ (v1q : Int32) (v2q : Int32) (v3q : Int32)  , kh18 v1q v2q v3q → GoX p l e rmX6_placeOf s m args below meth c D A 7 0 0 (QP_X6_placeOf D A ad cA ms mb my mt mw ml mo gm gs ga gg gb gu gh gk gl gn gt Q below args s) 18 [(0, .ref (ad 0)), (1, .int v1q), (2, .int v2q), (3, .int v3q)] [] (WM ad cA ms mb my mt mw ml mo gm gs ga gg gb gu gh gk gl gn gt)) (v1 : Int32) (v2 : Int32) (v3 : Int32)   (h : B_X6_placeOf_89 kh18 Q mw ml mo gm v1 v2 v3) : GoX p l e rmX6_placeOf s m args below meth c D A 7 0 0 (QP_X6_placeOf D A ad cA ms mb my mt mw ml mo gm gs ga gg gb gu gh gk gl gn gt Q below args s) 89 [(0, .ref (ad 0)), (1, .int v1), (2, .int v2), (3, .int v3)] [] (WM ad cA ms mb my mt mw ml mo gm gs ga gg gb gu gh gk gl gn gt) := by
  replace h : (B_X6_placeOf_90 kh18 Q mw ml mo gm v1 v2 v3 (0 : Int32)) := h
  refine g_iconst C (0 : Int32) dX6_placeOf_89 (by decide) ?_
  exact g_sub [0, 1, 2, 3] rfl (t_B_X6_placeOf_90 C hrt9 hlk Hk18 v1 v2 v3 (0 : Int32)  h)
set_option maxHeartbeats 4000000 in
set_option maxRecDepth 100000 in
theorem t_B_X6_placeOf_124  {Q : Int32 → Prop} (C : CxX p s m args c D (tysX cA) RX6 cX6_placeOf 7 wsX6_placeOf) (hrt9 : meth.sig.returnType = (some .int)) (hlk : meth.locks = false) (s0 : Int32)   (h : B_X6_placeOf_124  Q mw ml mo gm s0) : GoX p l e rmX6_placeOf s m args below meth c D A 7 0 0 (QP_X6_placeOf D A ad cA ms mb my mt mw ml mo gm gs ga gg gb gu gh gk gl gn gt Q below args s) 124 [] [.int s0] (WM ad cA ms mb my mt mw ml mo gm gs ga gg gb gu gh gk gl gn gt) := by
  replace h : (Q s0) := h
  exact g_iret C hrt9 hlk (u := ()) rfl h dX6_placeOf_124
set_option maxHeartbeats 4000000 in
set_option maxRecDepth 100000 in
theorem t_B_X6_placeOf_119  {Q : Int32 → Prop} (C : CxX p s m args c D (tysX cA) RX6 cX6_placeOf 7 wsX6_placeOf) (hrt9 : meth.sig.returnType = (some .int)) (hlk : meth.locks = false)    (h : B_X6_placeOf_119  Q mw ml mo gm ) : GoX p l e rmX6_placeOf s m args below meth c D A 7 0 0 (QP_X6_placeOf D A ad cA ms mb my mt mw ml mo gm gs ga gg gb gu gh gk gl gn gt Q below args s) 119 [] [] (WM ad cA ms mb my mt mw ml mo gm gs ga gg gb gu gh gk gl gn gt) := by
  replace h : (B_X6_placeOf_124  Q mw ml mo gm (0 : Int32)) := h
  refine g_iconst C (0 : Int32) dX6_placeOf_119 (by decide) ?_
  refine g_goto C 124 dX6_placeOf_120 (by decide) ?_
  exact g_sub [] rfl (t_B_X6_placeOf_124 C hrt9 hlk  (0 : Int32)  h)
set_option maxHeartbeats 4000000 in
set_option maxRecDepth 100000 in
theorem t_L_X6_placeOf_18  {Q : Int32 → Prop} (C : CxX p s m args c D (tysX cA) RX6 cX6_placeOf 7 wsX6_placeOf) (hrt9 : meth.sig.returnType = (some .int)) (hlk : meth.locks = false) (m9 : Nat) : ∀ (v1 : Int32) (v2 : Int32) (v3 : Int32)  , L_X6_placeOf_18  Q mw ml mo gm m9 v1 v2 v3 → GoX p l e rmX6_placeOf s m args below meth c D A 7 0 0 (QP_X6_placeOf D A ad cA ms mb my mt mw ml mo gm gs ga gg gb gu gh gk gl gn gt Q below args s) 18 [(0, .ref (ad 0)), (1, .int v1), (2, .int v2), (3, .int v3)] [] (WM ad cA ms mb my mt mw ml mo gm gs ga gg gb gu gh gk gl gn gt) := by
  induction m9 with
  | zero =>
    intro v1 v2 v3 h
    exact False.elim h
  | succ m9 Hk18 =>
    intro v1 v2 v3 h
    replace h : ((v3 < 0 → ((v2 = (-5 : Int32) → (B_X6_placeOf_119  Q mw ml mo gm )) ∧ (¬ v2 = (-5 : Int32) → ((v1 = 0 → (B_X6_placeOf_119  Q mw ml mo gm )) ∧ (¬ v1 = 0 → (B_X6_placeOf_124  Q mw ml mo gm v2)))))) ∧ (¬ v3 < 0 → (vp_in v3 16 ∧ (F_X6_has (mo v3.toNatClampNeg) (72 : Int32) mw ml (fun r_5 => (vp_in v3 16 ∧ (F_X6_has (mo v3.toNatClampNeg) (45 : Int32) mw ml (fun r_6 => ((v1 = (1 : Int32) → (B_X6_placeOf_90 (L_X6_placeOf_18  Q mw ml mo gm m9) Q mw ml mo gm v1 v2 v3 r_5)) ∧ (¬ v1 = (1 : Int32) → ((v1 = (2 : Int32) → (B_X6_placeOf_90 (L_X6_placeOf_18  Q mw ml mo gm m9) Q mw ml mo gm v1 v2 v3 r_6)) ∧ (¬ v1 = (2 : Int32) → ((v1 = (3 : Int32) → ((r_5 = 0 → ((r_6 = 0 → (B_X6_placeOf_90 (L_X6_placeOf_18  Q mw ml mo gm m9) Q mw ml mo gm v1 v2 v3 (1 : Int32))) ∧ (¬ r_6 = 0 → (B_X6_placeOf_89 (L_X6_placeOf_18  Q mw ml mo gm m9) Q mw ml mo gm v1 v2 v3)))) ∧ (¬ r_5 = 0 → (B_X6_placeOf_89 (L_X6_placeOf_18  Q mw ml mo gm m9) Q mw ml mo gm v1 v2 v3)))) ∧ (¬ v1 = (3 : Int32) → (B_X6_placeOf_89 (L_X6_placeOf_18  Q mw ml mo gm m9) Q mw ml mo gm v1 v2 v3))))))))))))))) := h
    refine g_iload_n C 3 dX6_placeOf_18 rfl rfl ?_
    refine g_if_lt C 109 dX6_placeOf_19 (by decide) (fun c_2 => ?_) (fun c_2 => ?_)
    · replace h := h.1 c_2
      refine g_iload_n C 2 dX6_placeOf_109 rfl rfl ?_
      refine g_bipush C (-5 : Int32) dX6_placeOf_110 (by decide) ?_
      refine g_icmp_eq C 119 dX6_placeOf_112 (by decide) (fun c_3 => ?_) (fun c_3 => ?_)
      · replace h := h.1 c_3
        exact g_sub [] rfl (t_B_X6_placeOf_119 C hrt9 hlk    h)
      · replace h := h.2 c_3
        refine g_iload_n C 1 dX6_placeOf_115 rfl rfl ?_
        refine g_if_ne C 123 dX6_placeOf_116 (by decide) (fun c_4 => ?_) (fun c_4 => ?_)
        · replace h := h.2 c_4
          refine g_iload_n C 2 dX6_placeOf_123 rfl rfl ?_
          exact g_sub [] rfl (t_B_X6_placeOf_124 C hrt9 hlk  v2  h)
        · replace h := h.1 c_4
          exact g_sub [] rfl (t_B_X6_placeOf_119 C hrt9 hlk    h)
    · replace h := h.2 c_2
      refine g_aload_n C 0 dX6_placeOf_22 rfl rfl ?_
      refine g_aload_n C 0 dX6_placeOf_23 rfl rfl ?_
      refine g_get C inX6_placeOf_6 0 WMg0 rfl 6 (by decide) lkX6_placeOf_29 rfl dX6_placeOf_24 ?_
      refine g_iload_n C 3 dX6_placeOf_27 rfl rfl ?_
      refine g_iald C 7 1 WMg7 rfl h.1 dX6_placeOf_28 ?_
      replace h := h.2
      refine g_bipush C (72 : Int32) dX6_placeOf_29 (by decide) ?_
      refine k_X6_has C gX6_placeOf_X6_has ⟨Nat.le_of_ble_eq_true rfl, Nat.le_of_ble_eq_true rfl⟩ (Nat.le_of_ble_eq_true rfl) dX6_placeOf_31  h (fun r_5 h => ?_)
      refine g_istore C (lv2 := [(4, .int r_5), (0, .ref (ad 0)), (1, .int v1), (2, .int v2), (3, .int v3)]) dX6_placeOf_34 (by decide) rfl ?_
      refine g_aload_n C 1 dX6_placeOf_36 rfl rfl ?_
      refine g_aload_n C 1 dX6_placeOf_37 rfl rfl ?_
      refine g_get C inX6_placeOf_6 0 WMg0 rfl 6 (by decide) lkX6_placeOf_29 rfl dX6_placeOf_38 ?_
      refine g_iload_n C 4 dX6_placeOf_41 rfl rfl ?_
      refine g_iald C 7 1 WMg7 rfl h.1 dX6_placeOf_42 ?_
      replace h := h.2
      refine g_bipush C (45 : Int32) dX6_placeOf_43 (by decide) ?_
      refine k_X6_has C gX6_placeOf_X6_has ⟨Nat.le_of_ble_eq_true rfl, Nat.le_of_ble_eq_true rfl⟩ (Nat.le_of_ble_eq_true rfl) dX6_placeOf_45  h (fun r_6 h => ?_)
      refine g_istore C (lv2 := [(5, .int r_6), (4, .int r_5), (0, .ref (ad 0)), (1, .int v1), (2, .int v2), (3, .int v3)]) dX6_placeOf_48 (by decide) rfl ?_
      refine g_iload_n C 3 dX6_placeOf_50 rfl rfl ?_
      refine g_iconst C (1 : Int32) dX6_placeOf_51 (by decide) ?_
      refine g_icmp_ne C 60 dX6_placeOf_52 (by decide) (fun c_7 => ?_) (fun c_7 => ?_)
      · replace h := h.2 c_7
        refine g_iload_n C 3 dX6_placeOf_60 rfl rfl ?_
        refine g_iconst C (2 : Int32) dX6_placeOf_61 (by decide) ?_
        refine g_icmp_ne C 70 dX6_placeOf_62 (by decide) (fun c_8 => ?_) (fun c_8 => ?_)
        · replace h := h.2 c_8
          refine g_iload_n C 3 dX6_placeOf_70 rfl rfl ?_
          refine g_iconst C (3 : Int32) dX6_placeOf_71 (by decide) ?_
          refine g_icmp_ne C 89 dX6_placeOf_72 (by decide) (fun c_9 => ?_) (fun c_9 => ?_)
          · replace h := h.2 c_9
            exact g_sub [2, 3, 4, 5] rfl (t_B_X6_placeOf_89 C hrt9 hlk Hk18 v1 v2 v3  h)
          · replace h := h.1 c_9
            refine g_iload C 1 dX6_placeOf_75 rfl ?_
            refine g_if_ne C 89 dX6_placeOf_77 (by decide) (fun c_10 => ?_) (fun c_10 => ?_)
            · replace h := h.2 c_10
              exact g_sub [2, 3, 4, 5] rfl (t_B_X6_placeOf_89 C hrt9 hlk Hk18 v1 v2 v3  h)
            · replace h := h.1 c_10
              refine g_iload C 0 dX6_placeOf_80 rfl ?_
              refine g_if_ne C 89 dX6_placeOf_82 (by decide) (fun c_11 => ?_) (fun c_11 => ?_)
              · replace h := h.2 c_11
                exact g_sub [2, 3, 4, 5] rfl (t_B_X6_placeOf_89 C hrt9 hlk Hk18 v1 v2 v3  h)
              · replace h := h.1 c_11
                refine g_iconst C (1 : Int32) dX6_placeOf_85 (by decide) ?_
                refine g_goto C 90 dX6_placeOf_86 (by decide) ?_
                exact g_sub [2, 3, 4, 5] rfl (t_B_X6_placeOf_90 C hrt9 hlk Hk18 v1 v2 v3 (1 : Int32)  h)
        · replace h := h.1 c_8
          refine g_iload C 0 dX6_placeOf_65 rfl ?_
          refine g_goto C 90 dX6_placeOf_67 (by decide) ?_
          exact g_sub [2, 3, 4, 5] rfl (t_B_X6_placeOf_90 C hrt9 hlk Hk18 v1 v2 v3 r_6  h)
      · replace h := h.1 c_7
        refine g_iload C 1 dX6_placeOf_55 rfl ?_
        refine g_goto C 90 dX6_placeOf_57 (by decide) ?_
        exact g_sub [2, 3, 4, 5] rfl (t_B_X6_placeOf_90 C hrt9 hlk Hk18 v1 v2 v3 r_5  h)
set_option maxHeartbeats 4000000 in
set_option maxRecDepth 100000 in
theorem t_B_X6_placeOf_10  {Q : Int32 → Prop} (C : CxX p s m args c D (tysX cA) RX6 cX6_placeOf 7 wsX6_placeOf) (hrt9 : meth.sig.returnType = (some .int)) (hlk : meth.locks = false) (v1 : Int32) (s0 : Int32)   (h : B_X6_placeOf_10  Q mw ml mo gm v1 s0) : GoX p l e rmX6_placeOf s m args below meth c D A 7 0 0 (QP_X6_placeOf D A ad cA ms mb my mt mw ml mo gm gs ga gg gb gu gh gk gl gn gt Q below args s) 10 [(0, .ref (ad 0)), (1, .int v1)] [.int s0] (WM ad cA ms mb my mt mw ml mo gm gs ga gg gb gu gh gk gl gn gt) := by
  replace h : (∃ n9 : Nat, L_X6_placeOf_18  Q mw ml mo gm n9 v1 s0 (gm - (1 : Int32))) := h
  refine g_istore_n C (lv2 := [(2, .int s0), (0, .ref (ad 0)), (1, .int v1)]) dX6_placeOf_10 rfl (by decide) rfl ?_
  refine g_aload_n C 1 dX6_placeOf_11 rfl rfl ?_
  refine g_get C inX6_placeOf_6 0 WMg0 rfl 7 (by decide) lkX6_placeOf_107 rfl dX6_placeOf_12 ?_
  refine g_iconst C (1 : Int32) dX6_placeOf_15 (by decide) ?_
  refine g_isub C dX6_placeOf_16 ?_
  refine g_istore_n C (lv2 := [(3, .int (gm - (1 : Int32))), (2, .int s0), (0, .ref (ad 0)), (1, .int v1)]) dX6_placeOf_17 rfl (by decide) rfl ?_
  obtain ⟨n9, h⟩ := h
  exact g_sub [2, 3, 1, 0] rfl (t_L_X6_placeOf_18 C hrt9 hlk  n9 v1 s0 (gm - (1 : Int32))  h)
set_option maxHeartbeats 4000000 in
set_option maxRecDepth 100000 in
theorem t_B_X6_placeOf_0  {Q : Int32 → Prop} (C : CxX p s m args c D (tysX cA) RX6 cX6_placeOf 7 wsX6_placeOf) (hrt9 : meth.sig.returnType = (some .int)) (hlk : meth.locks = false) (v1 : Int32)   (h : B_X6_placeOf_0  Q mw ml mo gm v1) : GoX p l e rmX6_placeOf s m args below meth c D A 7 0 0 (QP_X6_placeOf D A ad cA ms mb my mt mw ml mo gm gs ga gg gb gu gh gk gl gn gt Q below args s) 0 [(0, .ref (ad 0)), (1, .int v1)] [] (WM ad cA ms mb my mt mw ml mo gm gs ga gg gb gu gh gk gl gn gt) := by
  replace h : ((v1 = 0 → (B_X6_placeOf_10  Q mw ml mo gm v1 (0 : Int32))) ∧ (¬ v1 = 0 → (B_X6_placeOf_10  Q mw ml mo gm v1 (-5 : Int32)))) := h
  refine g_iload_n C 1 dX6_placeOf_0 rfl rfl ?_
  refine g_if_ne C 8 dX6_placeOf_1 (by decide) (fun c_12 => ?_) (fun c_12 => ?_)
  · replace h := h.2 c_12
    refine g_bipush C (-5 : Int32) dX6_placeOf_8 (by decide) ?_
    exact g_sub [0, 1] rfl (t_B_X6_placeOf_10 C hrt9 hlk  v1 (-5 : Int32)  h)
  · replace h := h.1 c_12
    refine g_iconst C (0 : Int32) dX6_placeOf_4 (by decide) ?_
    refine g_goto C 10 dX6_placeOf_5 (by decide) ?_
    exact g_sub [0, 1] rfl (t_B_X6_placeOf_10 C hrt9 hlk  v1 (0 : Int32)  h)
theorem c_X6_placeOf (l : Launch) (D : va_G) (A : Nat → Prop) (ad : Nat → Nat) (cA : Nat → ClassId) (v1 : Int32) {ms : (Nat → Int32)} {mb : (Nat → Int32)} {my : (Nat → Int32)} {mt : (Nat → Int32)} {mw : (Nat → Int32)} {ml : (Nat → Int32)} {mo : (Nat → Int32)} {gm : Int32} {gs : Int32} {ga : Int32} {gg : Int32} {gb : Int32} {gu : Int32} {gh : Int32} {gk : Int32} {gl : Int32} {gn : Int32} {gt : Int32}  (Q : Int32 → Prop) (h : F_X6_placeOf v1 mw ml mo gm Q) : Met l yX6_placeOf wsX6_placeOf rmX6_placeOf (va_Pc [.ref (ad 0), .int v1] (OKX D (tysX cA) (WM ad cA ms mb my mt mw ml mo gm gs ga gg gb gu gh gk gl gn gt) A)) (QC_X6_placeOf D A ad cA ms mb my mt mw ml mo gm gs ga gg gb gu gh gk gl gn gt Q) 0 0 A :=
  g_met (own := RX6) (by decide) rfl rfl (Nat.le_of_ble_eq_true rfl) (fun p e s m below meth c C hrt9 hlk _ => g_sub [0, 1] rfl (t_B_X6_placeOf_0 C hrt9 hlk v1   h))
theorem k_X6_placeOf {ws : List Cond} {own : String} {cc : ByteArray} {nL pc index : Nat} {lv : List (Nat × Value)} {st : List Value} {Q : State → Prop} {R : Room} {K : Int32 → Prop} {v1 : Int32} (C : CxX p s m args c D (tysX cA) own cc nL ws) (hT : GoodIn ws (wsV own index RX6 yX6_placeOf wsX6_placeOf)) (hR : rmX6_placeOf.frames + 1 ≤ R.frames ∧ 8 + (7 + 11) + rmX6_placeOf.locals ≤ R.locals) (hcat : (st.map fun v => v.category).sum ≤ 8) (hdg : decode cc pc = .ok (.invokevirtual index, 3))  (h : F_X6_placeOf v1 mw ml mo gm K) (kk : ∀ (r : Int32) , K r → GoX p l e R s m args below meth c D A nL 0 0 Q (pc + 3) lv (.int r :: st) (WM ad cA ms mb my mt mw ml mo gm gs ga gg gb gu gh gk gl gn gt)) : GoX p l e R s m args below meth c D A nL 0 0 Q pc lv (.int v1 :: .ref (ad 0) :: st) (WM ad cA ms mb my mt mw ml mo gm gs ga gg gb gu gh gk gl gn gt) :=
  g_callVi C (As := [.int v1]) 1 (c_X6_placeOf l D A ad cA v1  K h) hT rfl rfl rfl (by decide +kernel) hR 0 WMg0 rfl rfl rfl hcat hdg (fun r u hu => kk r  hu)
