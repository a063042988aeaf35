variable {p : Program} {l : Launch} {e : Env} {s : State} {m : MethodId} {args : Array Value} {below : List Frame} {meth : Method} {c : Code} {D : va_G} {A : Nat → Prop} {ad : Nat → Nat} {cA : Nat → ClassId}
variable {ms : (Nat → Int32)} {mb : (Nat → Int32)} {my : (Nat → Int32)} {mt : (Nat → Int32)} {mw : (Nat → Int32)} {ml : (Nat → Int32)} {mo : (Nat → Int32)} {gm : Int32} {gs : Int32} {ga : Int32} {gg : Int32} {gb : Int32} {gu : Int32} {gh : Int32} {gk : Int32} {gl : Int32} {gn : Int32} {gt : Int32}
/-! X6_known -/
abbrev rmX6_known : Room := { frames := 0, cells := 0, slots := 0, locals := 0 }
abbrev QC_X6_known (D : va_G) (A : Nat → Prop) (ad : Nat → Nat) (cA : Nat → ClassId) (ms : (Nat → Int32)) (mb : (Nat → Int32)) (my : (Nat → Int32)) (mt : (Nat → Int32)) (mw : (Nat → Int32)) (ml : (Nat → Int32)) (mo : (Nat → Int32)) (gm : Int32) (gs : Int32) (ga : Int32) (gg : Int32) (gb : Int32) (gu : Int32) (gh : Int32) (gk : Int32) (gl : Int32) (gn : Int32) (gt : Int32) (Q : Int32 → Prop) : Array Value → State → Outcome → State → Prop := va_Qi (fun (r : Int32) (u : Unit) => Q r ) (fun u t => OKX D (tysX cA) ((fun u : Unit => WM ad cA ms mb my mt mw ml mo gm gs ga gg gb gu gh gk gl gn gt) u) A t) A
abbrev QP_X6_known (D : va_G) (A : Nat → Prop) (ad : Nat → Nat) (cA : Nat → ClassId) (ms : (Nat → Int32)) (mb : (Nat → Int32)) (my : (Nat → Int32)) (mt : (Nat → Int32)) (mw : (Nat → Int32)) (ml : (Nat → Int32)) (mo : (Nat → Int32)) (gm : Int32) (gs : Int32) (ga : Int32) (gg : Int32) (gb : Int32) (gu : Int32) (gh : Int32) (gk : Int32) (gl : Int32) (gn : Int32) (gt : Int32) (Q : Int32 → Prop) (below : List Frame) (args : Array Value) (s : State) : State → Prop := MQ below (QC_X6_known D A ad cA ms mb my mt mw ml mo gm gs ga gg gb gu gh gk gl gn gt Q) args s 0 0 A
def B_X6_known_0  (Q : Int32 → Prop) (ms : (Nat → Int32)) (v1 : Int32)  : Prop := (vp_in ((9 : Int32) * v1) 106 ∧ (vp_in (((9 : Int32) * v1) + (1 : Int32)) 106 ∧ (vp_in (((9 : Int32) * v1) + (2 : Int32)) 106 ∧ (Q (((ms ((9 : Int32) * v1).toNatClampNeg) + (ms (((9 : Int32) * v1) + (1 : Int32)).toNatClampNeg)) + (ms (((9 : Int32) * v1) + (2 : Int32)).toNatClampNeg))))))
def F_X6_known (v1 : Int32) (ms : (Nat → Int32))  (Q : Int32 → Prop) : Prop := B_X6_known_0 Q ms v1 
theorem lkX6_known_7 : Cond.fieldLink RX6 7 (TX6 0).1 (TX6 0).2.1 (TX6 0).2.2.1 ∈ wsX6_known := by decide +kernel
theorem inX6_known_6 : ∀ q ∈ u_ws RX6 TX6 18, q ∈ wsX6_known := by decide +kernel
set_option maxHeartbeats 4000000 in
set_option maxRecDepth 100000 in
theorem t_B_X6_known_0  {Q : Int32 → Prop} (C : CxX p s m args c D (tysX cA) RX6 cX6_known 3 wsX6_known) (hrt9 : meth.sig.returnType = (some .int)) (hlk : meth.locks = false) (v1 : Int32)   (h : B_X6_known_0  Q ms v1) : GoX p l e rmX6_known s m args below meth c D A 3 0 0 (QP_X6_known D A ad cA ms mb my mt mw ml mo gm gs ga gg gb gu gh gk gl gn gt Q below args s) 0 [(0, .ref (ad 0)), (1, .int v1)] [] (WM ad cA ms mb my mt mw ml mo gm gs ga gg gb gu gh gk gl gn gt) := by
  replace h : (vp_in ((9 : Int32) * v1) 106 ∧ (vp_in (((9 : Int32) * v1) + (1 : Int32)) 106 ∧ (vp_in (((9 : Int32) * v1) + (2 : Int32)) 106 ∧ (Q (((ms ((9 : Int32) * v1).toNatClampNeg) + (ms (((9 : Int32) * v1) + (1 : Int32)).toNatClampNeg)) + (ms (((9 : Int32) * v1) + (2 : Int32)).toNatClampNeg)))))) := h
  refine g_bipush C (9 : Int32) dX6_known_0 (by decide) ?_
  refine g_iload_n C 1 dX6_known_2 rfl rfl ?_
  refine g_imul C dX6_known_3 ?_
  refine g_istore_n C (lv2 := [(2, .int ((9 : Int32) * v1)), (0, .ref (ad 0)), (1, .int v1)]) dX6_known_4 rfl (by decide) rfl ?_
  refine g_aload_n C 1 dX6_known_5 rfl rfl ?_
  refine g_get C inX6_known_6 0 WMg0 rfl 0 (by decide) lkX6_known_7 rfl dX6_known_6 ?_
  refine g_iload_n C 0 dX6_known_9 rfl rfl ?_
  refine g_iald C 1 1 WMg1 rfl h.1 dX6_known_10 ?_
  replace h := h.2
  refine g_aload_n C 1 dX6_known_11 rfl rfl ?_
  refine g_get C inX6_known_6 0 WMg0 rfl 0 (by decide) lkX6_known_7 rfl dX6_known_12 ?_
  refine g_iload_n C 0 dX6_known_15 rfl rfl ?_
  refine g_iconst C (1 : Int32) dX6_known_16 (by decide) ?_
  refine g_iadd C dX6_known_17 ?_
  refine g_iald C 1 1 WMg1 rfl h.1 dX6_known_18 ?_
  replace h := h.2
  refine g_iadd C dX6_known_19 ?_
  refine g_aload_n C 1 dX6_known_20 rfl rfl ?_
  refine g_get C inX6_known_6 0 WMg0 rfl 0 (by decide) lkX6_known_7 rfl dX6_known_21 ?_
  refine g_iload_n C 0 dX6_known_24 rfl rfl ?_
  refine g_iconst C (2 : Int32) dX6_known_25 (by decide) ?_
  refine g_iadd C dX6_known_26 ?_
  refine g_iald C 1 1 WMg1 rfl h.1 dX6_known_27 ?_
  replace h := h.2
  refine g_iadd C dX6_known_28 ?_
  exact g_iret C hrt9 hlk (u := ()) rfl h dX6_known_29
theorem c_X6_known (l : Launch) (D : va_G) (A : Nat → Prop) (ad : Nat → Nat) (cA : Nat → ClassId) (v1 : Int32) {ms : (Nat → Int32)} {mb : (Nat → Int32)} {my : (Nat → Int32)} {mt : (Nat → Int32)} {mw : (Nat → Int32)} {ml : (Nat → Int32)} {mo : (Nat → Int32)} {gm : Int32} {gs : Int32} {ga : Int32} {gg : Int32} {gb : Int32} {gu : Int32} {gh : Int32} {gk : Int32} {gl : Int32} {gn : Int32} {gt : Int32}  (Q : Int32 → Prop) (h : F_X6_known v1 ms Q) : Met l yX6_known wsX6_known rmX6_known (va_Pc [.ref (ad 0), .int v1] (OKX D (tysX cA) (WM ad cA ms mb my mt mw ml mo gm gs ga gg gb gu gh gk gl gn gt) A)) (QC_X6_known D A ad cA ms mb my mt mw ml mo gm gs ga gg gb gu gh gk gl gn gt Q) 0 0 A :=
  g_met (own := RX6) (by decide) rfl rfl (Nat.le_of_ble_eq_true rfl) (fun p e s m below meth c C hrt9 hlk _ => g_sub [0, 1] rfl (t_B_X6_known_0 C hrt9 hlk v1   h))
theorem k_X6_known {ws : List Cond} {own : String} {cc : ByteArray} {nL pc index : Nat} {lv : List (Nat × Value)} {st : List Value} {Q : State → Prop} {R : Room} {K : Int32 → Prop} {v1 : Int32} (C : CxX p s m args c D (tysX cA) own cc nL ws) (hT : GoodIn ws (wsV own index RX6 yX6_known wsX6_known)) (hR : rmX6_known.frames + 1 ≤ R.frames ∧ 8 + (3 + 11) + rmX6_known.locals ≤ R.locals) (hcat : (st.map fun v => v.category).sum ≤ 8) (hdg : decode cc pc = .ok (.invokevirtual index, 3))  (h : F_X6_known v1 ms K) (kk : ∀ (r : Int32) , K r → GoX p l e R s m args below meth c D A nL 0 0 Q (pc + 3) lv (.int r :: st) (WM ad cA ms mb my mt mw ml mo gm gs ga gg gb gu gh gk gl gn gt)) : GoX p l e R s m args below meth c D A nL 0 0 Q pc lv (.int v1 :: .ref (ad 0) :: st) (WM ad cA ms mb my mt mw ml mo gm gs ga gg gb gu gh gk gl gn gt) :=
  g_callVi C (As := [.int v1]) 1 (c_X6_known l D A ad cA v1  K h) hT rfl rfl rfl (by decide +kernel) hR 0 WMg0 rfl rfl rfl hcat hdg (fun r u hu => kk r  hu)
/-! X6_makesKnown -/
abbrev rmX6_makesKnown : Room := { frames := 2, cells := 0, slots := 0, locals := 42 }
abbrev QC_X6_makesKnown (D : va_G) (A : Nat → Prop) (ad : Nat → Nat) (cA : Nat → ClassId) (my : (Nat → Int32)) (mt : (Nat → Int32)) (mw : (Nat → Int32)) (ml : (Nat → Int32)) (mo : (Nat → Int32)) (gm : Int32) (gs : Int32) (ga : Int32) (gg : Int32) (gb : Int32) (gu : Int32) (gh : Int32) (gk : Int32) (gl : Int32) (gn : Int32) (Q : Int32 → (Nat → Int32) → (Nat → Int32) → Int32 → Prop) : Array Value → State → Outcome → State → Prop := va_Qi (fun (r : Int32) (u : (Nat → Int32) × (Nat → Int32) × Int32) => Q r u.1 u.2.1 u.2.2) (fun u t => OKX D (tysX cA) ((fun u : (Nat → Int32) × (Nat → Int32) × Int32 => WM ad cA u.1 u.2.1 my mt mw ml mo gm gs ga gg gb gu gh gk gl gn u.2.2) u) A t) A
abbrev QP_X6_makesKnown (D : va_G) (A : Nat → Prop) (ad : Nat → Nat) (cA : Nat → ClassId) (my : (Nat → Int32)) (mt : (Nat → Int32)) (mw : (Nat → Int32)) (ml : (Nat → Int32)) (mo : (Nat → Int32)) (gm : Int32) (gs : Int32) (ga : Int32) (gg : Int32) (gb : Int32) (gu : Int32) (gh : Int32) (gk : Int32) (gl : Int32) (gn : Int32) (Q : Int32 → (Nat → Int32) → (Nat → Int32) → Int32 → Prop) (below : List Frame) (args : Array Value) (s : State) : State → Prop := MQ below (QC_X6_makesKnown D A ad cA my mt mw ml mo gm gs ga gg gb gu gh gk gl gn Q) args s 0 0 A
def B_X6_makesKnown_16  (Q : Int32 → (Nat → Int32) → (Nat → Int32) → Int32 → Prop)   (ms : (Nat → Int32)) (mb : (Nat → Int32)) (gt : Int32) : Prop := (Q (-1 : Int32) ms mb gt)
def B_X6_makesKnown_0  (Q : Int32 → (Nat → Int32) → (Nat → Int32) → Int32 → Prop)  (v1 : Int32) (v2 : Int32) (v3 : Int32) (ms : (Nat → Int32)) (mb : (Nat → Int32)) (gt : Int32) : Prop := (F_X6_isHearer v1 (fun r_1 => ((r_1 = 0 → (B_X6_makesKnown_16  Q  ms mb gt)) ∧ (¬ r_1 = 0 → (F_X6_in v2 (0 : Int32) (2 : Int32) (fun r_3 => ((r_3 = 0 → (B_X6_makesKnown_16  Q  ms mb gt)) ∧ (¬ r_3 = 0 → (F_X6_record ms mb gt (fun mb_5 gt_6 => (vp_in (((9 : Int32) * v1) + v2) 106 ∧ (vp_in ((((9 : Int32) * v1) + (3 : Int32)) + v2) 106 ∧ (F_X6_known v1 (upd (upd ms (((9 : Int32) * v1) + v2).toNatClampNeg v3) ((((9 : Int32) * v1) + (3 : Int32)) + v2).toNatClampNeg (0 : Int32)) (fun r_7 => (Q r_7 (upd (upd ms (((9 : Int32) * v1) + v2).toNatClampNeg v3) ((((9 : Int32) * v1) + (3 : Int32)) + v2).toNatClampNeg (0 : Int32)) mb_5 gt_6)))))))))))))))
def F_X6_makesKnown (v1 : Int32) (v2 : Int32) (v3 : Int32)  (ms : (Nat → Int32)) (mb : (Nat → Int32)) (gt : Int32) (Q : Int32 → (Nat → Int32) → (Nat → Int32) → Int32 → Prop) : Prop := B_X6_makesKnown_0 Q  v1 v2 v3 ms mb gt
theorem lkX6_makesKnown_7 : Cond.fieldLink RX6 7 (TX6 0).1 (TX6 0).2.1 (TX6 0).2.2.1 ∈ wsX6_makesKnown := by decide +kernel
theorem inX6_makesKnown_6 : ∀ q ∈ u_ws RX6 TX6 18, q ∈ wsX6_makesKnown := by decide +kernel
set_option maxHeartbeats 4000000 in
set_option maxRecDepth 100000 in
theorem t_B_X6_makesKnown_16  {Q : Int32 → (Nat → Int32) → (Nat → Int32) → Int32 → Prop} (C : CxX p s m args c D (tysX cA) RX6 cX6_makesKnown 4 wsX6_makesKnown) (hrt9 : meth.sig.returnType = (some .int)) (hlk : meth.locks = false)  (ms : (Nat → Int32)) (mb : (Nat → Int32)) (gt : Int32)  (h : B_X6_makesKnown_16  Q  ms mb gt) : GoX p l e rmX6_makesKnown s m args below meth c D A 4 0 0 (QP_X6_makesKnown D A ad cA my mt mw ml mo gm gs ga gg gb gu gh gk gl gn Q below args s) 16 [] [] (WM ad cA ms mb my mt mw ml mo gm gs ga gg gb gu gh gk gl gn gt) := by
  replace h : (Q (-1 : Int32) ms mb gt) := h
  refine g_iconst C (-1 : Int32) dX6_makesKnown_16 (by decide) ?_
  exact g_iret C hrt9 hlk (u := (ms, mb, gt)) rfl h dX6_makesKnown_17
set_option maxHeartbeats 4000000 in
set_option maxRecDepth 100000 in
theorem t_B_X6_makesKnown_0  {Q : Int32 → (Nat → Int32) → (Nat → Int32) → Int32 → Prop} (C : CxX p s m args c D (tysX cA) RX6 cX6_makesKnown 4 wsX6_makesKnown) (hrt9 : meth.sig.returnType = (some .int)) (hlk : meth.locks = false) (v1 : Int32) (v2 : Int32) (v3 : Int32) (ms : (Nat → Int32)) (mb : (Nat → Int32)) (gt : Int32)  (h : B_X6_makesKnown_0  Q  v1 v2 v3 ms mb gt) : GoX p l e rmX6_makesKnown s m args below meth c D A 4 0 0 (QP_X6_makesKnown D A ad cA my mt mw ml mo gm gs ga gg gb gu gh gk gl gn Q below args s) 0 [(0, .ref (ad 0)), (1, .int v1), (2, .int v2), (3, .int v3)] [] (WM ad cA ms mb my mt mw ml mo gm gs ga gg gb gu gh gk gl gn gt) := by
  replace h : (F_X6_isHearer v1 (fun r_1 => ((r_1 = 0 → (B_X6_makesKnown_16  Q  ms mb gt)) ∧ (¬ r_1 = 0 → (F_X6_in v2 (0 : Int32) (2 : Int32) (fun r_3 => ((r_3 = 0 → (B_X6_makesKnown_16  Q  ms mb gt)) ∧ (¬ r_3 = 0 → (F_X6_record ms mb gt (fun mb_5 gt_6 => (vp_in (((9 : Int32) * v1) + v2) 106 ∧ (vp_in ((((9 : Int32) * v1) + (3 : Int32)) + v2) 106 ∧ (F_X6_known v1 (upd (upd ms (((9 : Int32) * v1) + v2).toNatClampNeg v3) ((((9 : Int32) * v1) + (3 : Int32)) + v2).toNatClampNeg (0 : Int32)) (fun r_7 => (Q r_7 (upd (upd ms (((9 : Int32) * v1) + v2).toNatClampNeg v3) ((((9 : Int32) * v1) + (3 : Int32)) + v2).toNatClampNeg (0 : Int32)) mb_5 gt_6))))))))))))))) := h
  refine g_iload_n C 1 dX6_makesKnown_0 rfl rfl ?_
  refine k_X6_isHearer C gX6_makesKnown_X6_isHearer ⟨Nat.le_of_ble_eq_true rfl, Nat.le_of_ble_eq_true rfl⟩ (Nat.le_of_ble_eq_true rfl) dX6_makesKnown_1  h (fun r_1 h => ?_)
  refine g_if_eq C 16 dX6_makesKnown_4 (by decide) (fun c_2 => ?_) (fun c_2 => ?_)
  · replace h := h.1 c_2
    exact g_sub [] rfl (t_B_X6_makesKnown_16 C hrt9 hlk  ms mb gt  h)
  · replace h := h.2 c_2
    refine g_iload_n C 2 dX6_makesKnown_7 rfl rfl ?_
    refine g_iconst C (0 : Int32) dX6_makesKnown_8 (by decide) ?_
    refine g_iconst C (2 : Int32) dX6_makesKnown_9 (by decide) ?_
    refine k_X6_in C gX6_makesKnown_X6_in ⟨Nat.le_of_ble_eq_true rfl, Nat.le_of_ble_eq_true rfl⟩ (Nat.le_of_ble_eq_true rfl) dX6_makesKnown_10  h (fun r_3 h => ?_)
    refine g_if_ne C 18 dX6_makesKnown_13 (by decide) (fun c_4 => ?_) (fun c_4 => ?_)
    · replace h := h.2 c_4
      refine g_aload_n C 0 dX6_makesKnown_18 rfl rfl ?_
      refine k_X6_record C gX6_makesKnown_X6_record ⟨Nat.le_of_ble_eq_true rfl, Nat.le_of_ble_eq_true rfl⟩ (Nat.le_of_ble_eq_true rfl) dX6_makesKnown_19  h (fun mb_5 gt_6 h => ?_)
      refine g_aload_n C 0 dX6_makesKnown_22 rfl rfl ?_
      refine g_get C inX6_makesKnown_6 0 WMg0 rfl 0 (by decide) lkX6_makesKnown_7 rfl dX6_makesKnown_23 ?_
      refine g_bipush C (9 : Int32) dX6_makesKnown_26 (by decide) ?_
      refine g_iload_n C 1 dX6_makesKnown_28 rfl rfl ?_
      refine g_imul C dX6_makesKnown_29 ?_
      refine g_iload_n C 2 dX6_makesKnown_30 rfl rfl ?_
      refine g_iadd C dX6_makesKnown_31 ?_
      refine g_iload_n C 3 dX6_makesKnown_32 rfl rfl ?_
      refine g_iast C 1 1 WMg1 rfl h.1 WMs_ms dX6_makesKnown_33 ?_
      replace h := h.2
      refine g_aload_n C 0 dX6_makesKnown_34 rfl rfl ?_
      refine g_get C inX6_makesKnown_6 0 WMg0 rfl 0 (by decide) lkX6_makesKnown_7 rfl dX6_makesKnown_35 ?_
      refine g_bipush C (9 : Int32) dX6_makesKnown_38 (by decide) ?_
      refine g_iload_n C 1 dX6_makesKnown_40 rfl rfl ?_
      refine g_imul C dX6_makesKnown_41 ?_
      refine g_iconst C (3 : Int32) dX6_makesKnown_42 (by decide) ?_
      refine g_iadd C dX6_makesKnown_43 ?_
      refine g_iload_n C 2 dX6_makesKnown_44 rfl rfl ?_
      refine g_iadd C dX6_makesKnown_45 ?_
      refine g_iconst C (0 : Int32) dX6_makesKnown_46 (by decide) ?_
      refine g_iast C 1 1 WMg1 rfl h.1 WMs_ms dX6_makesKnown_47 ?_
      replace h := h.2
      refine g_aload_n C 0 dX6_makesKnown_48 rfl rfl ?_
      refine g_iload_n C 1 dX6_makesKnown_49 rfl rfl ?_
      refine k_X6_known C gX6_makesKnown_X6_known ⟨Nat.le_of_ble_eq_true rfl, Nat.le_of_ble_eq_true rfl⟩ (Nat.le_of_ble_eq_true rfl) dX6_makesKnown_50  h (fun r_7 h => ?_)
      exact g_iret C hrt9 hlk (u := ((upd (upd ms (((9 : Int32) * v1) + v2).toNatClampNeg v3) ((((9 : Int32) * v1) + (3 : Int32)) + v2).toNatClampNeg (0 : Int32)), mb_5, gt_6)) rfl h dX6_makesKnown_53
    · replace h := h.1 c_4
      exact g_sub [] rfl (t_B_X6_makesKnown_16 C hrt9 hlk  ms mb gt  h)
theorem c_X6_makesKnown (l : Launch) (D : va_G) (A : Nat → Prop) (ad : Nat → Nat) (cA : Nat → ClassId) (v1 : Int32) (v2 : Int32) (v3 : Int32) {ms : (Nat → Int32)} {mb : (Nat → Int32)} {my : (Nat → Int32)} {mt : (Nat → Int32)} {mw : (Nat → Int32)} {ml : (Nat → Int32)} {mo : (Nat → Int32)} {gm : Int32} {gs : Int32} {ga : Int32} {gg : Int32} {gb : Int32} {gu : Int32} {gh : Int32} {gk : Int32} {gl : Int32} {gn : Int32} {gt : Int32}  (Q : Int32 → (Nat → Int32) → (Nat → Int32) → Int32 → Prop) (h : F_X6_makesKnown v1 v2 v3 ms mb gt Q) : Met l yX6_makesKnown wsX6_makesKnown rmX6_makesKnown (va_Pc [.ref (ad 0), .int v1, .int v2, .int v3] (OKX D (tysX cA) (WM ad cA ms mb my mt mw ml mo gm gs ga gg gb gu gh gk gl gn gt) A)) (QC_X6_makesKnown D A ad cA my mt mw ml mo gm gs ga gg gb gu gh gk gl gn Q) 0 0 A :=
  g_met (own := RX6) (by decide) rfl rfl (Nat.le_of_ble_eq_true rfl) (fun p e s m below meth c C hrt9 hlk _ => g_sub [0, 1, 2, 3] rfl (t_B_X6_makesKnown_0 C hrt9 hlk v1 v2 v3 ms mb gt  h))
theorem k_X6_makesKnown {ws : List Cond} {own : String} {cc : ByteArray} {nL pc index : Nat} {lv : List (Nat × Value)} {st : List Value} {Q : State → Prop} {R : Room} {K : Int32 → (Nat → Int32) → (Nat → Int32) → Int32 → Prop} {v1 : Int32} {v2 : Int32} {v3 : Int32} (C : CxX p s m args c D (tysX cA) own cc nL ws) (hT : GoodIn ws (wsV own index RX6 yX6_makesKnown wsX6_makesKnown)) (hR : rmX6_makesKnown.frames + 1 ≤ R.frames ∧ 8 + (4 + 11) + rmX6_makesKnown.locals ≤ R.locals) (hcat : (st.map fun v => v.category).sum ≤ 8) (hdg : decode cc pc = .ok (.invokevirtual index, 3))  (h : F_X6_makesKnown v1 v2 v3 ms mb gt K) (kk : ∀ (r : Int32) (msq : (Nat → Int32)) (mbq : (Nat → Int32)) (gtq : Int32), K r msq mbq gtq → GoX p l e R s m args below meth c D A nL 0 0 Q (pc + 3) lv (.int r :: st) (WM ad cA msq mbq my mt mw ml mo gm gs ga gg gb gu gh gk gl gn gtq)) : GoX p l e R s m args below meth c D A nL 0 0 Q pc lv (.int v3 :: .int v2 :: .int v1 :: .ref (ad 0) :: st) (WM ad cA ms mb my mt mw ml mo gm gs ga gg gb gu gh gk gl gn gt) :=
  g_callVi C (As := [.int v1, .int v2, .int v3]) 3 (c_X6_makesKnown l D A ad cA v1 v2 v3  K h) hT rfl rfl rfl (by decide +kernel) hR 0 WMg0 rfl rfl rfl hcat hdg (fun r u hu => kk r u.1 u.2.1 u.2.2 hu)
/-! X6_learn -/
abbrev rmX6_learn : Room := { frames := 3, cells := 0, slots := 0, locals := 65 }
abbrev QC_X6_learn (D : va_G) (A : Nat → Prop) (ad : Nat → Nat) (cA : Nat → ClassId) (my : (Nat → Int32)) (mt : (Nat → Int32)) (mw : (Nat → Int32)) (ml : (Nat → Int32)) (mo : (Nat → Int32)) (gm : Int32) (gs : Int32) (ga : Int32) (gg : Int32) (gb : Int32) (gu : Int32) (gh : Int32) (gk : Int32) (gl : Int32) (gn : Int32) (Q : Int32 → (Nat → Int32) → (Nat → Int32) → Int32 → Prop) : Array Value → State → Outcome → State → Prop := va_Qi (fun (r : Int32) (u : (Nat → Int32) × (Nat → Int32) × Int32) => Q r u.1 u.2.1 u.2.2) (fun u t => OKX D (tysX cA) ((fun u : (Nat → Int32) × (Nat → Int32) × Int32 => WM ad cA u.1 u.2.1 my mt mw ml mo gm gs ga gg gb gu gh gk gl gn u.2.2) u) A t) A
abbrev QP_X6_learn (D : va_G) (A : Nat → Prop) (ad : Nat → Nat) (cA : Nat → ClassId) (my : (Nat → Int32)) (mt : (Nat → Int32)) (mw : (Nat → Int32)) (ml : (Nat → Int32)) (mo : (Nat → Int32)) (gm : Int32) (gs : Int32) (ga : Int32) (gg : Int32) (gb : Int32) (gu : Int32) (gh : Int32) (gk : Int32) (gl : Int32) (gn : Int32) (Q : Int32 → (Nat → Int32) → (Nat → Int32) → Int32 → Prop) (below : List Frame) (args : Array Value) (s : State) : State → Prop := MQ below (QC_X6_learn D A ad cA my mt mw ml mo gm gs ga gg gb gu gh gk gl gn Q) args s 0 0 A
def B_X6_learn_0  (Q : Int32 → (Nat → Int32) → (Nat → Int32) → Int32 → Prop)  (v1 : Int32) (v2 : Int32) (ms : (Nat → Int32)) (mb : (Nat → Int32)) (gt : Int32) : Prop := (F_X6_makesKnown v1 v2 (1 : Int32) ms mb gt (fun r_1 ms_2 mb_3 gt_4 => (Q r_1 ms_2 mb_3 gt_4)))
def F_X6_learn (v1 : Int32) (v2 : Int32)  (ms : (Nat → Int32)) (mb : (Nat → Int32)) (gt : Int32) (Q : Int32 → (Nat → Int32) → (Nat → Int32) → Int32 → Prop) : Prop := B_X6_learn_0 Q  v1 v2 ms mb gt
set_option maxHeartbeats 4000000 in
set_option maxRecDepth 100000 in
theorem t_B_X6_learn_0  {Q : Int32 → (Nat → Int32) → (Nat → Int32) → Int32 → Prop} (C : CxX p s m args c D (tysX cA) RX6 cX6_learn 3 wsX6_learn) (hrt9 : meth.sig.returnType = (some .int)) (hlk : meth.locks = false) (v1 : Int32) (v2 : Int32) (ms : (Nat → Int32)) (mb : (Nat → Int32)) (gt : Int32)  (h : B_X6_learn_0  Q  v1 v2 ms mb gt) : GoX p l e rmX6_learn s m args below meth c D A 3 0 0 (QP_X6_learn D A ad cA my mt mw ml mo gm gs ga gg gb gu gh gk gl gn Q below args s) 0 [(0, .ref (ad 0)), (1, .int v1), (2, .int v2)] [] (WM ad cA ms mb my mt mw ml mo gm gs ga gg gb gu gh gk gl gn gt) := by
  replace h : (F_X6_makesKnown v1 v2 (1 : Int32) ms mb gt (fun r_1 ms_2 mb_3 gt_4 => (Q r_1 ms_2 mb_3 gt_4))) := h
  refine g_aload_n C 0 dX6_learn_0 rfl rfl ?_
  refine g_iload_n C 1 dX6_learn_1 rfl rfl ?_
  refine g_iload_n C 2 dX6_learn_2 rfl rfl ?_
  refine g_iconst C (1 : Int32) dX6_learn_3 (by decide) ?_
  refine k_X6_makesKnown C gX6_learn_X6_makesKnown ⟨Nat.le_of_ble_eq_true rfl, Nat.le_of_ble_eq_true rfl⟩ (Nat.le_of_ble_eq_true rfl) dX6_learn_4  h (fun r_1 ms_2 mb_3 gt_4 h => ?_)
  exact g_iret C hrt9 hlk (u := (ms_2, mb_3, gt_4)) rfl h dX6_learn_7
theorem c_X6_learn (l : Launch) (D : va_G) (A : Nat → Prop) (ad : Nat → Nat) (cA : Nat → ClassId) (v1 : Int32) (v2 : Int32) {ms : (Nat → Int32)} {mb : (Nat → Int32)} {my : (Nat → Int32)} {mt : (Nat → Int32)} {mw : (Nat → Int32)} {ml : (Nat → Int32)} {mo : (Nat → Int32)} {gm : Int32} {gs : Int32} {ga : Int32} {gg : Int32} {gb : Int32} {gu : Int32} {gh : Int32} {gk : Int32} {gl : Int32} {gn : Int32} {gt : Int32}  (Q : Int32 → (Nat → Int32) → (Nat → Int32) → Int32 → Prop) (h : F_X6_learn v1 v2 ms mb gt Q) : Met l yX6_learn wsX6_learn rmX6_learn (va_Pc [.ref (ad 0), .int v1, .int v2] (OKX D (tysX cA) (WM ad cA ms mb my mt mw ml mo gm gs ga gg gb gu gh gk gl gn gt) A)) (QC_X6_learn D A ad cA my mt mw ml mo gm gs ga gg gb gu gh gk gl gn Q) 0 0 A :=
  g_met (own := RX6) (by decide) rfl rfl (Nat.le_of_ble_eq_true rfl) (fun p e s m below meth c C hrt9 hlk _ => g_sub [0, 1, 2] rfl (t_B_X6_learn_0 C hrt9 hlk v1 v2 ms mb gt  h))
theorem k_X6_learn {ws : List Cond} {own : String} {cc : ByteArray} {nL pc index : Nat} {lv : List (Nat × Value)} {st : List Value} {Q : State → Prop} {R : Room} {K : Int32 → (Nat → Int32) → (Nat → Int32) → Int32 → Prop} {v1 : Int32} {v2 : Int32} (C : CxX p s m args c D (tysX cA) own cc nL ws) (hT : GoodIn ws (wsV own index RX6 yX6_learn wsX6_learn)) (hR : rmX6_learn.frames + 1 ≤ R.frames ∧ 8 + (3 + 11) + rmX6_learn.locals ≤ R.locals) (hcat : (st.map fun v => v.category).sum ≤ 8) (hdg : decode cc pc = .ok (.invokevirtual index, 3))  (h : F_X6_learn v1 v2 ms mb gt K) (kk : ∀ (r : Int32) (msq : (Nat → Int32)) (mbq : (Nat → Int32)) (gtq : Int32), K r msq mbq gtq → GoX p l e R s m args below meth c D A nL 0 0 Q (pc + 3) lv (.int r :: st) (WM ad cA msq mbq my mt mw ml mo gm gs ga gg gb gu gh gk gl gn gtq)) : GoX p l e R s m args below meth c D A nL 0 0 Q pc lv (.int v2 :: .int v1 :: .ref (ad 0) :: st) (WM ad cA ms mb my mt mw ml mo gm gs ga gg gb gu gh gk gl gn gt) :=
  g_callVi C (As := [.int v1, .int v2]) 2 (c_X6_learn l D A ad cA v1 v2  K h) hT rfl rfl rfl (by decide +kernel) hR 0 WMg0 rfl rfl rfl hcat hdg (fun r u hu => kk r u.1 u.2.1 u.2.2 hu)
/-! X6_unlearn -/
abbrev rmX6_unlearn : Room := { frames := 3, cells := 0, slots := 0, locals := 65 }
abbrev QC_X6_unlearn (D : va_G) (A : Nat → Prop) (ad : Nat → Nat) (cA : Nat → ClassId) (my : (Nat → Int32)) (mt : (Nat → Int32)) (mw : (Nat → Int32)) (ml : (Nat → Int32)) (mo : (Nat → Int32)) (gm : Int32) (gs : Int32) (ga : Int32) (gg : Int32) (gb : Int32) (gu : Int32) (gh : Int32) (gk : Int32) (gl : Int32) (gn : Int32) (Q : Int32 → (Nat → Int32) → (Nat → Int32) → Int32 → Prop) : Array Value → State → Outcome → State → Prop := va_Qi (fun (r : Int32) (u : (Nat → Int32) × (Nat → Int32) × Int32) => Q r u.1 u.2.1 u.2.2) (fun u t => OKX D (tysX cA) ((fun u : (Nat → Int32) × (Nat → Int32) × Int32 => WM ad cA u.1 u.2.1 my mt mw ml mo gm gs ga gg gb gu gh gk gl gn u.2.2) u) A t) A
abbrev QP_X6_unlearn (D : va_G) (A : Nat → Prop) (ad : Nat → Nat) (cA : Nat → ClassId) (my : (Nat → Int32)) (mt : (Nat → Int32)) (mw : (Nat → Int32)) (ml : (Nat → Int32)) (mo : (Nat → Int32)) (gm : Int32) (gs : Int32) (ga : Int32) (gg : Int32) (gb : Int32) (gu : Int32) (gh : Int32) (gk : Int32) (gl : Int32) (gn : Int32) (Q : Int32 → (Nat → Int32) → (Nat → Int32) → Int32 → Prop) (below : List Frame) (args : Array Value) (s : State) : State → Prop := MQ below (QC_X6_unlearn D A ad cA my mt mw ml mo gm gs ga gg gb gu gh gk gl gn Q) args s 0 0 A
def B_X6_unlearn_0  (Q : Int32 → (Nat → Int32) → (Nat → Int32) → Int32 → Prop)  (v1 : Int32) (v2 : Int32) (ms : (Nat → Int32)) (mb : (Nat → Int32)) (gt : Int32) : Prop := (F_X6_makesKnown v1 v2 (0 : Int32) ms mb gt (fun r_1 ms_2 mb_3 gt_4 => (Q r_1 ms_2 mb_3 gt_4)))
def F_X6_unlearn (v1 : Int32) (v2 : Int32)  (ms : (Nat → Int32)) (mb : (Nat → Int32)) (gt : Int32) (Q : Int32 → (Nat → Int32) → (Nat → Int32) → Int32 → Prop) : Prop := B_X6_unlearn_0 Q  v1 v2 ms mb gt
set_option maxHeartbeats 4000000 in
set_option maxRecDepth 100000 in
theorem t_B_X6_unlearn_0  {Q : Int32 → (Nat → Int32) → (Nat → Int32) → Int32 → Prop} (C : CxX p s m args c D (tysX cA) RX6 cX6_unlearn 3 wsX6_unlearn) (hrt9 : meth.sig.returnType = (some .int)) (hlk : meth.locks = false) (v1 : Int32) (v2 : Int32) (ms : (Nat → Int32)) (mb : (Nat → Int32)) (gt : Int32)  (h : B_X6_unlearn_0  Q  v1 v2 ms mb gt) : GoX p l e rmX6_unlearn s m args below meth c D A 3 0 0 (QP_X6_unlearn D A ad cA my mt mw ml mo gm gs ga gg gb gu gh gk gl gn Q below args s) 0 [(0, .ref (ad 0)), (1, .int v1), (2, .int v2)] [] (WM ad cA ms mb my mt mw ml mo gm gs ga gg gb gu gh gk gl gn gt) := by
  replace h : (F_X6_makesKnown v1 v2 (0 : Int32) ms mb gt (fun r_1 ms_2 mb_3 gt_4 => (Q r_1 ms_2 mb_3 gt_4))) := h
  refine g_aload_n C 0 dX6_unlearn_0 rfl rfl ?_
  refine g_iload_n C 1 dX6_unlearn_1 rfl rfl ?_
  refine g_iload_n C 2 dX6_unlearn_2 rfl rfl ?_
  refine g_iconst C (0 : Int32) dX6_unlearn_3 (by decide) ?_
  refine k_X6_makesKnown C gX6_unlearn_X6_makesKnown ⟨Nat.le_of_ble_eq_true rfl, Nat.le_of_ble_eq_true rfl⟩ (Nat.le_of_ble_eq_true rfl) dX6_unlearn_4  h (fun r_1 ms_2 mb_3 gt_4 h => ?_)
  exact g_iret C hrt9 hlk (u := (ms_2, mb_3, gt_4)) rfl h dX6_unlearn_7
theorem c_X6_unlearn (l : Launch) (D : va_G) (A : Nat → Prop) (ad : Nat → Nat) (cA : Nat → ClassId) (v1 : Int32) (v2 : Int32) {ms : (Nat → Int32)} {mb : (Nat → Int32)} {my : (Nat → Int32)} {mt : (Nat → Int32)} {mw : (Nat → Int32)} {ml : (Nat → Int32)} {mo : (Nat → Int32)} {gm : Int32} {gs : Int32} {ga : Int32} {gg : Int32} {gb : Int32} {gu : Int32} {gh : Int32} {gk : Int32} {gl : Int32} {gn : Int32} {gt : Int32}  (Q : Int32 → (Nat → Int32) → (Nat → Int32) → Int32 → Prop) (h : F_X6_unlearn v1 v2 ms mb gt Q) : Met l yX6_unlearn wsX6_unlearn rmX6_unlearn (va_Pc [.ref (ad 0), .int v1, .int v2] (OKX D (tysX cA) (WM ad cA ms mb my mt mw ml mo gm gs ga gg gb gu gh gk gl gn gt) A)) (QC_X6_unlearn D A ad cA my mt mw ml mo gm gs ga gg gb gu gh gk gl gn Q) 0 0 A :=
  g_met (own := RX6) (by decide) rfl rfl (Nat.le_of_ble_eq_true rfl) (fun p e s m below meth c C hrt9 hlk _ => g_sub [0, 1, 2] rfl (t_B_X6_unlearn_0 C hrt9 hlk v1 v2 ms mb gt  h))
theorem k_X6_unlearn {ws : List Cond} {own : String} {cc : ByteArray} {nL pc index : Nat} {lv : List (Nat × Value)} {st : List Value} {Q : State → Prop} {R : Room} {K : Int32 → (Nat → Int32) → (Nat → Int32) → Int32 → Prop} {v1 : Int32} {v2 : Int32} (C : CxX p s m args c D (tysX cA) own cc nL ws) (hT : GoodIn ws (wsV own index RX6 yX6_unlearn wsX6_unlearn)) (hR : rmX6_unlearn.frames + 1 ≤ R.frames ∧ 8 + (3 + 11) + rmX6_unlearn.locals ≤ R.locals) (hcat : (st.map fun v => v.category).sum ≤ 8) (hdg : decode cc pc = .ok (.invokevirtual index, 3))  (h : F_X6_unlearn v1 v2 ms mb gt K) (kk : ∀ (r : Int32) (msq : (Nat → Int32)) (mbq : (Nat → Int32)) (gtq : Int32), K r msq mbq gtq → GoX p l e R s m args below meth c D A nL 0 0 Q (pc + 3) lv (.int r :: st) (WM ad cA msq mbq my mt mw ml mo gm gs ga gg gb gu gh gk gl gn gtq)) : GoX p l e R s m args below meth c D A nL 0 0 Q pc lv (.int v2 :: .int v1 :: .ref (ad 0) :: st) (WM ad cA ms mb my mt mw ml mo gm gs ga gg gb gu gh gk gl gn gt) :=
  g_callVi C (As := [.int v1, .int v2]) 2 (c_X6_unlearn l D A ad cA v1 v2  K h) hT rfl rfl rfl (by decide +kernel) hR 0 WMg0 rfl rfl rfl hcat hdg (fun r u hu => kk r u.1 u.2.1 u.2.2 hu)
/-! X6_attend -/
abbrev rmX6_attend : Room := { frames := 2, cells := 0, slots := 0, locals := 42 }
abbrev QC_X6_attend (D : va_G) (A : Nat → Prop) (ad : Nat → Nat) (cA : Nat → ClassId) (my : (Nat → Int32)) (mt : (Nat → Int32)) (mw : (Nat → Int32)) (ml : (Nat → Int32)) (mo : (Nat → Int32)) (gm : Int32) (gs : Int32) (ga : Int32) (gg : Int32) (gb : Int32) (gu : Int32) (gh : Int32) (gk : Int32) (gl : Int32) (gn : Int32) (Q : Int32 → (Nat → Int32) → (Nat → Int32) → Int32 → Prop) : Array Value → State → Outcome → State → Prop := va_Qi (fun (r : Int32) (u : (Nat → Int32) × (Nat → Int32) × Int32) => Q r u.1 u.2.1 u.2.2) (fun u t => OKX D (tysX cA) ((fun u : (Nat → Int32) × (Nat → Int32) × Int32 => WM ad cA u.1 u.2.1 my mt mw ml mo gm gs ga gg gb gu gh gk gl gn u.2.2) u) A t) A
abbrev QP_X6_attend (D : va_G) (A : Nat → Prop) (ad : Nat → Nat) (cA : Nat → ClassId) (my : (Nat → Int32)) (mt : (Nat → Int32)) (mw : (Nat → Int32)) (ml : (Nat → Int32)) (mo : (Nat → Int32)) (gm : Int32) (gs : Int32) (ga : Int32) (gg : Int32) (gb : Int32) (gu : Int32) (gh : Int32) (gk : Int32) (gl : Int32) (gn : Int32) (Q : Int32 → (Nat → Int32) → (Nat → Int32) → Int32 → Prop) (below : List Frame) (args : Array Value) (s : State) : State → Prop := MQ below (QC_X6_attend D A ad cA my mt mw ml mo gm gs ga gg gb gu gh gk gl gn Q) args s 0 0 A
def B_X6_attend_0  (Q : Int32 → (Nat → Int32) → (Nat → Int32) → Int32 → Prop)  (v1 : Int32) (v2 : Int32) (ms : (Nat → Int32)) (mb : (Nat → Int32)) (gt : Int32) : Prop := (F_X6_isHearer v1 (fun r_1 => ((r_1 = 0 → (Q (-1 : Int32) ms mb gt)) ∧ (¬ r_1 = 0 → (F_X6_in v2 (1 : Int32) (12 : Int32) (fun r_3 => ((r_3 = 0 → (Q (-2 : Int32) ms mb gt)) ∧ (¬ r_3 = 0 → (F_X6_record ms mb gt (fun mb_5 gt_6 => (vp_in (((9 : Int32) * v1) + (6 : Int32)) 106 ∧ (vp_in (((9 : Int32) * v1) + (6 : Int32)) 106 ∧ (Q (ms (((9 : Int32) * v1) + (6 : Int32)).toNatClampNeg) (upd ms (((9 : Int32) * v1) + (6 : Int32)).toNatClampNeg v2) mb_5 gt_6)))))))))))))
def F_X6_attend (v1 : Int32) (v2 : Int32)  (ms : (Nat → Int32)) (mb : (Nat → Int32)) (gt : Int32) (Q : Int32 → (Nat → Int32) → (Nat → Int32) → Int32 → Prop) : Prop := B_X6_attend_0 Q  v1 v2 ms mb gt
theorem lkX6_attend_7 : Cond.fieldLink RX6 7 (TX6 0).1 (TX6 0).2.1 (TX6 0).2.2.1 ∈ wsX6_attend := by decide +kernel
theorem inX6_attend_6 : ∀ q ∈ u_ws RX6 TX6 18, q ∈ wsX6_attend := by decide +kernel
set_option maxHeartbeats 4000000 in
set_option maxRecDepth 100000 in
theorem t_B_X6_attend_0  {Q : Int32 → (Nat → Int32) → (Nat → Int32) → Int32 → Prop} (C : CxX p s m args c D (tysX cA) RX6 cX6_attend 4 wsX6_attend) (hrt9 : meth.sig.returnType = (some .int)) (hlk : meth.locks = false) (v1 : Int32) (v2 : Int32) (ms : (Nat → Int32)) (mb : (Nat → Int32)) (gt : Int32)  (h : B_X6_attend_0  Q  v1 v2 ms mb gt) : GoX p l e rmX6_attend s m args below meth c D A 4 0 0 (QP_X6_attend D A ad cA my mt mw ml mo gm gs ga gg gb gu gh gk gl gn Q below args s) 0 [(0, .ref (ad 0)), (1, .int v1), (2, .int v2)] [] (WM ad cA ms mb my mt mw ml mo gm gs ga gg gb gu gh gk gl gn gt) := by
  replace h : (F_X6_isHearer v1 (fun r_1 => ((r_1 = 0 → (Q (-1 : Int32) ms mb gt)) ∧ (¬ r_1 = 0 → (F_X6_in v2 (1 : Int32) (12 : Int32) (fun r_3 => ((r_3 = 0 → (Q (-2 : Int32) ms mb gt)) ∧ (¬ r_3 = 0 → (F_X6_record ms mb gt (fun mb_5 gt_6 => (vp_in (((9 : Int32) * v1) + (6 : Int32)) 106 ∧ (vp_in (((9 : Int32) * v1) + (6 : Int32)) 106 ∧ (Q (ms (((9 : Int32) * v1) + (6 : Int32)).toNatClampNeg) (upd ms (((9 : Int32) * v1) + (6 : Int32)).toNatClampNeg v2) mb_5 gt_6))))))))))))) := h
  refine g_iload_n C 1 dX6_attend_0 rfl rfl ?_
  refine k_X6_isHearer C gX6_attend_X6_isHearer ⟨Nat.le_of_ble_eq_true rfl, Nat.le_of_ble_eq_true rfl⟩ (Nat.le_of_ble_eq_true rfl) dX6_attend_1  h (fun r_1 h => ?_)
  refine g_if_ne C 9 dX6_attend_4 (by decide) (fun c_2 => ?_) (fun c_2 => ?_)
  · replace h := h.2 c_2
    refine g_iload_n C 2 dX6_attend_9 rfl rfl ?_
    refine g_iconst C (1 : Int32) dX6_attend_10 (by decide) ?_
    refine g_bipush C (12 : Int32) dX6_attend_11 (by decide) ?_
    refine k_X6_in C gX6_attend_X6_in ⟨Nat.le_of_ble_eq_true rfl, Nat.le_of_ble_eq_true rfl⟩ (Nat.le_of_ble_eq_true rfl) dX6_attend_13  h (fun r_3 h => ?_)
    refine g_if_ne C 22 dX6_attend_16 (by decide) (fun c_4 => ?_) (fun c_4 => ?_)
    · replace h := h.2 c_4
      refine g_aload_n C 0 dX6_attend_22 rfl rfl ?_
      refine k_X6_record C gX6_attend_X6_record ⟨Nat.le_of_ble_eq_true rfl, Nat.le_of_ble_eq_true rfl⟩ (Nat.le_of_ble_eq_true rfl) dX6_attend_23  h (fun mb_5 gt_6 h => ?_)
      refine g_aload_n C 0 dX6_attend_26 rfl rfl ?_
      refine g_get C inX6_attend_6 0 WMg0 rfl 0 (by decide) lkX6_attend_7 rfl dX6_attend_27 ?_
      refine g_bipush C (9 : Int32) dX6_attend_30 (by decide) ?_
      refine g_iload_n C 1 dX6_attend_32 rfl rfl ?_
      refine g_imul C dX6_attend_33 ?_
      refine g_bipush C (6 : Int32) dX6_attend_34 (by decide) ?_
      refine g_iadd C dX6_attend_36 ?_
      refine g_iald C 1 1 WMg1 rfl h.1 dX6_attend_37 ?_
      replace h := h.2
      refine g_istore_n C (lv2 := [(3, .int (ms (((9 : Int32) * v1) + (6 : Int32)).toNatClampNeg)), (0, .ref (ad 0)), (1, .int v1), (2, .int v2)]) dX6_attend_38 rfl (by decide) rfl ?_
      refine g_aload_n C 1 dX6_attend_39 rfl rfl ?_
      refine g_get C inX6_attend_6 0 WMg0 rfl 0 (by decide) lkX6_attend_7 rfl dX6_attend_40 ?_
      refine g_bipush C (9 : Int32) dX6_attend_43 (by decide) ?_
      refine g_iload_n C 2 dX6_attend_45 rfl rfl ?_
      refine g_imul C dX6_attend_46 ?_
      refine g_bipush C (6 : Int32) dX6_attend_47 (by decide) ?_
      refine g_iadd C dX6_attend_49 ?_
      refine g_iload_n C 3 dX6_attend_50 rfl rfl ?_
      refine g_iast C 1 1 WMg1 rfl h.1 WMs_ms dX6_attend_51 ?_
      replace h := h.2
      refine g_iload_n C 0 dX6_attend_52 rfl rfl ?_
      exact g_iret C hrt9 hlk (u := ((upd ms (((9 : Int32) * v1) + (6 : Int32)).toNatClampNeg v2), mb_5, gt_6)) rfl h dX6_attend_53
    · replace h := h.1 c_4
      refine g_bipush C (-2 : Int32) dX6_attend_19 (by decide) ?_
      exact g_iret C hrt9 hlk (u := (ms, mb, gt)) rfl h dX6_attend_21
  · replace h := h.1 c_2
    refine g_iconst C (-1 : Int32) dX6_attend_7 (by decide) ?_
    exact g_iret C hrt9 hlk (u := (ms, mb, gt)) rfl h dX6_attend_8
theorem c_X6_attend (l : Launch) (D : va_G) (A : Nat → Prop) (ad : Nat → Nat) (cA : Nat → ClassId) (v1 : Int32) (v2 : Int32) {ms : (Nat → Int32)} {mb : (Nat → Int32)} {my : (Nat → Int32)} {mt : (Nat → Int32)} {mw : (Nat → Int32)} {ml : (Nat → Int32)} {mo : (Nat → Int32)} {gm : Int32} {gs : Int32} {ga : Int32} {gg : Int32} {gb : Int32} {gu : Int32} {gh : Int32} {gk : Int32} {gl : Int32} {gn : Int32} {gt : Int32}  (Q : Int32 → (Nat → Int32) → (Nat → Int32) → Int32 → Prop) (h : F_X6_attend v1 v2 ms mb gt Q) : Met l yX6_attend wsX6_attend rmX6_attend (va_Pc [.ref (ad 0), .int v1, .int v2] (OKX D (tysX cA) (WM ad cA ms mb my mt mw ml mo gm gs ga gg gb gu gh gk gl gn gt) A)) (QC_X6_attend D A ad cA my mt mw ml mo gm gs ga gg gb gu gh gk gl gn Q) 0 0 A :=
  g_met (own := RX6) (by decide) rfl rfl (Nat.le_of_ble_eq_true rfl) (fun p e s m below meth c C hrt9 hlk _ => g_sub [0, 1, 2] rfl (t_B_X6_attend_0 C hrt9 hlk v1 v2 ms mb gt  h))
theorem k_X6_attend {ws : List Cond} {own : String} {cc : ByteArray} {nL pc index : Nat} {lv : List (Nat × Value)} {st : List Value} {Q : State → Prop} {R : Room} {K : Int32 → (Nat → Int32) → (Nat → Int32) → Int32 → Prop} {v1 : Int32} {v2 : Int32} (C : CxX p s m args c D (tysX cA) own cc nL ws) (hT : GoodIn ws (wsV own index RX6 yX6_attend wsX6_attend)) (hR : rmX6_attend.frames + 1 ≤ R.frames ∧ 8 + (4 + 11) + rmX6_attend.locals ≤ R.locals) (hcat : (st.map fun v => v.category).sum ≤ 8) (hdg : decode cc pc = .ok (.invokevirtual index, 3))  (h : F_X6_attend v1 v2 ms mb gt K) (kk : ∀ (r : Int32) (msq : (Nat → Int32)) (mbq : (Nat → Int32)) (gtq : Int32), K r msq mbq gtq → GoX p l e R s m args below meth c D A nL 0 0 Q (pc + 3) lv (.int r :: st) (WM ad cA msq mbq my mt mw ml mo gm gs ga gg gb gu gh gk gl gn gtq)) : GoX p l e R s m args below meth c D A nL 0 0 Q pc lv (.int v2 :: .int v1 :: .ref (ad 0) :: st) (WM ad cA ms mb my mt mw ml mo gm gs ga gg gb gu gh gk gl gn gt) :=
  g_callVi C (As := [.int v1, .int v2]) 2 (c_X6_attend l D A ad cA v1 v2  K h) hT rfl rfl rfl (by decide +kernel) hR 0 WMg0 rfl rfl rfl hcat hdg (fun r u hu => kk r u.1 u.2.1 u.2.2 hu)
/-! X6_set -/
abbrev rmX6_set : Room := { frames := 1, cells := 0, slots := 0, locals := 22 }
abbrev QC_X6_set (D : va_G) (A : Nat → Prop) (ad : Nat → Nat) (cA : Nat → ClassId) (my : (Nat → Int32)) (mt : (Nat → Int32)) (mw : (Nat → Int32)) (ml : (Nat → Int32)) (mo : (Nat → Int32)) (gm : Int32) (gs : Int32) (ga : Int32) (gg : Int32) (gb : Int32) (gu : Int32) (gh : Int32) (gk : Int32) (gl : Int32) (gn : Int32) (Q : Int32 → (Nat → Int32) → (Nat → Int32) → Int32 → Prop) : Array Value → State → Outcome → State → Prop := va_Qi (fun (r : Int32) (u : (Nat → Int32) × (Nat → Int32) × Int32) => Q r u.1 u.2.1 u.2.2) (fun u t => OKX D (tysX cA) ((fun u : (Nat → Int32) × (Nat → Int32) × Int32 => WM ad cA u.1 u.2.1 my mt mw ml mo gm gs ga gg gb gu gh gk gl gn u.2.2) u) A t) A
abbrev QP_X6_set (D : va_G) (A : Nat → Prop) (ad : Nat → Nat) (cA : Nat → ClassId) (my : (Nat → Int32)) (mt : (Nat → Int32)) (mw : (Nat → Int32)) (ml : (Nat → Int32)) (mo : (Nat → Int32)) (gm : Int32) (gs : Int32) (ga : Int32) (gg : Int32) (gb : Int32) (gu : Int32) (gh : Int32) (gk : Int32) (gl : Int32) (gn : Int32) (Q : Int32 → (Nat → Int32) → (Nat → Int32) → Int32 → Prop) (below : List Frame) (args : Array Value) (s : State) : State → Prop := MQ below (QC_X6_set D A ad cA my mt mw ml mo gm gs ga gg gb gu gh gk gl gn Q) args s 0 0 A
def B_X6_set_0  (Q : Int32 → (Nat → Int32) → (Nat → Int32) → Int32 → Prop)  (v1 : Int32) (ms : (Nat → Int32)) (mb : (Nat → Int32)) (gt : Int32) : Prop := (F_X6_in v1 (1 : Int32) (9 : Int32) (fun r_1 => ((r_1 = 0 → (Q (-2 : Int32) ms mb gt)) ∧ (¬ r_1 = 0 → (F_X6_record ms mb gt (fun mb_3 gt_4 => (vp_in (54 : Int32) 106 ∧ (vp_in (54 : Int32) 106 ∧ (Q (ms (54 : Int32).toNatClampNeg) (upd ms (54 : Int32).toNatClampNeg v1) mb_3 gt_4)))))))))
def F_X6_set (v1 : Int32)  (ms : (Nat → Int32)) (mb : (Nat → Int32)) (gt : Int32) (Q : Int32 → (Nat → Int32) → (Nat → Int32) → Int32 → Prop) : Prop := B_X6_set_0 Q  v1 ms mb gt
theorem lkX6_set_7 : Cond.fieldLink RX6 7 (TX6 0).1 (TX6 0).2.1 (TX6 0).2.2.1 ∈ wsX6_set := by decide +kernel
theorem inX6_set_6 : ∀ q ∈ u_ws RX6 TX6 18, q ∈ wsX6_set := by decide +kernel
set_option maxHeartbeats 4000000 in
set_option maxRecDepth 100000 in
theorem t_B_X6_set_0  {Q : Int32 → (Nat → Int32) → (Nat → Int32) → Int32 → Prop} (C : CxX p s m args c D (tysX cA) RX6 cX6_set 3 wsX6_set) (hrt9 : meth.sig.returnType = (some .int)) (hlk : meth.locks = false) (v1 : Int32) (ms : (Nat → Int32)) (mb : (Nat → Int32)) (gt : Int32)  (h : B_X6_set_0  Q  v1 ms mb gt) : GoX p l e rmX6_set s m args below meth c D A 3 0 0 (QP_X6_set D A ad cA my mt mw ml mo gm gs ga gg gb gu gh gk gl gn Q below args s) 0 [(0, .ref (ad 0)), (1, .int v1)] [] (WM ad cA ms mb my mt mw ml mo gm gs ga gg gb gu gh gk gl gn gt) := by
  replace h : (F_X6_in v1 (1 : Int32) (9 : Int32) (fun r_1 => ((r_1 = 0 → (Q (-2 : Int32) ms mb gt)) ∧ (¬ r_1 = 0 → (F_X6_record ms mb gt (fun mb_3 gt_4 => (vp_in (54 : Int32) 106 ∧ (vp_in (54 : Int32) 106 ∧ (Q (ms (54 : Int32).toNatClampNeg) (upd ms (54 : Int32).toNatClampNeg v1) mb_3 gt_4))))))))) := h
  refine g_iload_n C 1 dX6_set_0 rfl rfl ?_
  refine g_iconst C (1 : Int32) dX6_set_1 (by decide) ?_
  refine g_bipush C (9 : Int32) dX6_set_2 (by decide) ?_
  refine k_X6_in C gX6_set_X6_in ⟨Nat.le_of_ble_eq_true rfl, Nat.le_of_ble_eq_true rfl⟩ (Nat.le_of_ble_eq_true rfl) dX6_set_4  h (fun r_1 h => ?_)
  refine g_if_ne C 13 dX6_set_7 (by decide) (fun c_2 => ?_) (fun c_2 => ?_)
  · replace h := h.2 c_2
    refine g_aload_n C 0 dX6_set_13 rfl rfl ?_
    refine k_X6_record C gX6_set_X6_record ⟨Nat.le_of_ble_eq_true rfl, Nat.le_of_ble_eq_true rfl⟩ (Nat.le_of_ble_eq_true rfl) dX6_set_14  h (fun mb_3 gt_4 h => ?_)
    refine g_aload_n C 0 dX6_set_17 rfl rfl ?_
    refine g_get C inX6_set_6 0 WMg0 rfl 0 (by decide) lkX6_set_7 rfl dX6_set_18 ?_
    refine g_bipush C (54 : Int32) dX6_set_21 (by decide) ?_
    refine g_iald C 1 1 WMg1 rfl h.1 dX6_set_23 ?_
    replace h := h.2
    refine g_istore_n C (lv2 := [(2, .int (ms (54 : Int32).toNatClampNeg)), (0, .ref (ad 0)), (1, .int v1)]) dX6_set_24 rfl (by decide) rfl ?_
    refine g_aload_n C 1 dX6_set_25 rfl rfl ?_
    refine g_get C inX6_set_6 0 WMg0 rfl 0 (by decide) lkX6_set_7 rfl dX6_set_26 ?_
    refine g_bipush C (54 : Int32) dX6_set_29 (by decide) ?_
    refine g_iload_n C 2 dX6_set_31 rfl rfl ?_
    refine g_iast C 1 1 WMg1 rfl h.1 WMs_ms dX6_set_32 ?_
    replace h := h.2
    refine g_iload_n C 0 dX6_set_33 rfl rfl ?_
    exact g_iret C hrt9 hlk (u := ((upd ms (54 : Int32).toNatClampNeg v1), mb_3, gt_4)) rfl h dX6_set_34
  · replace h := h.1 c_2
    refine g_bipush C (-2 : Int32) dX6_set_10 (by decide) ?_
    exact g_iret C hrt9 hlk (u := (ms, mb, gt)) rfl h dX6_set_12
theorem c_X6_set (l : Launch) (D : va_G) (A : Nat → Prop) (ad : Nat → Nat) (cA : Nat → ClassId) (v1 : Int32) {ms : (Nat → Int32)} {mb : (Nat → Int32)} {my : (Nat → Int32)} {mt : (Nat → Int32)} {mw : (Nat → Int32)} {ml : (Nat → Int32)} {mo : (Nat → Int32)} {gm : Int32} {gs : Int32} {ga : Int32} {gg : Int32} {gb : Int32} {gu : Int32} {gh : Int32} {gk : Int32} {gl : Int32} {gn : Int32} {gt : Int32}  (Q : Int32 → (Nat → Int32) → (Nat → Int32) → Int32 → Prop) (h : F_X6_set v1 ms mb gt Q) : Met l yX6_set wsX6_set rmX6_set (va_Pc [.ref (ad 0), .int v1] (OKX D (tysX cA) (WM ad cA ms mb my mt mw ml mo gm gs ga gg gb gu gh gk gl gn gt) A)) (QC_X6_set D A ad cA my mt mw ml mo gm gs ga gg gb gu gh gk gl gn Q) 0 0 A :=
  g_met (own := RX6) (by decide) rfl rfl (Nat.le_of_ble_eq_true rfl) (fun p e s m below meth c C hrt9 hlk _ => g_sub [0, 1] rfl (t_B_X6_set_0 C hrt9 hlk v1 ms mb gt  h))
theorem k_X6_set {ws : List Cond} {own : String} {cc : ByteArray} {nL pc index : Nat} {lv : List (Nat × Value)} {st : List Value} {Q : State → Prop} {R : Room} {K : Int32 → (Nat → Int32) → (Nat → Int32) → Int32 → Prop} {v1 : Int32} (C : CxX p s m args c D (tysX cA) own cc nL ws) (hT : GoodIn ws (wsV own index RX6 yX6_set wsX6_set)) (hR : rmX6_set.frames + 1 ≤ R.frames ∧ 8 + (3 + 11) + rmX6_set.locals ≤ R.locals) (hcat : (st.map fun v => v.category).sum ≤ 8) (hdg : decode cc pc = .ok (.invokevirtual index, 3))  (h : F_X6_set v1 ms mb gt K) (kk : ∀ (r : Int32) (msq : (Nat → Int32)) (mbq : (Nat → Int32)) (gtq : Int32), K r msq mbq gtq → GoX p l e R s m args below meth c D A nL 0 0 Q (pc + 3) lv (.int r :: st) (WM ad cA msq mbq my mt mw ml mo gm gs ga gg gb gu gh gk gl gn gtq)) : GoX p l e R s m args below meth c D A nL 0 0 Q pc lv (.int v1 :: .ref (ad 0) :: st) (WM ad cA ms mb my mt mw ml mo gm gs ga gg gb gu gh gk gl gn gt) :=
  g_callVi C (As := [.int v1]) 1 (c_X6_set l D A ad cA v1  K h) hT rfl rfl rfl (by decide +kernel) hR 0 WMg0 rfl rfl rfl hcat hdg (fun r u hu => kk r u.1 u.2.1 u.2.2 hu)
/-! X6_saysWord -/
abbrev rmX6_saysWord : Room := { frames := 0, cells := 0, slots := 0, locals := 0 }
abbrev QC_X6_saysWord (D : va_G) (A : Nat → Prop) (ad : Nat → Nat) (cA : Nat → ClassId) (ms : (Nat → Int32)) (mb : (Nat → Int32)) (my : (Nat → Int32)) (mt : (Nat → Int32)) (mw : (Nat → Int32)) (ml : (Nat → Int32)) (mo : (Nat → Int32)) (gm : Int32) (gs : Int32) (ga : Int32) (gg : Int32) (gb : Int32) (gu : Int32) (gh : Int32) (gk : Int32) (gl : Int32) (gn : Int32) (gt : Int32) (Q : Int32 → Prop) : Array Value → State → Outcome → State → Prop := va_Qi (fun (r : Int32) (u : Unit) => Q r ) (fun u t => OKX D (tysX cA) ((fun u : Unit => WM ad cA ms mb my mt mw ml mo gm gs ga gg gb gu gh gk gl gn gt) u) A t) A
abbrev QP_X6_saysWord (D : va_G) (A : Nat → Prop) (ad : Nat → Nat) (cA : Nat → ClassId) (ms : (Nat → Int32)) (mb : (Nat → Int32)) (my : (Nat → Int32)) (mt : (Nat → Int32)) (mw : (Nat → Int32)) (ml : (Nat → Int32)) (mo : (Nat → Int32)) (gm : Int32) (gs : Int32) (ga : Int32) (gg : Int32) (gb : Int32) (gu : Int32) (gh : Int32) (gk : Int32) (gl : Int32) (gn : Int32) (gt : Int32) (Q : Int32 → Prop) (below : List Frame) (args : Array Value) (s : State) : State → Prop := MQ below (QC_X6_saysWord D A ad cA ms mb my mt mw ml mo gm gs ga gg gb gu gh gk gl gn gt Q) args s 0 0 A
def B_X6_saysWord_31 (kh5 : Int32 → Int32 → Int32 → Int32 → Prop) (Q : Int32 → Prop) (my : (Nat → Int32)) (v1 : Int32) (v2 : Int32) (v4 : Int32) (s0 : Int32)  : Prop := (kh5 v1 v2 s0 (v4 + (1 : Int32)))
def B_X6_saysWord_26 (kh5 : Int32 → Int32 → Int32 → Int32 → Prop) (Q : Int32 → Prop) (my : (Nat → Int32)) (v1 : Int32) (v2 : Int32) (v4 : Int32)  : Prop := (B_X6_saysWord_31 kh5 Q my v1 v2 v4 (1 : Int32))
noncomputable def L_X6_saysWord_5  (Q : Int32 → Prop) (my : (Nat → Int32)) (n9 : Nat) : Int32 → Int32 → Int32 → Int32 → Prop := Nat.rec (motive := fun _ => Int32 → Int32 → Int32 → Int32 → Prop) (fun _ _ _ _ => False) (fun _ kh5 => fun v1 v2 v3 v4 => ((v2 ≤ v4 → (isBo v3 ∧ (Q v3))) ∧ (¬ v2 ≤ v4 → ((v3 = 0 → (vp_in v4 20 ∧ (((my v4.toNatClampNeg) = v1 → (B_X6_saysWord_26 kh5 Q my v1 v2 v4)) ∧ (¬ (my v4.toNatClampNeg) = v1 → (B_X6_saysWord_31 kh5 Q my v1 v2 v4 (0 : Int32)))))) ∧ (¬ v3 = 0 → (B_X6_saysWord_26 kh5 Q my v1 v2 v4)))))) n9
def B_X6_saysWord_0  (Q : Int32 → Prop) (my : (Nat → Int32)) (v1 : Int32) (v2 : Int32)  : Prop := (∃ n9 : Nat, L_X6_saysWord_5  Q my n9 v1 v2 (0 : Int32) (0 : Int32))
def F_X6_saysWord (v1 : Int32) (v2 : Int32) (my : (Nat → Int32))  (Q : Int32 → Prop) : Prop := B_X6_saysWord_0 Q my v1 v2 
theorem lkX6_saysWord_16 : Cond.fieldLink RX6 16 (TX6 2).1 (TX6 2).2.1 (TX6 2).2.2.1 ∈ wsX6_saysWord := by decide +kernel
theorem inX6_saysWord_6 : ∀ q ∈ u_ws RX6 TX6 18, q ∈ wsX6_saysWord := by decide +kernel
set_option maxHeartbeats 4000000 in
set_option maxRecDepth 100000 in
theorem t_B_X6_saysWord_31 {kh5 : Int32 → Int32 → Int32 → Int32 → Prop} {Q : Int32 → Prop} (C : CxX p s m args c D (tysX cA) RX6 cX6_saysWord 5 wsX6_saysWord) (hrt9 : meth.sig.returnType = (some .boolean)) (hlk : meth.locks = false) (Hk5 : ∀ (v1q : Int32) (v2q : Int32) (v3q : Int32) (v4q : Int32)  , kh5 v1q v2q v3q v4q → GoX p l e rmX6_saysWord s m args below meth c D A 5 0 0 (QP_X6_saysWord D A ad cA ms mb my mt mw ml mo gm gs ga gg gb gu gh gk gl gn gt Q below args s) 5 [(0, .ref (ad 0)), (1, .int v1q), (2, .int v2q), (3, .int v3q), (4, .int v4q)] [] (WM ad cA ms mb my mt mw ml mo gm gs ga gg gb gu gh gk gl gn gt)) (v1 : Int32) (v2 : Int32) (v4 : Int32) (s0 : Int32)   (h : B_X6_saysWord_31 kh5 Q my v1 v2 v4 s0) : GoX p l e rmX6_saysWord s m args below meth c D A 5 0 0 (QP_X6_saysWord D A ad cA ms mb my mt mw ml mo gm gs ga gg gb gu gh gk gl gn gt Q below args s) 31 [(0, .ref (ad 0)), (1, .int v1), (2, .int v2), (4, .int v4)] [.int s0] (WM ad cA ms mb my mt mw ml mo gm gs ga gg gb gu gh gk gl gn gt) := by
  replace h : (kh5 v1 v2 s0 (v4 + (1 : Int32))) := h
  refine g_istore_n C (lv2 := [(3, .int s0), (0, .ref (ad 0)), (1, .int v1), (2, .int v2), (4, .int v4)]) dX6_saysWord_31 rfl (by decide) rfl ?_
  refine g_iinc C (v := (v4 + (1 : Int32))) (lv2 := [(4, .int (v4 + (1 : Int32))), (3, .int s0), (0, .ref (ad 0)), (1, .int v1), (2, .int v2)]) 4 dX6_saysWord_32 rfl rfl (by decide) rfl ?_
  refine g_goto C 5 dX6_saysWord_35 (by decide) ?_
  exact g_sub [2, 3, 4, 1, 0] rfl (Hk5 v1 v2 s0 (v4 + (1 : Int32))  h)
set_option maxHeartbeats 4000000 in
set_option maxRecDepth 100000 in
theorem t_B_X6_saysWord_26 {kh5 : Int32 → Int32 → Int32 → Int32 → Prop} {Q : Int32 → Prop} (C : CxX p s m args c D (tysX cA) RX6 cX6_saysWord 5 wsX6_saysWord) (hrt9 : meth.sig.returnType = (some .boolean)) (hlk : meth.locks = false) (Hk5 : ∀ (v1q : Int32) (v2q : Int32) (v3q : Int32) (v4q : Int32)  , kh5 v1q v2q v3q v4q → GoX p l e rmX6_saysWord s m args below meth c D A 5 0 0 (QP_X6_saysWord D A ad cA ms mb my mt mw ml mo gm gs ga gg gb gu gh gk gl gn gt Q below args s) 5 [(0, .ref (ad 0)), (1, .int v1q), (2, .int v2q), (3, .int v3q), (4, .int v4q)] [] (WM ad cA ms mb my mt mw ml mo gm gs ga gg gb gu gh gk gl gn gt)) (v1 : Int32) (v2 : Int32) (v4 : Int32)   (h : B_X6_saysWord_26 kh5 Q my v1 v2 v4) : GoX p l e rmX6_saysWord s m args below meth c D A 5 0 0 (QP_X6_saysWord D A ad cA ms mb my mt mw ml mo gm gs ga gg gb gu gh gk gl gn gt Q below args s) 26 [(0, .ref (ad 0)), (1, .int v1), (2, .int v2), (4, .int v4)] [] (WM ad cA ms mb my mt mw ml mo gm gs ga gg gb gu gh gk gl gn gt) := by
  replace h : (B_X6_saysWord_31 kh5 Q my v1 v2 v4 (1 : Int32)) := h
  refine g_iconst C (1 : Int32) dX6_saysWord_26 (by decide) ?_
  refine g_goto C 31 dX6_saysWord_27 (by decide) ?_
  exact g_sub [0, 1, 2, 3] rfl (t_B_X6_saysWord_31 C hrt9 hlk Hk5 v1 v2 v4 (1 : Int32)  h)
set_option maxHeartbeats 4000000 in
set_option maxRecDepth 100000 in
theorem t_L_X6_saysWord_5  {Q : Int32 → Prop} (C : CxX p s m args c D (tysX cA) RX6 cX6_saysWord 5 wsX6_saysWord) (hrt9 : meth.sig.returnType = (some .boolean)) (hlk : meth.locks = false) (m9 : Nat) : ∀ (v1 : Int32) (v2 : Int32) (v3 : Int32) (v4 : Int32)  , L_X6_saysWord_5  Q my m9 v1 v2 v3 v4 → GoX p l e rmX6_saysWord s m args below meth c D A 5 0 0 (QP_X6_saysWord D A ad cA ms mb my mt mw ml mo gm gs ga gg gb gu gh gk gl gn gt Q below args s) 5 [(0, .ref (ad 0)), (1, .int v1), (2, .int v2), (3, .int v3), (4, .int v4)] [] (WM ad cA ms mb my mt mw ml mo gm gs ga gg gb gu gh gk gl gn gt) := by
  induction m9 with
  | zero =>
    intro v1 v2 v3 v4 h
    exact False.elim h
  | succ m9 Hk5 =>
    intro v1 v2 v3 v4 h
    replace h : ((v2 ≤ v4 → (isBo v3 ∧ (Q v3))) ∧ (¬ v2 ≤ v4 → ((v3 = 0 → (vp_in v4 20 ∧ (((my v4.toNatClampNeg) = v1 → (B_X6_saysWord_26 (L_X6_saysWord_5  Q my m9) Q my v1 v2 v4)) ∧ (¬ (my v4.toNatClampNeg) = v1 → (B_X6_saysWord_31 (L_X6_saysWord_5  Q my m9) Q my v1 v2 v4 (0 : Int32)))))) ∧ (¬ v3 = 0 → (B_X6_saysWord_26 (L_X6_saysWord_5  Q my m9) Q my v1 v2 v4))))) := h
    refine g_iload C 4 dX6_saysWord_5 rfl ?_
    refine g_iload_n C 2 dX6_saysWord_7 rfl rfl ?_
    refine g_icmp_ge C 38 dX6_saysWord_8 (by decide) (fun c_1 => ?_) (fun c_1 => ?_)
    · replace h := h.1 c_1
      refine g_iload_n C 3 dX6_saysWord_38 rfl rfl ?_
      exact g_zret C hrt9 hlk h.1.n (u := ()) rfl h.2 dX6_saysWord_39
    · replace h := h.2 c_1
      refine g_iload_n C 3 dX6_saysWord_11 rfl rfl ?_
      refine g_if_ne C 26 dX6_saysWord_12 (by decide) (fun c_2 => ?_) (fun c_2 => ?_)
      · replace h := h.2 c_2
        exact g_sub [0, 1, 2, 4] rfl (t_B_X6_saysWord_26 C hrt9 hlk Hk5 v1 v2 v4  h)
      · replace h := h.1 c_2
        refine g_aload_n C 0 dX6_saysWord_15 rfl rfl ?_
        refine g_get C inX6_saysWord_6 0 WMg0 rfl 2 (by decide) lkX6_saysWord_16 rfl dX6_saysWord_16 ?_
        refine g_iload C 4 dX6_saysWord_19 rfl ?_
        refine g_cald C 3 0 WMg3 rfl h.1 dX6_saysWord_21 ?_
        replace h := h.2
        refine g_iload_n C 1 dX6_saysWord_22 rfl rfl ?_
        refine g_icmp_ne C 30 dX6_saysWord_23 (by decide) (fun c_3 => ?_) (fun c_3 => ?_)
        · replace h := h.2 c_3
          refine g_iconst C (0 : Int32) dX6_saysWord_30 (by decide) ?_
          exact g_sub [0, 1, 2, 4] rfl (t_B_X6_saysWord_31 C hrt9 hlk Hk5 v1 v2 v4 (0 : Int32)  h)
        · replace h := h.1 c_3
          exact g_sub [0, 1, 2, 4] rfl (t_B_X6_saysWord_26 C hrt9 hlk Hk5 v1 v2 v4  h)
set_option maxHeartbeats 4000000 in
set_option maxRecDepth 100000 in
theorem t_B_X6_saysWord_0  {Q : Int32 → Prop} (C : CxX p s m args c D (tysX cA) RX6 cX6_saysWord 5 wsX6_saysWord) (hrt9 : meth.sig.returnType = (some .boolean)) (hlk : meth.locks = false) (v1 : Int32) (v2 : Int32)   (h : B_X6_saysWord_0  Q my v1 v2) : GoX p l e rmX6_saysWord s m args below meth c D A 5 0 0 (QP_X6_saysWord D A ad cA ms mb my mt mw ml mo gm gs ga gg gb gu gh gk gl gn gt Q below args s) 0 [(0, .ref (ad 0)), (1, .int v1), (2, .int v2)] [] (WM ad cA ms mb my mt mw ml mo gm gs ga gg gb gu gh gk gl gn gt) := by
  replace h : (∃ n9 : Nat, L_X6_saysWord_5  Q my n9 v1 v2 (0 : Int32) (0 : Int32)) := h
  refine g_iconst C (0 : Int32) dX6_saysWord_0 (by decide) ?_
  refine g_istore_n C (lv2 := [(3, .int (0 : Int32)), (0, .ref (ad 0)), (1, .int v1), (2, .int v2)]) dX6_saysWord_1 rfl (by decide) rfl ?_
  refine g_iconst C (0 : Int32) dX6_saysWord_2 (by decide) ?_
  refine g_istore C (lv2 := [(4, .int (0 : Int32)), (3, .int (0 : Int32)), (0, .ref (ad 0)), (1, .int v1), (2, .int v2)]) dX6_saysWord_3 (by decide) rfl ?_
  obtain ⟨n9, h⟩ := h
  exact g_sub [2, 3, 4, 1, 0] rfl (t_L_X6_saysWord_5 C hrt9 hlk  n9 v1 v2 (0 : Int32) (0 : Int32)  h)
theorem c_X6_saysWord (l : Launch) (D : va_G) (A : Nat → Prop) (ad : Nat → Nat) (cA : Nat → ClassId) (v1 : Int32) (v2 : Int32) {ms : (Nat → Int32)} {mb : (Nat → Int32)} {my : (Nat → Int32)} {mt : (Nat → Int32)} {mw : (Nat → Int32)} {ml : (Nat → Int32)} {mo : (Nat → Int32)} {gm : Int32} {gs : Int32} {ga : Int32} {gg : Int32} {gb : Int32} {gu : Int32} {gh : Int32} {gk : Int32} {gl : Int32} {gn : Int32} {gt : Int32}  (Q : Int32 → Prop) (h : F_X6_saysWord v1 v2 my Q) : Met l yX6_saysWord wsX6_saysWord rmX6_saysWord (va_Pc [.ref (ad 0), .int v1, .int v2] (OKX D (tysX cA) (WM ad cA ms mb my mt mw ml mo gm gs ga gg gb gu gh gk gl gn gt) A)) (QC_X6_saysWord D A ad cA ms mb my mt mw ml mo gm gs ga gg gb gu gh gk gl gn gt Q) 0 0 A :=
  g_met (own := RX6) (by decide) rfl rfl (Nat.le_of_ble_eq_true rfl) (fun p e s m below meth c C hrt9 hlk _ => g_sub [0, 1, 2] rfl (t_B_X6_saysWord_0 C hrt9 hlk v1 v2   h))
theorem k_X6_saysWord {ws : List Cond} {own : String} {cc : ByteArray} {nL pc index : Nat} {lv : List (Nat × Value)} {st : List Value} {Q : State → Prop} {R : Room} {K : Int32 → Prop} {v1 : Int32} {v2 : Int32} (C : CxX p s m args c D (tysX cA) own cc nL ws) (hT : GoodIn ws (wsV own index RX6 yX6_saysWord wsX6_saysWord)) (hR : rmX6_saysWord.frames + 1 ≤ R.frames ∧ 8 + (5 + 11) + rmX6_saysWord.locals ≤ R.locals) (hcat : (st.map fun v => v.category).sum ≤ 8) (hdg : decode cc pc = .ok (.invokevirtual index, 3))  (h : F_X6_saysWord v1 v2 my K) (kk : ∀ (r : Int32) , K r → GoX p l e R s m args below meth c D A nL 0 0 Q (pc + 3) lv (.int r :: st) (WM ad cA ms mb my mt mw ml mo gm gs ga gg gb gu gh gk gl gn gt)) : GoX p l e R s m args below meth c D A nL 0 0 Q pc lv (.int v2 :: .int v1 :: .ref (ad 0) :: st) (WM ad cA ms mb my mt mw ml mo gm gs ga gg gb gu gh gk gl gn gt) :=
  g_callVi C (As := [.int v1, .int v2]) 2 (c_X6_saysWord l D A ad cA v1 v2  K h) hT rfl rfl rfl (by decide +kernel) hR 0 WMg0 rfl rfl rfl hcat hdg (fun r u hu => kk r  hu)
/-! X6_doubts -/
abbrev rmX6_doubts : Room := { frames := 0, cells := 0, slots := 0, locals := 0 }
abbrev QC_X6_doubts (D : va_G) (A : Nat → Prop) (ad : Nat → Nat) (cA : Nat → ClassId) (mb : (Nat → Int32)) (my : (Nat → Int32)) (mt : (Nat → Int32)) (mw : (Nat → Int32)) (ml : (Nat → Int32)) (mo : (Nat → Int32)) (gm : Int32) (gs : Int32) (ga : Int32) (gg : Int32) (gb : Int32) (gu : Int32) (gh : Int32) (gk : Int32) (gl : Int32) (gn : Int32) (gt : Int32) (Q : Int32 → (Nat → Int32) → Prop) : Array Value → State → Outcome → State → Prop := va_Qi (fun (r : Int32) (u : (Nat → Int32)) => Q r u) (fun u t => OKX D (tysX cA) ((fun u : (Nat → Int32) => WM ad cA u mb my mt mw ml mo gm gs ga gg gb gu gh gk gl gn gt) u) A t) A
abbrev QP_X6_doubts (D : va_G) (A : Nat → Prop) (ad : Nat → Nat) (cA : Nat → ClassId) (mb : (Nat → Int32)) (my : (Nat → Int32)) (mt : (Nat → Int32)) (mw : (Nat → Int32)) (ml : (Nat → Int32)) (mo : (Nat → Int32)) (gm : Int32) (gs : Int32) (ga : Int32) (gg : Int32) (gb : Int32) (gu : Int32) (gh : Int32) (gk : Int32) (gl : Int32) (gn : Int32) (gt : Int32) (Q : Int32 → (Nat → Int32) → Prop) (below : List Frame) (args : Array Value) (s : State) : State → Prop := MQ below (QC_X6_doubts D A ad cA mb my mt mw ml mo gm gs ga gg gb gu gh gk gl gn gt Q) args s 0 0 A
def B_X6_doubts_0  (Q : Int32 → (Nat → Int32) → Prop)  (v1 : Int32) (v2 : Int32) (ms : (Nat → Int32)) : Prop := (vp_in (((9 : Int32) * v1) + v2) 106 ∧ (((ms (((9 : Int32) * v1) + v2).toNatClampNeg) = (1 : Int32) → (Q (0 : Int32) ms)) ∧ (¬ (ms (((9 : Int32) * v1) + v2).toNatClampNeg) = (1 : Int32) → (vp_in ((((9 : Int32) * v1) + (3 : Int32)) + v2) 106 ∧ (vp_in ((((9 : Int32) * v1) + (3 : Int32)) + v2) 106 ∧ (vp_in ((((9 : Int32) * v1) + (3 : Int32)) + v2) 106 ∧ (vp_in (54 : Int32) 106 ∧ ((((upd ms ((((9 : Int32) * v1) + (3 : Int32)) + v2).toNatClampNeg ((ms ((((9 : Int32) * v1) + (3 : Int32)) + v2).toNatClampNeg) + (1 : Int32))) (54 : Int32).toNatClampNeg) ≤ ((upd ms ((((9 : Int32) * v1) + (3 : Int32)) + v2).toNatClampNeg ((ms ((((9 : Int32) * v1) + (3 : Int32)) + v2).toNatClampNeg) + (1 : Int32))) ((((9 : Int32) * v1) + (3 : Int32)) + v2).toNatClampNeg) → (vp_in (((9 : Int32) * v1) + v2) 106 ∧ (vp_in ((((9 : Int32) * v1) + (3 : Int32)) + v2) 106 ∧ (Q (1 : Int32) (upd (upd (upd ms ((((9 : Int32) * v1) + (3 : Int32)) + v2).toNatClampNeg ((ms ((((9 : Int32) * v1) + (3 : Int32)) + v2).toNatClampNeg) + (1 : Int32))) (((9 : Int32) * v1) + v2).toNatClampNeg (1 : Int32)) ((((9 : Int32) * v1) + (3 : Int32)) + v2).toNatClampNeg (0 : Int32)))))) ∧ (¬ ((upd ms ((((9 : Int32) * v1) + (3 : Int32)) + v2).toNatClampNeg ((ms ((((9 : Int32) * v1) + (3 : Int32)) + v2).toNatClampNeg) + (1 : Int32))) (54 : Int32).toNatClampNeg) ≤ ((upd ms ((((9 : Int32) * v1) + (3 : Int32)) + v2).toNatClampNeg ((ms ((((9 : Int32) * v1) + (3 : Int32)) + v2).toNatClampNeg) + (1 : Int32))) ((((9 : Int32) * v1) + (3 : Int32)) + v2).toNatClampNeg) → (Q (0 : Int32) (upd ms ((((9 : Int32) * v1) + (3 : Int32)) + v2).toNatClampNeg ((ms ((((9 : Int32) * v1) + (3 : Int32)) + v2).toNatClampNeg) + (1 : Int32)))))))))))))
def F_X6_doubts (v1 : Int32) (v2 : Int32)  (ms : (Nat → Int32)) (Q : Int32 → (Nat → Int32) → Prop) : Prop := B_X6_doubts_0 Q  v1 v2 ms
theorem lkX6_doubts_7 : Cond.fieldLink RX6 7 (TX6 0).1 (TX6 0).2.1 (TX6 0).2.2.1 ∈ wsX6_doubts := by decide +kernel
theorem inX6_doubts_6 : ∀ q ∈ u_ws RX6 TX6 18, q ∈ wsX6_doubts := by decide +kernel
set_option maxHeartbeats 4000000 in
set_option maxRecDepth 100000 in
theorem t_B_X6_doubts_0  {Q : Int32 → (Nat → Int32) → Prop} (C : CxX p s m args c D (tysX cA) RX6 cX6_doubts 4 wsX6_doubts) (hrt9 : meth.sig.returnType = (some .int)) (hlk : meth.locks = false) (v1 : Int32) (v2 : Int32) (ms : (Nat → Int32))  (h : B_X6_doubts_0  Q  v1 v2 ms) : GoX p l e rmX6_doubts s m args below meth c D A 4 0 0 (QP_X6_doubts D A ad cA mb my mt mw ml mo gm gs ga gg gb gu gh gk gl gn gt Q below args s) 0 [(0, .ref (ad 0)), (1, .int v1), (2, .int v2)] [] (WM ad cA ms mb my mt mw ml mo gm gs ga gg gb gu gh gk gl gn gt) := by
  replace h : (vp_in (((9 : Int32) * v1) + v2) 106 ∧ (((ms (((9 : Int32) * v1) + v2).toNatClampNeg) = (1 : Int32) → (Q (0 : Int32) ms)) ∧ (¬ (ms (((9 : Int32) * v1) + v2).toNatClampNeg) = (1 : Int32) → (vp_in ((((9 : Int32) * v1) + (3 : Int32)) + v2) 106 ∧ (vp_in ((((9 : Int32) * v1) + (3 : Int32)) + v2) 106 ∧ (vp_in ((((9 : Int32) * v1) + (3 : Int32)) + v2) 106 ∧ (vp_in (54 : Int32) 106 ∧ ((((upd ms ((((9 : Int32) * v1) + (3 : Int32)) + v2).toNatClampNeg ((ms ((((9 : Int32) * v1) + (3 : Int32)) + v2).toNatClampNeg) + (1 : Int32))) (54 : Int32).toNatClampNeg) ≤ ((upd ms ((((9 : Int32) * v1) + (3 : Int32)) + v2).toNatClampNeg ((ms ((((9 : Int32) * v1) + (3 : Int32)) + v2).toNatClampNeg) + (1 : Int32))) ((((9 : Int32) * v1) + (3 : Int32)) + v2).toNatClampNeg) → (vp_in (((9 : Int32) * v1) + v2) 106 ∧ (vp_in ((((9 : Int32) * v1) + (3 : Int32)) + v2) 106 ∧ (Q (1 : Int32) (upd (upd (upd ms ((((9 : Int32) * v1) + (3 : Int32)) + v2).toNatClampNeg ((ms ((((9 : Int32) * v1) + (3 : Int32)) + v2).toNatClampNeg) + (1 : Int32))) (((9 : Int32) * v1) + v2).toNatClampNeg (1 : Int32)) ((((9 : Int32) * v1) + (3 : Int32)) + v2).toNatClampNeg (0 : Int32)))))) ∧ (¬ ((upd ms ((((9 : Int32) * v1) + (3 : Int32)) + v2).toNatClampNeg ((ms ((((9 : Int32) * v1) + (3 : Int32)) + v2).toNatClampNeg) + (1 : Int32))) (54 : Int32).toNatClampNeg) ≤ ((upd ms ((((9 : Int32) * v1) + (3 : Int32)) + v2).toNatClampNeg ((ms ((((9 : Int32) * v1) + (3 : Int32)) + v2).toNatClampNeg) + (1 : Int32))) ((((9 : Int32) * v1) + (3 : Int32)) + v2).toNatClampNeg) → (Q (0 : Int32) (upd ms ((((9 : Int32) * v1) + (3 : Int32)) + v2).toNatClampNeg ((ms ((((9 : Int32) * v1) + (3 : Int32)) + v2).toNatClampNeg) + (1 : Int32))))))))))))) := h
  refine g_bipush C (9 : Int32) dX6_doubts_0 (by decide) ?_
  refine g_iload_n C 1 dX6_doubts_2 rfl rfl ?_
  refine g_imul C dX6_doubts_3 ?_
  refine g_istore_n C (lv2 := [(3, .int ((9 : Int32) * v1)), (0, .ref (ad 0)), (1, .int v1), (2, .int v2)]) dX6_doubts_4 rfl (by decide) rfl ?_
  refine g_aload_n C 1 dX6_doubts_5 rfl rfl ?_
  refine g_get C inX6_doubts_6 0 WMg0 rfl 0 (by decide) lkX6_doubts_7 rfl dX6_doubts_6 ?_
  refine g_iload_n C 0 dX6_doubts_9 rfl rfl ?_
  refine g_iload_n C 3 dX6_doubts_10 rfl rfl ?_
  refine g_iadd C dX6_doubts_11 ?_
  refine g_iald C 1 1 WMg1 rfl h.1 dX6_doubts_12 ?_
  replace h := h.2
  refine g_iconst C (1 : Int32) dX6_doubts_13 (by decide) ?_
  refine g_icmp_ne C 19 dX6_doubts_14 (by decide) (fun c_1 => ?_) (fun c_1 => ?_)
  · replace h := h.2 c_1
    refine g_aload_n C 1 dX6_doubts_19 rfl rfl ?_
    refine g_get C inX6_doubts_6 0 WMg0 rfl 0 (by decide) lkX6_doubts_7 rfl dX6_doubts_20 ?_
    refine g_iload_n C 0 dX6_doubts_23 rfl rfl ?_
    refine g_iconst C (3 : Int32) dX6_doubts_24 (by decide) ?_
    refine g_iadd C dX6_doubts_25 ?_
    refine g_iload_n C 3 dX6_doubts_26 rfl rfl ?_
    refine g_iadd C dX6_doubts_27 ?_
    refine g_dup2 C dX6_doubts_28 rfl rfl ?_
    refine g_iald C 1 1 WMg1 rfl h.1 dX6_doubts_29 ?_
    replace h := h.2
    refine g_iconst C (1 : Int32) dX6_doubts_30 (by decide) ?_
    refine g_iadd C dX6_doubts_31 ?_
    refine g_iast C 1 1 WMg1 rfl h.1 WMs_ms dX6_doubts_32 ?_
    replace h := h.2
    refine g_aload_n C 1 dX6_doubts_33 rfl rfl ?_
    refine g_get C inX6_doubts_6 0 WMg0 rfl 0 (by decide) lkX6_doubts_7 rfl dX6_doubts_34 ?_
    refine g_iload_n C 0 dX6_doubts_37 rfl rfl ?_
    refine g_iconst C (3 : Int32) dX6_doubts_38 (by decide) ?_
    refine g_iadd C dX6_doubts_39 ?_
    refine g_iload_n C 3 dX6_doubts_40 rfl rfl ?_
    refine g_iadd C dX6_doubts_41 ?_
    refine g_iald C 1 1 WMg1 rfl h.1 dX6_doubts_42 ?_
    replace h := h.2
    refine g_aload_n C 1 dX6_doubts_43 rfl rfl ?_
    refine g_get C inX6_doubts_6 0 WMg0 rfl 0 (by decide) lkX6_doubts_7 rfl dX6_doubts_44 ?_
    refine g_bipush C (54 : Int32) dX6_doubts_47 (by decide) ?_
    refine g_iald C 1 1 WMg1 rfl h.1 dX6_doubts_49 ?_
    replace h := h.2
    refine g_icmp_ge C 55 dX6_doubts_50 (by decide) (fun c_2 => ?_) (fun c_2 => ?_)
    · replace h := h.1 c_2
      refine g_aload_n C 1 dX6_doubts_55 rfl rfl ?_
      refine g_get C inX6_doubts_6 0 WMg0 rfl 0 (by decide) lkX6_doubts_7 rfl dX6_doubts_56 ?_
      refine g_iload_n C 0 dX6_doubts_59 rfl rfl ?_
      refine g_iload_n C 3 dX6_doubts_60 rfl rfl ?_
      refine g_iadd C dX6_doubts_61 ?_
      refine g_iconst C (1 : Int32) dX6_doubts_62 (by decide) ?_
      refine g_iast C 1 1 WMg1 rfl h.1 WMs_ms dX6_doubts_63 ?_
      replace h := h.2
      refine g_aload_n C 1 dX6_doubts_64 rfl rfl ?_
      refine g_get C inX6_doubts_6 0 WMg0 rfl 0 (by decide) lkX6_doubts_7 rfl dX6_doubts_65 ?_
      refine g_iload_n C 0 dX6_doubts_68 rfl rfl ?_
      refine g_iconst C (3 : Int32) dX6_doubts_69 (by decide) ?_
      refine g_iadd C dX6_doubts_70 ?_
      refine g_iload_n C 3 dX6_doubts_71 rfl rfl ?_
      refine g_iadd C dX6_doubts_72 ?_
      refine g_iconst C (0 : Int32) dX6_doubts_73 (by decide) ?_
      refine g_iast C 1 1 WMg1 rfl h.1 WMs_ms dX6_doubts_74 ?_
      replace h := h.2
      refine g_iconst C (1 : Int32) dX6_doubts_75 (by decide) ?_
      exact g_iret C hrt9 hlk (u := (upd (upd (upd ms ((((9 : Int32) * v1) + (3 : Int32)) + v2).toNatClampNeg ((ms ((((9 : Int32) * v1) + (3 : Int32)) + v2).toNatClampNeg) + (1 : Int32))) (((9 : Int32) * v1) + v2).toNatClampNeg (1 : Int32)) ((((9 : Int32) * v1) + (3 : Int32)) + v2).toNatClampNeg (0 : Int32))) rfl h dX6_doubts_76
    · replace h := h.2 c_2
      refine g_iconst C (0 : Int32) dX6_doubts_53 (by decide) ?_
      exact g_iret C hrt9 hlk (u := (upd ms ((((9 : Int32) * v1) + (3 : Int32)) + v2).toNatClampNeg ((ms ((((9 : Int32) * v1) + (3 : Int32)) + v2).toNatClampNeg) + (1 : Int32)))) rfl h dX6_doubts_54
  · replace h := h.1 c_1
    refine g_iconst C (0 : Int32) dX6_doubts_17 (by decide) ?_
    exact g_iret C hrt9 hlk (u := ms) rfl h dX6_doubts_18
theorem c_X6_doubts (l : Launch) (D : va_G) (A : Nat → Prop) (ad : Nat → Nat) (cA : Nat → ClassId) (v1 : Int32) (v2 : Int32) {ms : (Nat → Int32)} {mb : (Nat → Int32)} {my : (Nat → Int32)} {mt : (Nat → Int32)} {mw : (Nat → Int32)} {ml : (Nat → Int32)} {mo : (Nat → Int32)} {gm : Int32} {gs : Int32} {ga : Int32} {gg : Int32} {gb : Int32} {gu : Int32} {gh : Int32} {gk : Int32} {gl : Int32} {gn : Int32} {gt : Int32}  (Q : Int32 → (Nat → Int32) → Prop) (h : F_X6_doubts v1 v2 ms Q) : Met l yX6_doubts wsX6_doubts rmX6_doubts (va_Pc [.ref (ad 0), .int v1, .int v2] (OKX D (tysX cA) (WM ad cA ms mb my mt mw ml mo gm gs ga gg gb gu gh gk gl gn gt) A)) (QC_X6_doubts D A ad cA mb my mt mw ml mo gm gs ga gg gb gu gh gk gl gn gt Q) 0 0 A :=
  g_met (own := RX6) (by decide) rfl rfl (Nat.le_of_ble_eq_true rfl) (fun p e s m below meth c C hrt9 hlk _ => g_sub [0, 1, 2] rfl (t_B_X6_doubts_0 C hrt9 hlk v1 v2 ms  h))
theorem k_X6_doubts {ws : List Cond} {own : String} {cc : ByteArray} {nL pc index : Nat} {lv : List (Nat × Value)} {st : List Value} {Q : State → Prop} {R : Room} {K : Int32 → (Nat → Int32) → Prop} {v1 : Int32} {v2 : Int32} (C : CxX p s m args c D (tysX cA) own cc nL ws) (hT : GoodIn ws (wsV own index RX6 yX6_doubts wsX6_doubts)) (hR : rmX6_doubts.frames + 1 ≤ R.frames ∧ 8 + (4 + 11) + rmX6_doubts.locals ≤ R.locals) (hcat : (st.map fun v => v.category).sum ≤ 8) (hdg : decode cc pc = .ok (.invokevirtual index, 3))  (h : F_X6_doubts v1 v2 ms K) (kk : ∀ (r : Int32) (msq : (Nat → Int32)), K r msq → GoX p l e R s m args below meth c D A nL 0 0 Q (pc + 3) lv (.int r :: st) (WM ad cA msq mb my mt mw ml mo gm gs ga gg gb gu gh gk gl gn gt)) : GoX p l e R s m args below meth c D A nL 0 0 Q pc lv (.int v2 :: .int v1 :: .ref (ad 0) :: st) (WM ad cA ms mb my mt mw ml mo gm gs ga gg gb gu gh gk gl gn gt) :=
  g_callVi C (As := [.int v1, .int v2]) 2 (c_X6_doubts l D A ad cA v1 v2  K h) hT rfl rfl rfl (by decide +kernel) hR 0 WMg0 rfl rfl rfl hcat hdg (fun r u hu => kk r u hu)
/-! X6_logs -/
abbrev rmX6_logs : Room := { frames := 0, cells := 0, slots := 0, locals := 0 }
abbrev QC_X6_logs (D : va_G) (A : Nat → Prop) (ad : Nat → Nat) (cA : Nat → ClassId) (mb : (Nat → Int32)) (my : (Nat → Int32)) (mt : (Nat → Int32)) (mw : (Nat → Int32)) (ml : (Nat → Int32)) (mo : (Nat → Int32)) (gm : Int32) (gs : Int32) (ga : Int32) (gg : Int32) (gb : Int32) (gu : Int32) (gh : Int32) (gk : Int32) (gl : Int32) (gn : Int32) (gt : Int32) (Q : (Nat → Int32) → Prop) : Array Value → State → Outcome → State → Prop := va_Qv (fun u : (Nat → Int32) => Q u) (fun u t => OKX D (tysX cA) ((fun u : (Nat → Int32) => WM ad cA u mb my mt mw ml mo gm gs ga gg gb gu gh gk gl gn gt) u) A t) A
abbrev QP_X6_logs (D : va_G) (A : Nat → Prop) (ad : Nat → Nat) (cA : Nat → ClassId) (mb : (Nat → Int32)) (my : (Nat → Int32)) (mt : (Nat → Int32)) (mw : (Nat → Int32)) (ml : (Nat → Int32)) (mo : (Nat → Int32)) (gm : Int32) (gs : Int32) (ga : Int32) (gg : Int32) (gb : Int32) (gu : Int32) (gh : Int32) (gk : Int32) (gl : Int32) (gn : Int32) (gt : Int32) (Q : (Nat → Int32) → Prop) (below : List Frame) (args : Array Value) (s : State) : State → Prop := MQ below (QC_X6_logs D A ad cA mb my mt mw ml mo gm gs ga gg gb gu gh gk gl gn gt Q) args s 0 0 A
def B_X6_logs_127  (Q : (Nat → Int32) → Prop)  (s1 : Int32) (s2 : Int32) (ms : (Nat → Int32)) : Prop := (vp_in s1 106 ∧ (vp_in (55 : Int32) 106 ∧ (vp_in (55 : Int32) 106 ∧ (Q (upd (upd ms s1.toNatClampNeg s2) (55 : Int32).toNatClampNeg (((upd ms s1.toNatClampNeg s2) (55 : Int32).toNatClampNeg) + (1 : Int32)))))))
def B_X6_logs_56  (Q : (Nat → Int32) → Prop)  (v1 : Int32) (v2 : Int32) (v3 : Int32) (v4 : Int32) (v5 : Int32) (ms : (Nat → Int32)) : Prop := (vp_in (55 : Int32) 106 ∧ (vp_in ((56 : Int32) + ((5 : Int32) * (ms (55 : Int32).toNatClampNeg))) 106 ∧ (vp_in (((56 : Int32) + ((5 : Int32) * (ms (55 : Int32).toNatClampNeg))) + (1 : Int32)) 106 ∧ (vp_in (((56 : Int32) + ((5 : Int32) * (ms (55 : Int32).toNatClampNeg))) + (2 : Int32)) 106 ∧ (vp_in (((56 : Int32) + ((5 : Int32) * (ms (55 : Int32).toNatClampNeg))) + (3 : Int32)) 106 ∧ ((v5 ≤ 0 → (B_X6_logs_127  Q  (((56 : Int32) + ((5 : Int32) * (ms (55 : Int32).toNatClampNeg))) + (4 : Int32)) (0 : Int32) (upd (upd (upd (upd ms ((56 : Int32) + ((5 : Int32) * (ms (55 : Int32).toNatClampNeg))).toNatClampNeg v1) (((56 : Int32) + ((5 : Int32) * (ms (55 : Int32).toNatClampNeg))) + (1 : Int32)).toNatClampNeg v2) (((56 : Int32) + ((5 : Int32) * (ms (55 : Int32).toNatClampNeg))) + (2 : Int32)).toNatClampNeg v3) (((56 : Int32) + ((5 : Int32) * (ms (55 : Int32).toNatClampNeg))) + (3 : Int32)).toNatClampNeg v4))) ∧ (¬ v5 ≤ 0 → (B_X6_logs_127  Q  (((56 : Int32) + ((5 : Int32) * (ms (55 : Int32).toNatClampNeg))) + (4 : Int32)) (1 : Int32) (upd (upd (upd (upd ms ((56 : Int32) + ((5 : Int32) * (ms (55 : Int32).toNatClampNeg))).toNatClampNeg v1) (((56 : Int32) + ((5 : Int32) * (ms (55 : Int32).toNatClampNeg))) + (1 : Int32)).toNatClampNeg v2) (((56 : Int32) + ((5 : Int32) * (ms (55 : Int32).toNatClampNeg))) + (2 : Int32)).toNatClampNeg v3) (((56 : Int32) + ((5 : Int32) * (ms (55 : Int32).toNatClampNeg))) + (3 : Int32)).toNatClampNeg v4)))))))))
noncomputable def L_X6_logs_16  (Q : (Nat → Int32) → Prop)  (n9 : Nat) : Int32 → Int32 → Int32 → Int32 → Int32 → Int32 → (Nat → Int32) → Prop := Nat.rec (motive := fun _ => Int32 → Int32 → Int32 → Int32 → Int32 → Int32 → (Nat → Int32) → Prop) (fun _ _ _ _ _ _ _ => False) (fun _ kh16 => fun v1 v2 v3 v4 v5 v6 ms => (((101 : Int32) ≤ v6 → (vp_in (55 : Int32) 106 ∧ (vp_in (55 : Int32) 106 ∧ (B_X6_logs_56  Q  v1 v2 v3 v4 v5 (upd ms (55 : Int32).toNatClampNeg ((ms (55 : Int32).toNatClampNeg) - (1 : Int32))))))) ∧ (¬ (101 : Int32) ≤ v6 → (vp_in (v6 + (5 : Int32)) 106 ∧ (vp_in v6 106 ∧ (kh16 v1 v2 v3 v4 v5 (v6 + (1 : Int32)) (upd ms v6.toNatClampNeg (ms (v6 + (5 : Int32)).toNatClampNeg)))))))) n9
def B_X6_logs_0  (Q : (Nat → Int32) → Prop)  (v1 : Int32) (v2 : Int32) (v3 : Int32) (v4 : Int32) (v5 : Int32) (ms : (Nat → Int32)) : Prop := (vp_in (55 : Int32) 106 ∧ (((ms (55 : Int32).toNatClampNeg) = (10 : Int32) → (∃ n9 : Nat, L_X6_logs_16  Q  n9 v1 v2 v3 v4 v5 (56 : Int32) ms)) ∧ (¬ (ms (55 : Int32).toNatClampNeg) = (10 : Int32) → (B_X6_logs_56  Q  v1 v2 v3 v4 v5 ms))))
def F_X6_logs (v1 : Int32) (v2 : Int32) (v3 : Int32) (v4 : Int32) (v5 : Int32)  (ms : (Nat → Int32)) (Q : (Nat → Int32) → Prop) : Prop := B_X6_logs_0 Q  v1 v2 v3 v4 v5 ms
theorem lkX6_logs_7 : Cond.fieldLink RX6 7 (TX6 0).1 (TX6 0).2.1 (TX6 0).2.2.1 ∈ wsX6_logs := by decide +kernel
theorem inX6_logs_6 : ∀ q ∈ u_ws RX6 TX6 18, q ∈ wsX6_logs := by decide +kernel
set_option maxHeartbeats 4000000 in
set_option maxRecDepth 100000 in
theorem t_B_X6_logs_127  {Q : (Nat → Int32) → Prop} (C : CxX p s m args c D (tysX cA) RX6 cX6_logs 7 wsX6_logs) (hrt9 : meth.sig.returnType = none) (hlk : meth.locks = false) (s1 : Int32) (s2 : Int32) (ms : (Nat → Int32))  (h : B_X6_logs_127  Q  s1 s2 ms) : GoX p l e rmX6_logs s m args below meth c D A 7 0 0 (QP_X6_logs D A ad cA mb my mt mw ml mo gm gs ga gg gb gu gh gk gl gn gt Q below args s) 127 [(0, .ref (ad 0))] [.int s2, .int s1, .ref (ad 1)] (WM ad cA ms mb my mt mw ml mo gm gs ga gg gb gu gh gk gl gn gt) := by
  replace h : (vp_in s1 106 ∧ (vp_in (55 : Int32) 106 ∧ (vp_in (55 : Int32) 106 ∧ (Q (upd (upd ms s1.toNatClampNeg s2) (55 : Int32).toNatClampNeg (((upd ms s1.toNatClampNeg s2) (55 : Int32).toNatClampNeg) + (1 : Int32))))))) := h
  refine g_iast C 1 1 WMg1 rfl h.1 WMs_ms dX6_logs_127 ?_
  replace h := h.2
  refine g_aload_n C 0 dX6_logs_128 rfl rfl ?_
  refine g_get C inX6_logs_6 0 WMg0 rfl 0 (by decide) lkX6_logs_7 rfl dX6_logs_129 ?_
  refine g_bipush C (55 : Int32) dX6_logs_132 (by decide) ?_
  refine g_dup2 C dX6_logs_134 rfl rfl ?_
  refine g_iald C 1 1 WMg1 rfl h.1 dX6_logs_135 ?_
  replace h := h.2
  refine g_iconst C (1 : Int32) dX6_logs_136 (by decide) ?_
  refine g_iadd C dX6_logs_137 ?_
  refine g_iast C 1 1 WMg1 rfl h.1 WMs_ms dX6_logs_138 ?_
  replace h := h.2
  exact g_vret C hrt9 hlk (u := (upd (upd ms s1.toNatClampNeg s2) (55 : Int32).toNatClampNeg (((upd ms s1.toNatClampNeg s2) (55 : Int32).toNatClampNeg) + (1 : Int32)))) rfl h dX6_logs_139
set_option maxHeartbeats 4000000 in
set_option maxRecDepth 100000 in
theorem t_B_X6_logs_56  {Q : (Nat → Int32) → Prop} (C : CxX p s m args c D (tysX cA) RX6 cX6_logs 7 wsX6_logs) (hrt9 : meth.sig.returnType = none) (hlk : meth.locks = false) (v1 : Int32) (v2 : Int32) (v3 : Int32) (v4 : Int32) (v5 : Int32) (ms : (Nat → Int32))  (h : B_X6_logs_56  Q  v1 v2 v3 v4 v5 ms) : GoX p l e rmX6_logs s m args below meth c D A 7 0 0 (QP_X6_logs D A ad cA mb my mt mw ml mo gm gs ga gg gb gu gh gk gl gn gt Q below args s) 56 [(0, .ref (ad 0)), (1, .int v1), (2, .int v2), (3, .int v3), (4, .int v4), (5, .int v5)] [] (WM ad cA ms mb my mt mw ml mo gm gs ga gg gb gu gh gk gl gn gt) := by
  replace h : (vp_in (55 : Int32) 106 ∧ (vp_in ((56 : Int32) + ((5 : Int32) * (ms (55 : Int32).toNatClampNeg))) 106 ∧ (vp_in (((56 : Int32) + ((5 : Int32) * (ms (55 : Int32).toNatClampNeg))) + (1 : Int32)) 106 ∧ (vp_in (((56 : Int32) + ((5 : Int32) * (ms (55 : Int32).toNatClampNeg))) + (2 : Int32)) 106 ∧ (vp_in (((56 : Int32) + ((5 : Int32) * (ms (55 : Int32).toNatClampNeg))) + (3 : Int32)) 106 ∧ ((v5 ≤ 0 → (B_X6_logs_127  Q  (((56 : Int32) + ((5 : Int32) * (ms (55 : Int32).toNatClampNeg))) + (4 : Int32)) (0 : Int32) (upd (upd (upd (upd ms ((56 : Int32) + ((5 : Int32) * (ms (55 : Int32).toNatClampNeg))).toNatClampNeg v1) (((56 : Int32) + ((5 : Int32) * (ms (55 : Int32).toNatClampNeg))) + (1 : Int32)).toNatClampNeg v2) (((56 : Int32) + ((5 : Int32) * (ms (55 : Int32).toNatClampNeg))) + (2 : Int32)).toNatClampNeg v3) (((56 : Int32) + ((5 : Int32) * (ms (55 : Int32).toNatClampNeg))) + (3 : Int32)).toNatClampNeg v4))) ∧ (¬ v5 ≤ 0 → (B_X6_logs_127  Q  (((56 : Int32) + ((5 : Int32) * (ms (55 : Int32).toNatClampNeg))) + (4 : Int32)) (1 : Int32) (upd (upd (upd (upd ms ((56 : Int32) + ((5 : Int32) * (ms (55 : Int32).toNatClampNeg))).toNatClampNeg v1) (((56 : Int32) + ((5 : Int32) * (ms (55 : Int32).toNatClampNeg))) + (1 : Int32)).toNatClampNeg v2) (((56 : Int32) + ((5 : Int32) * (ms (55 : Int32).toNatClampNeg))) + (2 : Int32)).toNatClampNeg v3) (((56 : Int32) + ((5 : Int32) * (ms (55 : Int32).toNatClampNeg))) + (3 : Int32)).toNatClampNeg v4))))))))) := h
  refine g_bipush C (56 : Int32) dX6_logs_56 (by decide) ?_
  refine g_iconst C (5 : Int32) dX6_logs_58 (by decide) ?_
  refine g_aload_n C 0 dX6_logs_59 rfl rfl ?_
  refine g_get C inX6_logs_6 0 WMg0 rfl 0 (by decide) lkX6_logs_7 rfl dX6_logs_60 ?_
  refine g_bipush C (55 : Int32) dX6_logs_63 (by decide) ?_
  refine g_iald C 1 1 WMg1 rfl h.1 dX6_logs_65 ?_
  replace h := h.2
  refine g_imul C dX6_logs_66 ?_
  refine g_iadd C dX6_logs_67 ?_
  refine g_istore C (lv2 := [(6, .int ((56 : Int32) + ((5 : Int32) * (ms (55 : Int32).toNatClampNeg)))), (0, .ref (ad 0)), (1, .int v1), (2, .int v2), (3, .int v3), (4, .int v4), (5, .int v5)]) dX6_logs_68 (by decide) rfl ?_
  refine g_aload_n C 1 dX6_logs_70 rfl rfl ?_
  refine g_get C inX6_logs_6 0 WMg0 rfl 0 (by decide) lkX6_logs_7 rfl dX6_logs_71 ?_
  refine g_iload C 0 dX6_logs_74 rfl ?_
  refine g_iload_n C 2 dX6_logs_76 rfl rfl ?_
  refine g_iast C 1 1 WMg1 rfl h.1 WMs_ms dX6_logs_77 ?_
  replace h := h.2
  refine g_aload_n C 1 dX6_logs_78 rfl rfl ?_
  refine g_get C inX6_logs_6 0 WMg0 rfl 0 (by decide) lkX6_logs_7 rfl dX6_logs_79 ?_
  refine g_iload C 0 dX6_logs_82 rfl ?_
  refine g_iconst C (1 : Int32) dX6_logs_84 (by decide) ?_
  refine g_iadd C dX6_logs_85 ?_
  refine g_iload_n C 3 dX6_logs_86 rfl rfl ?_
  refine g_iast C 1 1 WMg1 rfl h.1 WMs_ms dX6_logs_87 ?_
  replace h := h.2
  refine g_aload_n C 1 dX6_logs_88 rfl rfl ?_
  refine g_get C inX6_logs_6 0 WMg0 rfl 0 (by decide) lkX6_logs_7 rfl dX6_logs_89 ?_
  refine g_iload C 0 dX6_logs_92 rfl ?_
  refine g_iconst C (2 : Int32) dX6_logs_94 (by decide) ?_
  refine g_iadd C dX6_logs_95 ?_
  refine g_iload_n C 4 dX6_logs_96 rfl rfl ?_
  refine g_iast C 1 1 WMg1 rfl h.1 WMs_ms dX6_logs_97 ?_
  replace h := h.2
  refine g_aload_n C 1 dX6_logs_98 rfl rfl ?_
  refine g_get C inX6_logs_6 0 WMg0 rfl 0 (by decide) lkX6_logs_7 rfl dX6_logs_99 ?_
  refine g_iload C 0 dX6_logs_102 rfl ?_
  refine g_iconst C (3 : Int32) dX6_logs_104 (by decide) ?_
  refine g_iadd C dX6_logs_105 ?_
  refine g_iload C 5 dX6_logs_106 rfl ?_
  refine g_iast C 1 1 WMg1 rfl h.1 WMs_ms dX6_logs_108 ?_
  replace h := h.2
  refine g_aload_n C 1 dX6_logs_109 rfl rfl ?_
  refine g_get C inX6_logs_6 0 WMg0 rfl 0 (by decide) lkX6_logs_7 rfl dX6_logs_110 ?_
  refine g_iload C 0 dX6_logs_113 rfl ?_
  refine g_iconst C (4 : Int32) dX6_logs_115 (by decide) ?_
  refine g_iadd C dX6_logs_116 ?_
  refine g_iload C 6 dX6_logs_117 rfl ?_
  refine g_if_le C 126 dX6_logs_119 (by decide) (fun c_1 => ?_) (fun c_1 => ?_)
  · replace h := h.1 c_1
    refine g_iconst C (0 : Int32) dX6_logs_126 (by decide) ?_
    exact g_sub [1] rfl (t_B_X6_logs_127 C hrt9 hlk  (((56 : Int32) + ((5 : Int32) * (ms (55 : Int32).toNatClampNeg))) + (4 : Int32)) (0 : Int32) (upd (upd (upd (upd ms ((56 : Int32) + ((5 : Int32) * (ms (55 : Int32).toNatClampNeg))).toNatClampNeg v1) (((56 : Int32) + ((5 : Int32) * (ms (55 : Int32).toNatClampNeg))) + (1 : Int32)).toNatClampNeg v2) (((56 : Int32) + ((5 : Int32) * (ms (55 : Int32).toNatClampNeg))) + (2 : Int32)).toNatClampNeg v3) (((56 : Int32) + ((5 : Int32) * (ms (55 : Int32).toNatClampNeg))) + (3 : Int32)).toNatClampNeg v4)  h)
  · replace h := h.2 c_1
    refine g_iconst C (1 : Int32) dX6_logs_122 (by decide) ?_
    refine g_goto C 127 dX6_logs_123 (by decide) ?_
    exact g_sub [1] rfl (t_B_X6_logs_127 C hrt9 hlk  (((56 : Int32) + ((5 : Int32) * (ms (55 : Int32).toNatClampNeg))) + (4 : Int32)) (1 : Int32) (upd (upd (upd (upd ms ((56 : Int32) + ((5 : Int32) * (ms (55 : Int32).toNatClampNeg))).toNatClampNeg v1) (((56 : Int32) + ((5 : Int32) * (ms (55 : Int32).toNatClampNeg))) + (1 : Int32)).toNatClampNeg v2) (((56 : Int32) + ((5 : Int32) * (ms (55 : Int32).toNatClampNeg))) + (2 : Int32)).toNatClampNeg v3) (((56 : Int32) + ((5 : Int32) * (ms (55 : Int32).toNatClampNeg))) + (3 : Int32)).toNatClampNeg v4)  h)
set_option maxHeartbeats 4000000 in
set_option maxRecDepth 100000 in
theorem t_L_X6_logs_16  {Q : (Nat → Int32) → Prop} (C : CxX p s m args c D (tysX cA) RX6 cX6_logs 7 wsX6_logs) (hrt9 : meth.sig.returnType = none) (hlk : meth.locks = false) (m9 : Nat) : ∀ (v1 : Int32) (v2 : Int32) (v3 : Int32) (v4 : Int32) (v5 : Int32) (v6 : Int32) (ms : (Nat → Int32)) , L_X6_logs_16  Q  m9 v1 v2 v3 v4 v5 v6 ms → GoX p l e rmX6_logs s m args below meth c D A 7 0 0 (QP_X6_logs D A ad cA mb my mt mw ml mo gm gs ga gg gb gu gh gk gl gn gt Q below args s) 16 [(0, .ref (ad 0)), (1, .int v1), (2, .int v2), (3, .int v3), (4, .int v4), (5, .int v5), (6, .int v6)] [] (WM ad cA ms mb my mt mw ml mo gm gs ga gg gb gu gh gk gl gn gt) := by
  induction m9 with
  | zero =>
    intro v1 v2 v3 v4 v5 v6 ms h
    exact False.elim h
  | succ m9 Hk16 =>
    intro v1 v2 v3 v4 v5 v6 ms h
    replace h : (((101 : Int32) ≤ v6 → (vp_in (55 : Int32) 106 ∧ (vp_in (55 : Int32) 106 ∧ (B_X6_logs_56  Q  v1 v2 v3 v4 v5 (upd ms (55 : Int32).toNatClampNeg ((ms (55 : Int32).toNatClampNeg) - (1 : Int32))))))) ∧ (¬ (101 : Int32) ≤ v6 → (vp_in (v6 + (5 : Int32)) 106 ∧ (vp_in v6 106 ∧ ((L_X6_logs_16  Q  m9) v1 v2 v3 v4 v5 (v6 + (1 : Int32)) (upd ms v6.toNatClampNeg (ms (v6 + (5 : Int32)).toNatClampNeg))))))) := h
    refine g_iload C 6 dX6_logs_16 rfl ?_
    refine g_bipush C (101 : Int32) dX6_logs_18 (by decide) ?_
    refine g_icmp_ge C 45 dX6_logs_20 (by decide) (fun c_2 => ?_) (fun c_2 => ?_)
    · replace h := h.1 c_2
      refine g_aload_n C 0 dX6_logs_45 rfl rfl ?_
      refine g_get C inX6_logs_6 0 WMg0 rfl 0 (by decide) lkX6_logs_7 rfl dX6_logs_46 ?_
      refine g_bipush C (55 : Int32) dX6_logs_49 (by decide) ?_
      refine g_dup2 C dX6_logs_51 rfl rfl ?_
      refine g_iald C 1 1 WMg1 rfl h.1 dX6_logs_52 ?_
      replace h := h.2
      refine g_iconst C (1 : Int32) dX6_logs_53 (by decide) ?_
      refine g_isub C dX6_logs_54 ?_
      refine g_iast C 1 1 WMg1 rfl h.1 WMs_ms dX6_logs_55 ?_
      replace h := h.2
      exact g_sub [0, 1, 2, 3, 4, 5] rfl (t_B_X6_logs_56 C hrt9 hlk  v1 v2 v3 v4 v5 (upd ms (55 : Int32).toNatClampNeg ((ms (55 : Int32).toNatClampNeg) - (1 : Int32)))  h)
    · replace h := h.2 c_2
      refine g_aload_n C 0 dX6_logs_23 rfl rfl ?_
      refine g_get C inX6_logs_6 0 WMg0 rfl 0 (by decide) lkX6_logs_7 rfl dX6_logs_24 ?_
      refine g_iload C 6 dX6_logs_27 rfl ?_
      refine g_aload_n C 0 dX6_logs_29 rfl rfl ?_
      refine g_get C inX6_logs_6 0 WMg0 rfl 0 (by decide) lkX6_logs_7 rfl dX6_logs_30 ?_
      refine g_iload C 6 dX6_logs_33 rfl ?_
      refine g_iconst C (5 : Int32) dX6_logs_35 (by decide) ?_
      refine g_iadd C dX6_logs_36 ?_
      refine g_iald C 1 1 WMg1 rfl h.1 dX6_logs_37 ?_
      replace h := h.2
      refine g_iast C 1 1 WMg1 rfl h.1 WMs_ms dX6_logs_38 ?_
      replace h := h.2
      refine g_iinc C (v := (v6 + (1 : Int32))) (lv2 := [(6, .int (v6 + (1 : Int32))), (0, .ref (ad 0)), (1, .int v1), (2, .int v2), (3, .int v3), (4, .int v4), (5, .int v5)]) 6 dX6_logs_39 rfl rfl (by decide) rfl ?_
      refine g_goto C 16 dX6_logs_42 (by decide) ?_
      exact g_sub [1, 2, 3, 4, 5, 6, 0] rfl (Hk16 v1 v2 v3 v4 v5 (v6 + (1 : Int32)) (upd ms v6.toNatClampNeg (ms (v6 + (5 : Int32)).toNatClampNeg))  h)
set_option maxHeartbeats 4000000 in
set_option maxRecDepth 100000 in
theorem t_B_X6_logs_0  {Q : (Nat → Int32) → Prop} (C : CxX p s m args c D (tysX cA) RX6 cX6_logs 7 wsX6_logs) (hrt9 : meth.sig.returnType = none) (hlk : meth.locks = false) (v1 : Int32) (v2 : Int32) (v3 : Int32) (v4 : Int32) (v5 : Int32) (ms : (Nat → Int32))  (h : B_X6_logs_0  Q  v1 v2 v3 v4 v5 ms) : GoX p l e rmX6_logs s m args below meth c D A 7 0 0 (QP_X6_logs D A ad cA mb my mt mw ml mo gm gs ga gg gb gu gh gk gl gn gt Q below args s) 0 [(0, .ref (ad 0)), (1, .int v1), (2, .int v2), (3, .int v3), (4, .int v4), (5, .int v5)] [] (WM ad cA ms mb my mt mw ml mo gm gs ga gg gb gu gh gk gl gn gt) := by
  replace h : (vp_in (55 : Int32) 106 ∧ (((ms (55 : Int32).toNatClampNeg) = (10 : Int32) → (∃ n9 : Nat, L_X6_logs_16  Q  n9 v1 v2 v3 v4 v5 (56 : Int32) ms)) ∧ (¬ (ms (55 : Int32).toNatClampNeg) = (10 : Int32) → (B_X6_logs_56  Q  v1 v2 v3 v4 v5 ms)))) := h
  refine g_aload_n C 0 dX6_logs_0 rfl rfl ?_
  refine g_get C inX6_logs_6 0 WMg0 rfl 0 (by decide) lkX6_logs_7 rfl dX6_logs_1 ?_
  refine g_bipush C (55 : Int32) dX6_logs_4 (by decide) ?_
  refine g_iald C 1 1 WMg1 rfl h.1 dX6_logs_6 ?_
  replace h := h.2
  refine g_bipush C (10 : Int32) dX6_logs_7 (by decide) ?_
  refine g_icmp_ne C 56 dX6_logs_9 (by decide) (fun c_3 => ?_) (fun c_3 => ?_)
  · replace h := h.2 c_3
    exact g_sub [0, 1, 2, 3, 4, 5] rfl (t_B_X6_logs_56 C hrt9 hlk  v1 v2 v3 v4 v5 ms  h)
  · replace h := h.1 c_3
    refine g_bipush C (56 : Int32) dX6_logs_12 (by decide) ?_
    refine g_istore C (lv2 := [(6, .int (56 : Int32)), (0, .ref (ad 0)), (1, .int v1), (2, .int v2), (3, .int v3), (4, .int v4), (5, .int v5)]) dX6_logs_14 (by decide) rfl ?_
    obtain ⟨n9, h⟩ := h
    exact g_sub [1, 2, 3, 4, 5, 6, 0] rfl (t_L_X6_logs_16 C hrt9 hlk  n9 v1 v2 v3 v4 v5 (56 : Int32) ms  h)
theorem c_X6_logs (l : Launch) (D : va_G) (A : Nat → Prop) (ad : Nat → Nat) (cA : Nat → ClassId) (v1 : Int32) (v2 : Int32) (v3 : Int32) (v4 : Int32) (v5 : Int32) {ms : (Nat → Int32)} {mb : (Nat → Int32)} {my : (Nat → Int32)} {mt : (Nat → Int32)} {mw : (Nat → Int32)} {ml : (Nat → Int32)} {mo : (Nat → Int32)} {gm : Int32} {gs : Int32} {ga : Int32} {gg : Int32} {gb : Int32} {gu : Int32} {gh : Int32} {gk : Int32} {gl : Int32} {gn : Int32} {gt : Int32}  (Q : (Nat → Int32) → Prop) (h : F_X6_logs v1 v2 v3 v4 v5 ms Q) : Met l yX6_logs wsX6_logs rmX6_logs (va_Pc [.ref (ad 0), .int v1, .int v2, .int v3, .int v4, .int v5] (OKX D (tysX cA) (WM ad cA ms mb my mt mw ml mo gm gs ga gg gb gu gh gk gl gn gt) A)) (QC_X6_logs D A ad cA mb my mt mw ml mo gm gs ga gg gb gu gh gk gl gn gt Q) 0 0 A :=
  g_met (own := RX6) (by decide) rfl rfl (Nat.le_of_ble_eq_true rfl) (fun p e s m below meth c C hrt9 hlk _ => g_sub [0, 1, 2, 3, 4, 5] rfl (t_B_X6_logs_0 C hrt9 hlk v1 v2 v3 v4 v5 ms  h))
theorem k_X6_logs {ws : List Cond} {own : String} {cc : ByteArray} {nL pc index : Nat} {lv : List (Nat × Value)} {st : List Value} {Q : State → Prop} {R : Room} {K : (Nat → Int32) → Prop} {v1 : Int32} {v2 : Int32} {v3 : Int32} {v4 : Int32} {v5 : Int32} (C : CxX p s m args c D (tysX cA) own cc nL ws) (hT : GoodIn ws (wsV own index RX6 yX6_logs wsX6_logs)) (hR : rmX6_logs.frames + 1 ≤ R.frames ∧ 8 + (7 + 11) + rmX6_logs.locals ≤ R.locals) (hcat : (st.map fun v => v.category).sum ≤ 8) (hdg : decode cc pc = .ok (.invokevirtual index, 3))  (h : F_X6_logs v1 v2 v3 v4 v5 ms K) (kk : ∀ (msq : (Nat → Int32)), K msq → GoX p l e R s m args below meth c D A nL 0 0 Q (pc + 3) lv (st) (WM ad cA msq mb my mt mw ml mo gm gs ga gg gb gu gh gk gl gn gt)) : GoX p l e R s m args below meth c D A nL 0 0 Q pc lv (.int v5 :: .int v4 :: .int v3 :: .int v2 :: .int v1 :: .ref (ad 0) :: st) (WM ad cA ms mb my mt mw ml mo gm gs ga gg gb gu gh gk gl gn gt) :=
  g_callVv C (As := [.int v1, .int v2, .int v3, .int v4, .int v5]) 5 (c_X6_logs l D A ad cA v1 v2 v3 v4 v5  K h) hT rfl rfl rfl (by decide +kernel) hR 0 WMg0 rfl rfl rfl hcat hdg (fun u hu => kk u hu)
/-! X6_tells -/
abbrev rmX6_tells : Room := { frames := 10, cells := 0, slots := 0, locals := 213 }
abbrev QC_X6_tells (D : va_G) (A : Nat → Prop) (ad : Nat → Nat) (cA : Nat → ClassId) (my : (Nat → Int32)) (mt : (Nat → Int32)) (mw : (Nat → Int32)) (ml : (Nat → Int32)) (mo : (Nat → Int32)) (gm : Int32) (gn : Int32) (Q : Int32 → (Nat → Int32) → (Nat → Int32) → Int32 → Int32 → Int32 → Int32 → Int32 → Int32 → Int32 → Int32 → Int32 → Prop) : Array Value → State → Outcome → State → Prop := va_Qi (fun (r : Int32) (u : (Nat → Int32) × (Nat → Int32) × Int32 × Int32 × Int32 × Int32 × Int32 × Int32 × Int32 × Int32 × Int32) => Q r u.1 u.2.1 u.2.2.1 u.2.2.2.1 u.2.2.2.2.1 u.2.2.2.2.2.1 u.2.2.2.2.2.2.1 u.2.2.2.2.2.2.2.1 u.2.2.2.2.2.2.2.2.1 u.2.2.2.2.2.2.2.2.2.1 u.2.2.2.2.2.2.2.2.2.2) (fun u t => OKX D (tysX cA) ((fun u : (Nat → Int32) × (Nat → Int32) × Int32 × Int32 × Int32 × Int32 × Int32 × Int32 × Int32 × Int32 × Int32 => WM ad cA u.1 u.2.1 my mt mw ml mo gm u.2.2.1 u.2.2.2.1 u.2.2.2.2.1 u.2.2.2.2.2.1 u.2.2.2.2.2.2.1 u.2.2.2.2.2.2.2.1 u.2.2.2.2.2.2.2.2.1 u.2.2.2.2.2.2.2.2.2.1 gn u.2.2.2.2.2.2.2.2.2.2) u) A t) A
abbrev QP_X6_tells (D : va_G) (A : Nat → Prop) (ad : Nat → Nat) (cA : Nat → ClassId) (my : (Nat → Int32)) (mt : (Nat → Int32)) (mw : (Nat → Int32)) (ml : (Nat → Int32)) (mo : (Nat → Int32)) (gm : Int32) (gn : Int32) (Q : Int32 → (Nat → Int32) → (Nat → Int32) → Int32 → Int32 → Int32 → Int32 → Int32 → Int32 → Int32 → Int32 → Int32 → Prop) (below : List Frame) (args : Array Value) (s : State) : State → Prop := MQ below (QC_X6_tells D A ad cA my mt mw ml mo gm gn Q) args s 0 0 A
def B_X6_tells_150  (Q : Int32 → (Nat → Int32) → (Nat → Int32) → Int32 → Int32 → Int32 → Int32 → Int32 → Int32 → Int32 → Int32 → Int32 → Prop) (my : (Nat → Int32)) (s0 : Int32) (ms : (Nat → Int32)) (mb : (Nat → Int32)) (gs : Int32) (ga : Int32) (gg : Int32) (gb : Int32) (gu : Int32) (gh : Int32) (gk : Int32) (gl : Int32) (gt : Int32) : Prop := (Q s0 ms mb gs ga gg gb gu gh gk gl gt)
def B_X6_tells_128  (Q : Int32 → (Nat → Int32) → (Nat → Int32) → Int32 → Int32 → Int32 → Int32 → Int32 → Int32 → Int32 → Int32 → Int32 → Prop) (my : (Nat → Int32)) (v1 : Int32) (v2 : Int32) (v3 : Int32) (v4 : Int32) (v5 : Int32) (ms : (Nat → Int32)) (mb : (Nat → Int32)) (gs : Int32) (ga : Int32) (gg : Int32) (gb : Int32) (gu : Int32) (gh : Int32) (gk : Int32) (gl : Int32) (gt : Int32) : Prop := (F_X6_logs v1 v2 v3 v4 v5 ms (fun ms_1 => ((v4 = v2 → (B_X6_tells_150  Q my (1 : Int32) ms_1 mb gs ga gg gb gu gh gk gl gt)) ∧ (¬ v4 = v2 → (B_X6_tells_150  Q my (0 : Int32) ms_1 mb gs ga gg gb gu gh gk gl gt)))))
def B_X6_tells_125  (Q : Int32 → (Nat → Int32) → (Nat → Int32) → Int32 → Int32 → Int32 → Int32 → Int32 → Int32 → Int32 → Int32 → Int32 → Prop) (my : (Nat → Int32)) (v1 : Int32) (v2 : Int32) (v3 : Int32) (v4 : Int32) (s0 : Int32) (s1 : Int32) (ms : (Nat → Int32)) (mb : (Nat → Int32)) (gs : Int32) (ga : Int32) (gg : Int32) (gb : Int32) (gu : Int32) (gh : Int32) (gk : Int32) (gl : Int32) (gt : Int32) : Prop := (B_X6_tells_128  Q my v1 v2 v3 v4 (s0 + s1) ms mb gs ga gg gb gu gh gk gl gt)
def B_X6_tells_100  (Q : Int32 → (Nat → Int32) → (Nat → Int32) → Int32 → Int32 → Int32 → Int32 → Int32 → Int32 → Int32 → Int32 → Int32 → Prop) (my : (Nat → Int32)) (v1 : Int32) (v2 : Int32) (v3 : Int32) (v4 : Int32) (s0 : Int32) (s1 : Int32) (ms : (Nat → Int32)) (mb : (Nat → Int32)) (gs : Int32) (ga : Int32) (gg : Int32) (gb : Int32) (gu : Int32) (gh : Int32) (gk : Int32) (gl : Int32) (gt : Int32) : Prop := (F_X6_saysWord (71 : Int32) v3 my (fun r_3 => ((r_3 = 0 → (B_X6_tells_125  Q my v1 v2 v3 v4 (s0 + s1) (0 : Int32) ms mb gs ga gg gb gu gh gk gl gt)) ∧ (¬ r_3 = 0 → (F_X6_doubts v1 (2 : Int32) ms (fun r_5 ms_6 => (B_X6_tells_125  Q my v1 v2 v3 v4 (s0 + s1) r_5 ms_6 mb gs ga gg gb gu gh gk gl gt)))))))
def B_X6_tells_75  (Q : Int32 → (Nat → Int32) → (Nat → Int32) → Int32 → Int32 → Int32 → Int32 → Int32 → Int32 → Int32 → Int32 → Int32 → Prop) (my : (Nat → Int32)) (v1 : Int32) (v2 : Int32) (v3 : Int32) (v4 : Int32) (s0 : Int32) (s1 : Int32) (ms : (Nat → Int32)) (mb : (Nat → Int32)) (gs : Int32) (ga : Int32) (gg : Int32) (gb : Int32) (gu : Int32) (gh : Int32) (gk : Int32) (gl : Int32) (gt : Int32) : Prop := (F_X6_saysWord (45 : Int32) v3 my (fun r_7 => ((r_7 = 0 → (B_X6_tells_100  Q my v1 v2 v3 v4 (s0 + s1) (0 : Int32) ms mb gs ga gg gb gu gh gk gl gt)) ∧ (¬ r_7 = 0 → (F_X6_doubts v1 (1 : Int32) ms (fun r_9 ms_10 => (B_X6_tells_100  Q my v1 v2 v3 v4 (s0 + s1) r_9 ms_10 mb gs ga gg gb gu gh gk gl gt)))))))
def B_X6_tells_0  (Q : Int32 → (Nat → Int32) → (Nat → Int32) → Int32 → Int32 → Int32 → Int32 → Int32 → Int32 → Int32 → Int32 → Int32 → Prop) (my : (Nat → Int32)) (v1 : Int32) (v2 : Int32) (v3 : Int32) (ms : (Nat → Int32)) (mb : (Nat → Int32)) (gs : Int32) (ga : Int32) (gg : Int32) (gb : Int32) (gu : Int32) (gh : Int32) (gk : Int32) (gl : Int32) (gt : Int32) : Prop := (F_X6_record ms mb gt (fun mb_11 gt_12 => (F_X6_understands v1 v3 ms my gs ga gg gb gu gh gk gl (fun r_13 gs_14 ga_15 gg_16 gb_17 gu_18 gh_19 gk_20 gl_21 => (vp_in (((9 : Int32) * v1) + (7 : Int32)) 106 ∧ (vp_in (((9 : Int32) * v1) + (7 : Int32)) 106 ∧ ((r_13 = v2 → (B_X6_tells_128  Q my v1 v2 v3 r_13 (0 : Int32) (upd ms (((9 : Int32) * v1) + (7 : Int32)).toNatClampNeg ((ms (((9 : Int32) * v1) + (7 : Int32)).toNatClampNeg) + (1 : Int32))) mb_11 gs_14 ga_15 gg_16 gb_17 gu_18 gh_19 gk_20 gl_21 gt_12)) ∧ (¬ r_13 = v2 → (vp_in (((9 : Int32) * v1) + (8 : Int32)) 106 ∧ (vp_in (((9 : Int32) * v1) + (8 : Int32)) 106 ∧ (F_X6_saysWord (72 : Int32) v3 my (fun r_23 => ((r_23 = 0 → (B_X6_tells_75  Q my v1 v2 v3 r_13 (0 : Int32) (0 : Int32) (upd (upd ms (((9 : Int32) * v1) + (7 : Int32)).toNatClampNeg ((ms (((9 : Int32) * v1) + (7 : Int32)).toNatClampNeg) + (1 : Int32))) (((9 : Int32) * v1) + (8 : Int32)).toNatClampNeg (((upd ms (((9 : Int32) * v1) + (7 : Int32)).toNatClampNeg ((ms (((9 : Int32) * v1) + (7 : Int32)).toNatClampNeg) + (1 : Int32))) (((9 : Int32) * v1) + (8 : Int32)).toNatClampNeg) + (1 : Int32))) mb_11 gs_14 ga_15 gg_16 gb_17 gu_18 gh_19 gk_20 gl_21 gt_12)) ∧ (¬ r_23 = 0 → (F_X6_doubts v1 (0 : Int32) (upd (upd ms (((9 : Int32) * v1) + (7 : Int32)).toNatClampNeg ((ms (((9 : Int32) * v1) + (7 : Int32)).toNatClampNeg) + (1 : Int32))) (((9 : Int32) * v1) + (8 : Int32)).toNatClampNeg (((upd ms (((9 : Int32) * v1) + (7 : Int32)).toNatClampNeg ((ms (((9 : Int32) * v1) + (7 : Int32)).toNatClampNeg) + (1 : Int32))) (((9 : Int32) * v1) + (8 : Int32)).toNatClampNeg) + (1 : Int32))) (fun r_25 ms_26 => (B_X6_tells_75  Q my v1 v2 v3 r_13 (0 : Int32) r_25 ms_26 mb_11 gs_14 ga_15 gg_16 gb_17 gu_18 gh_19 gk_20 gl_21 gt_12)))))))))))))))))
def F_X6_tells (v1 : Int32) (v2 : Int32) (v3 : Int32) (my : (Nat → Int32)) (ms : (Nat → Int32)) (mb : (Nat → Int32)) (gs : Int32) (ga : Int32) (gg : Int32) (gb : Int32) (gu : Int32) (gh : Int32) (gk : Int32) (gl : Int32) (gt : Int32) (Q : Int32 → (Nat → Int32) → (Nat → Int32) → Int32 → Int32 → Int32 → Int32 → Int32 → Int32 → Int32 → Int32 → Int32 → Prop) : Prop := B_X6_tells_0 Q my v1 v2 v3 ms mb gs ga gg gb gu gh gk gl gt
theorem lkX6_tells_7 : Cond.fieldLink RX6 7 (TX6 0).1 (TX6 0).2.1 (TX6 0).2.2.1 ∈ wsX6_tells := by decide +kernel
theorem inX6_tells_6 : ∀ q ∈ u_ws RX6 TX6 18, q ∈ wsX6_tells := by decide +kernel
set_option maxHeartbeats 4000000 in
set_option maxRecDepth 100000 in
theorem t_B_X6_tells_150  {Q : Int32 → (Nat → Int32) → (Nat → Int32) → Int32 → Int32 → Int32 → Int32 → Int32 → Int32 → Int32 → Int32 → Int32 → Prop} (C : CxX p s m args c D (tysX cA) RX6 cX6_tells 6 wsX6_tells) (hrt9 : meth.sig.returnType = (some .int)) (hlk : meth.locks = false) (s0 : Int32) (ms : (Nat → Int32)) (mb : (Nat → Int32)) (gs : Int32) (ga : Int32) (gg : Int32) (gb : Int32) (gu : Int32) (gh : Int32) (gk : Int32) (gl : Int32) (gt : Int32)  (h : B_X6_tells_150  Q my s0 ms mb gs ga gg gb gu gh gk gl gt) : GoX p l e rmX6_tells s m args below meth c D A 6 0 0 (QP_X6_tells D A ad cA my mt mw ml mo gm gn Q below args s) 150 [] [.int s0] (WM ad cA ms mb my mt mw ml mo gm gs ga gg gb gu gh gk gl gn gt) := by
  replace h : (Q s0 ms mb gs ga gg gb gu gh gk gl gt) := h
  exact g_iret C hrt9 hlk (u := (ms, mb, gs, ga, gg, gb, gu, gh, gk, gl, gt)) rfl h dX6_tells_150
set_option maxHeartbeats 4000000 in
set_option maxRecDepth 100000 in
theorem t_B_X6_tells_128  {Q : Int32 → (Nat → Int32) → (Nat → Int32) → Int32 → Int32 → Int32 → Int32 → Int32 → Int32 → Int32 → Int32 → Int32 → Prop} (C : CxX p s m args c D (tysX cA) RX6 cX6_tells 6 wsX6_tells) (hrt9 : meth.sig.returnType = (some .int)) (hlk : meth.locks = false) (v1 : Int32) (v2 : Int32) (v3 : Int32) (v4 : Int32) (v5 : Int32) (ms : (Nat → Int32)) (mb : (Nat → Int32)) (gs : Int32) (ga : Int32) (gg : Int32) (gb : Int32) (gu : Int32) (gh : Int32) (gk : Int32) (gl : Int32) (gt : Int32)  (h : B_X6_tells_128  Q my v1 v2 v3 v4 v5 ms mb gs ga gg gb gu gh gk gl gt) : GoX p l e rmX6_tells s m args below meth c D A 6 0 0 (QP_X6_tells D A ad cA my mt mw ml mo gm gn Q below args s) 128 [(0, .ref (ad 0)), (1, .int v1), (2, .int v2), (3, .int v3), (4, .int v4), (5, .int v5)] [] (WM ad cA ms mb my mt mw ml mo gm gs ga gg gb gu gh gk gl gn gt) := by
  replace h : (F_X6_logs v1 v2 v3 v4 v5 ms (fun ms_1 => ((v4 = v2 → (B_X6_tells_150  Q my (1 : Int32) ms_1 mb gs ga gg gb gu gh gk gl gt)) ∧ (¬ v4 = v2 → (B_X6_tells_150  Q my (0 : Int32) ms_1 mb gs ga gg gb gu gh gk gl gt))))) := h
  refine g_aload_n C 0 dX6_tells_128 rfl rfl ?_
  refine g_iload_n C 1 dX6_tells_129 rfl rfl ?_
  refine g_iload_n C 2 dX6_tells_130 rfl rfl ?_
  refine g_iload_n C 3 dX6_tells_131 rfl rfl ?_
  refine g_iload C 4 dX6_tells_132 rfl ?_
  refine g_iload C 5 dX6_tells_134 rfl ?_
  refine k_X6_logs C gX6_tells_X6_logs ⟨Nat.le_of_ble_eq_true rfl, Nat.le_of_ble_eq_true rfl⟩ (Nat.le_of_ble_eq_true rfl) dX6_tells_136  h (fun ms_1 h => ?_)
  refine g_iload C 4 dX6_tells_139 rfl ?_
  refine g_iload_n C 2 dX6_tells_141 rfl rfl ?_
  refine g_icmp_ne C 149 dX6_tells_142 (by decide) (fun c_2 => ?_) (fun c_2 => ?_)
  · replace h := h.2 c_2
    refine g_iconst C (0 : Int32) dX6_tells_149 (by decide) ?_
    exact g_sub [] rfl (t_B_X6_tells_150 C hrt9 hlk  (0 : Int32) ms_1 mb gs ga gg gb gu gh gk gl gt  h)
  · replace h := h.1 c_2
    refine g_iconst C (1 : Int32) dX6_tells_145 (by decide) ?_
    refine g_goto C 150 dX6_tells_146 (by decide) ?_
    exact g_sub [] rfl (t_B_X6_tells_150 C hrt9 hlk  (1 : Int32) ms_1 mb gs ga gg gb gu gh gk gl gt  h)
set_option maxHeartbeats 4000000 in
set_option maxRecDepth 100000 in
theorem t_B_X6_tells_125  {Q : Int32 → (Nat → Int32) → (Nat → Int32) → Int32 → Int32 → Int32 → Int32 → Int32 → Int32 → Int32 → Int32 → Int32 → Prop} (C : CxX p s m args c D (tysX cA) RX6 cX6_tells 6 wsX6_tells) (hrt9 : meth.sig.returnType = (some .int)) (hlk : meth.locks = false) (v1 : Int32) (v2 : Int32) (v3 : Int32) (v4 : Int32) (s0 : Int32) (s1 : Int32) (ms : (Nat → Int32)) (mb : (Nat → Int32)) (gs : Int32) (ga : Int32) (gg : Int32) (gb : Int32) (gu : Int32) (gh : Int32) (gk : Int32) (gl : Int32) (gt : Int32)  (h : B_X6_tells_125  Q my v1 v2 v3 v4 s0 s1 ms mb gs ga gg gb gu gh gk gl gt) : GoX p l e rmX6_tells s m args below meth c D A 6 0 0 (QP_X6_tells D A ad cA my mt mw ml mo gm gn Q below args s) 125 [(0, .ref (ad 0)), (1, .int v1), (2, .int v2), (3, .int v3), (4, .int v4)] [.int s1, .int s0] (WM ad cA ms mb my mt mw ml mo gm gs ga gg gb gu gh gk gl gn gt) := by
  replace h : (B_X6_tells_128  Q my v1 v2 v3 v4 (s0 + s1) ms mb gs ga gg gb gu gh gk gl gt) := h
  refine g_iadd C dX6_tells_125 ?_
  refine g_istore C (lv2 := [(5, .int (s0 + s1)), (0, .ref (ad 0)), (1, .int v1), (2, .int v2), (3, .int v3), (4, .int v4)]) dX6_tells_126 (by decide) rfl ?_
  exact g_sub [1, 2, 3, 4, 5, 0] rfl (t_B_X6_tells_128 C hrt9 hlk  v1 v2 v3 v4 (s0 + s1) ms mb gs ga gg gb gu gh gk gl gt  h)
set_option maxHeartbeats 4000000 in
set_option maxRecDepth 100000 in
theorem t_B_X6_tells_100  {Q : Int32 → (Nat → Int32) → (Nat → Int32) → Int32 → Int32 → Int32 → Int32 → Int32 → Int32 → Int32 → Int32 → Int32 → Prop} (C : CxX p s m args c D (tysX cA) RX6 cX6_tells 6 wsX6_tells) (hrt9 : meth.sig.returnType = (some .int)) (hlk : meth.locks = false) (v1 : Int32) (v2 : Int32) (v3 : Int32) (v4 : Int32) (s0 : Int32) (s1 : Int32) (ms : (Nat → Int32)) (mb : (Nat → Int32)) (gs : Int32) (ga : Int32) (gg : Int32) (gb : Int32) (gu : Int32) (gh : Int32) (gk : Int32) (gl : Int32) (gt : Int32)  (h : B_X6_tells_100  Q my v1 v2 v3 v4 s0 s1 ms mb gs ga gg gb gu gh gk gl gt) : GoX p l e rmX6_tells s m args below meth c D A 6 0 0 (QP_X6_tells D A ad cA my mt mw ml mo gm gn Q below args s) 100 [(0, .ref (ad 0)), (1, .int v1), (2, .int v2), (3, .int v3), (4, .int v4)] [.int s1, .int s0] (WM ad cA ms mb my mt mw ml mo gm gs ga gg gb gu gh gk gl gn gt) := by
  replace h : (F_X6_saysWord (71 : Int32) v3 my (fun r_3 => ((r_3 = 0 → (B_X6_tells_125  Q my v1 v2 v3 v4 (s0 + s1) (0 : Int32) ms mb gs ga gg gb gu gh gk gl gt)) ∧ (¬ r_3 = 0 → (F_X6_doubts v1 (2 : Int32) ms (fun r_5 ms_6 => (B_X6_tells_125  Q my v1 v2 v3 v4 (s0 + s1) r_5 ms_6 mb gs ga gg gb gu gh gk gl gt))))))) := h
  refine g_iadd C dX6_tells_100 ?_
  refine g_istore C (lv2 := [(5, .int (s0 + s1)), (0, .ref (ad 0)), (1, .int v1), (2, .int v2), (3, .int v3), (4, .int v4)]) dX6_tells_101 (by decide) rfl ?_
  refine g_iload C 0 dX6_tells_103 rfl ?_
  refine g_aload_n C 1 dX6_tells_105 rfl rfl ?_
  refine g_bipush C (71 : Int32) dX6_tells_106 (by decide) ?_
  refine g_iload_n C 4 dX6_tells_108 rfl rfl ?_
  refine k_X6_saysWord C gX6_tells_X6_saysWord ⟨Nat.le_of_ble_eq_true rfl, Nat.le_of_ble_eq_true rfl⟩ (Nat.le_of_ble_eq_true rfl) dX6_tells_109  h (fun r_3 h => ?_)
  refine g_if_eq C 124 dX6_tells_112 (by decide) (fun c_4 => ?_) (fun c_4 => ?_)
  · replace h := h.1 c_4
    refine g_iconst C (0 : Int32) dX6_tells_124 (by decide) ?_
    exact g_sub [1, 2, 3, 4, 5] rfl (t_B_X6_tells_125 C hrt9 hlk  v1 v2 v3 v4 (s0 + s1) (0 : Int32) ms mb gs ga gg gb gu gh gk gl gt  h)
  · replace h := h.2 c_4
    refine g_aload_n C 1 dX6_tells_115 rfl rfl ?_
    refine g_iload_n C 2 dX6_tells_116 rfl rfl ?_
    refine g_iconst C (2 : Int32) dX6_tells_117 (by decide) ?_
    refine k_X6_doubts C gX6_tells_X6_doubts ⟨Nat.le_of_ble_eq_true rfl, Nat.le_of_ble_eq_true rfl⟩ (Nat.le_of_ble_eq_true rfl) dX6_tells_118  h (fun r_5 ms_6 h => ?_)
    refine g_goto C 125 dX6_tells_121 (by decide) ?_
    exact g_sub [1, 2, 3, 4, 5] rfl (t_B_X6_tells_125 C hrt9 hlk  v1 v2 v3 v4 (s0 + s1) r_5 ms_6 mb gs ga gg gb gu gh gk gl gt  h)
set_option maxHeartbeats 4000000 in
set_option maxRecDepth 100000 in
theorem t_B_X6_tells_75  {Q : Int32 → (Nat → Int32) → (Nat → Int32) → Int32 → Int32 → Int32 → Int32 → Int32 → Int32 → Int32 → Int32 → Int32 → Prop} (C : CxX p s m args c D (tysX cA) RX6 cX6_tells 6 wsX6_tells) (hrt9 : meth.sig.returnType = (some .int)) (hlk : meth.locks = false) (v1 : Int32) (v2 : Int32) (v3 : Int32) (v4 : Int32) (s0 : Int32) (s1 : Int32) (ms : (Nat → Int32)) (mb : (Nat → Int32)) (gs : Int32) (ga : Int32) (gg : Int32) (gb : Int32) (gu : Int32) (gh : Int32) (gk : Int32) (gl : Int32) (gt : Int32)  (h : B_X6_tells_75  Q my v1 v2 v3 v4 s0 s1 ms mb gs ga gg gb gu gh gk gl gt) : GoX p l e rmX6_tells s m args below meth c D A 6 0 0 (QP_X6_tells D A ad cA my mt mw ml mo gm gn Q below args s) 75 [(0, .ref (ad 0)), (1, .int v1), (2, .int v2), (3, .int v3), (4, .int v4)] [.int s1, .int s0] (WM ad cA ms mb my mt mw ml mo gm gs ga gg gb gu gh gk gl gn gt) := by
  replace h : (F_X6_saysWord (45 : Int32) v3 my (fun r_7 => ((r_7 = 0 → (B_X6_tells_100  Q my v1 v2 v3 v4 (s0 + s1) (0 : Int32) ms mb gs ga gg gb gu gh gk gl gt)) ∧ (¬ r_7 = 0 → (F_X6_doubts v1 (1 : Int32) ms (fun r_9 ms_10 => (B_X6_tells_100  Q my v1 v2 v3 v4 (s0 + s1) r_9 ms_10 mb gs ga gg gb gu gh gk gl gt))))))) := h
  refine g_iadd C dX6_tells_75 ?_
  refine g_istore C (lv2 := [(5, .int (s0 + s1)), (0, .ref (ad 0)), (1, .int v1), (2, .int v2), (3, .int v3), (4, .int v4)]) dX6_tells_76 (by decide) rfl ?_
  refine g_iload C 0 dX6_tells_78 rfl ?_
  refine g_aload_n C 1 dX6_tells_80 rfl rfl ?_
  refine g_bipush C (45 : Int32) dX6_tells_81 (by decide) ?_
  refine g_iload_n C 4 dX6_tells_83 rfl rfl ?_
  refine k_X6_saysWord C gX6_tells_X6_saysWord ⟨Nat.le_of_ble_eq_true rfl, Nat.le_of_ble_eq_true rfl⟩ (Nat.le_of_ble_eq_true rfl) dX6_tells_84  h (fun r_7 h => ?_)
  refine g_if_eq C 99 dX6_tells_87 (by decide) (fun c_8 => ?_) (fun c_8 => ?_)
  · replace h := h.1 c_8
    refine g_iconst C (0 : Int32) dX6_tells_99 (by decide) ?_
    exact g_sub [1, 2, 3, 4, 5] rfl (t_B_X6_tells_100 C hrt9 hlk  v1 v2 v3 v4 (s0 + s1) (0 : Int32) ms mb gs ga gg gb gu gh gk gl gt  h)
  · replace h := h.2 c_8
    refine g_aload_n C 1 dX6_tells_90 rfl rfl ?_
    refine g_iload_n C 2 dX6_tells_91 rfl rfl ?_
    refine g_iconst C (1 : Int32) dX6_tells_92 (by decide) ?_
    refine k_X6_doubts C gX6_tells_X6_doubts ⟨Nat.le_of_ble_eq_true rfl, Nat.le_of_ble_eq_true rfl⟩ (Nat.le_of_ble_eq_true rfl) dX6_tells_93  h (fun r_9 ms_10 h => ?_)
    refine g_goto C 100 dX6_tells_96 (by decide) ?_
    exact g_sub [1, 2, 3, 4, 5] rfl (t_B_X6_tells_100 C hrt9 hlk  v1 v2 v3 v4 (s0 + s1) r_9 ms_10 mb gs ga gg gb gu gh gk gl gt  h)
set_option maxHeartbeats 4000000 in
set_option maxRecDepth 100000 in
theorem t_B_X6_tells_0  {Q : Int32 → (Nat → Int32) → (Nat → Int32) → Int32 → Int32 → Int32 → Int32 → Int32 → Int32 → Int32 → Int32 → Int32 → Prop} (C : CxX p s m args c D (tysX cA) RX6 cX6_tells 6 wsX6_tells) (hrt9 : meth.sig.returnType = (some .int)) (hlk : meth.locks = false) (v1 : Int32) (v2 : Int32) (v3 : Int32) (ms : (Nat → Int32)) (mb : (Nat → Int32)) (gs : Int32) (ga : Int32) (gg : Int32) (gb : Int32) (gu : Int32) (gh : Int32) (gk : Int32) (gl : Int32) (gt : Int32)  (h : B_X6_tells_0  Q my v1 v2 v3 ms mb gs ga gg gb gu gh gk gl gt) : GoX p l e rmX6_tells s m args below meth c D A 6 0 0 (QP_X6_tells D A ad cA my mt mw ml mo gm gn Q below args s) 0 [(0, .ref (ad 0)), (1, .int v1), (2, .int v2), (3, .int v3)] [] (WM ad cA ms mb my mt mw ml mo gm gs ga gg gb gu gh gk gl gn gt) := by
  replace h : (F_X6_record ms mb gt (fun mb_11 gt_12 => (F_X6_understands v1 v3 ms my gs ga gg gb gu gh gk gl (fun r_13 gs_14 ga_15 gg_16 gb_17 gu_18 gh_19 gk_20 gl_21 => (vp_in (((9 : Int32) * v1) + (7 : Int32)) 106 ∧ (vp_in (((9 : Int32) * v1) + (7 : Int32)) 106 ∧ ((r_13 = v2 → (B_X6_tells_128  Q my v1 v2 v3 r_13 (0 : Int32) (upd ms (((9 : Int32) * v1) + (7 : Int32)).toNatClampNeg ((ms (((9 : Int32) * v1) + (7 : Int32)).toNatClampNeg) + (1 : Int32))) mb_11 gs_14 ga_15 gg_16 gb_17 gu_18 gh_19 gk_20 gl_21 gt_12)) ∧ (¬ r_13 = v2 → (vp_in (((9 : Int32) * v1) + (8 : Int32)) 106 ∧ (vp_in (((9 : Int32) * v1) + (8 : Int32)) 106 ∧ (F_X6_saysWord (72 : Int32) v3 my (fun r_23 => ((r_23 = 0 → (B_X6_tells_75  Q my v1 v2 v3 r_13 (0 : Int32) (0 : Int32) (upd (upd ms (((9 : Int32) * v1) + (7 : Int32)).toNatClampNeg ((ms (((9 : Int32) * v1) + (7 : Int32)).toNatClampNeg) + (1 : Int32))) (((9 : Int32) * v1) + (8 : Int32)).toNatClampNeg (((upd ms (((9 : Int32) * v1) + (7 : Int32)).toNatClampNeg ((ms (((9 : Int32) * v1) + (7 : Int32)).toNatClampNeg) + (1 : Int32))) (((9 : Int32) * v1) + (8 : Int32)).toNatClampNeg) + (1 : Int32))) mb_11 gs_14 ga_15 gg_16 gb_17 gu_18 gh_19 gk_20 gl_21 gt_12)) ∧ (¬ r_23 = 0 → (F_X6_doubts v1 (0 : Int32) (upd (upd ms (((9 : Int32) * v1) + (7 : Int32)).toNatClampNeg ((ms (((9 : Int32) * v1) + (7 : Int32)).toNatClampNeg) + (1 : Int32))) (((9 : Int32) * v1) + (8 : Int32)).toNatClampNeg (((upd ms (((9 : Int32) * v1) + (7 : Int32)).toNatClampNeg ((ms (((9 : Int32) * v1) + (7 : Int32)).toNatClampNeg) + (1 : Int32))) (((9 : Int32) * v1) + (8 : Int32)).toNatClampNeg) + (1 : Int32))) (fun r_25 ms_26 => (B_X6_tells_75  Q my v1 v2 v3 r_13 (0 : Int32) r_25 ms_26 mb_11 gs_14 ga_15 gg_16 gb_17 gu_18 gh_19 gk_20 gl_21 gt_12))))))))))))))))) := h
  refine g_aload_n C 0 dX6_tells_0 rfl rfl ?_
  refine k_X6_record C gX6_tells_X6_record ⟨Nat.le_of_ble_eq_true rfl, Nat.le_of_ble_eq_true rfl⟩ (Nat.le_of_ble_eq_true rfl) dX6_tells_1  h (fun mb_11 gt_12 h => ?_)
  refine g_aload_n C 0 dX6_tells_4 rfl rfl ?_
  refine g_iload_n C 1 dX6_tells_5 rfl rfl ?_
  refine g_iload_n C 3 dX6_tells_6 rfl rfl ?_
  refine k_X6_understands C gX6_tells_X6_understands ⟨Nat.le_of_ble_eq_true rfl, Nat.le_of_ble_eq_true rfl⟩ (Nat.le_of_ble_eq_true rfl) dX6_tells_7  h (fun r_13 gs_14 ga_15 gg_16 gb_17 gu_18 gh_19 gk_20 gl_21 h => ?_)
  refine g_istore C (lv2 := [(4, .int r_13), (0, .ref (ad 0)), (1, .int v1), (2, .int v2), (3, .int v3)]) dX6_tells_10 (by decide) rfl ?_
  refine g_iconst C (0 : Int32) dX6_tells_12 (by decide) ?_
  refine g_istore C (lv2 := [(5, .int (0 : Int32)), (4, .int r_13), (0, .ref (ad 0)), (1, .int v1), (2, .int v2), (3, .int v3)]) dX6_tells_13 (by decide) rfl ?_
  refine g_aload_n C 2 dX6_tells_15 rfl rfl ?_
  refine g_get C inX6_tells_6 0 WMg0 rfl 0 (by decide) lkX6_tells_7 rfl dX6_tells_16 ?_
  refine g_bipush C (9 : Int32) dX6_tells_19 (by decide) ?_
  refine g_iload_n C 3 dX6_tells_21 rfl rfl ?_
  refine g_imul C dX6_tells_22 ?_
  refine g_bipush C (7 : Int32) dX6_tells_23 (by decide) ?_
  refine g_iadd C dX6_tells_25 ?_
  refine g_dup2 C dX6_tells_26 rfl rfl ?_
  refine g_iald C 1 1 WMg1 rfl h.1 dX6_tells_27 ?_
  replace h := h.2
  refine g_iconst C (1 : Int32) dX6_tells_28 (by decide) ?_
  refine g_iadd C dX6_tells_29 ?_
  refine g_iast C 1 1 WMg1 rfl h.1 WMs_ms dX6_tells_30 ?_
  replace h := h.2
  refine g_iload C 1 dX6_tells_31 rfl ?_
  refine g_iload_n C 4 dX6_tells_33 rfl rfl ?_
  refine g_icmp_eq C 128 dX6_tells_34 (by decide) (fun c_22 => ?_) (fun c_22 => ?_)
  · replace h := h.1 c_22
    exact g_sub [2, 3, 4, 5, 1, 0] rfl (t_B_X6_tells_128 C hrt9 hlk  v1 v2 v3 r_13 (0 : Int32) (upd ms (((9 : Int32) * v1) + (7 : Int32)).toNatClampNeg ((ms (((9 : Int32) * v1) + (7 : Int32)).toNatClampNeg) + (1 : Int32))) mb_11 gs_14 ga_15 gg_16 gb_17 gu_18 gh_19 gk_20 gl_21 gt_12  h)
  · replace h := h.2 c_22
    refine g_aload_n C 2 dX6_tells_37 rfl rfl ?_
    refine g_get C inX6_tells_6 0 WMg0 rfl 0 (by decide) lkX6_tells_7 rfl dX6_tells_38 ?_
    refine g_bipush C (9 : Int32) dX6_tells_41 (by decide) ?_
    refine g_iload_n C 3 dX6_tells_43 rfl rfl ?_
    refine g_imul C dX6_tells_44 ?_
    refine g_bipush C (8 : Int32) dX6_tells_45 (by decide) ?_
    refine g_iadd C dX6_tells_47 ?_
    refine g_dup2 C dX6_tells_48 rfl rfl ?_
    refine g_iald C 1 1 WMg1 rfl h.1 dX6_tells_49 ?_
    replace h := h.2
    refine g_iconst C (1 : Int32) dX6_tells_50 (by decide) ?_
    refine g_iadd C dX6_tells_51 ?_
    refine g_iast C 1 1 WMg1 rfl h.1 WMs_ms dX6_tells_52 ?_
    replace h := h.2
    refine g_iload C 0 dX6_tells_53 rfl ?_
    refine g_aload_n C 2 dX6_tells_55 rfl rfl ?_
    refine g_bipush C (72 : Int32) dX6_tells_56 (by decide) ?_
    refine g_iload_n C 5 dX6_tells_58 rfl rfl ?_
    refine k_X6_saysWord C gX6_tells_X6_saysWord ⟨Nat.le_of_ble_eq_true rfl, Nat.le_of_ble_eq_true rfl⟩ (Nat.le_of_ble_eq_true rfl) dX6_tells_59  h (fun r_23 h => ?_)
    refine g_if_eq C 74 dX6_tells_62 (by decide) (fun c_24 => ?_) (fun c_24 => ?_)
    · replace h := h.1 c_24
      refine g_iconst C (0 : Int32) dX6_tells_74 (by decide) ?_
      exact g_sub [2, 3, 4, 5, 1] rfl (t_B_X6_tells_75 C hrt9 hlk  v1 v2 v3 r_13 (0 : Int32) (0 : Int32) (upd (upd ms (((9 : Int32) * v1) + (7 : Int32)).toNatClampNeg ((ms (((9 : Int32) * v1) + (7 : Int32)).toNatClampNeg) + (1 : Int32))) (((9 : Int32) * v1) + (8 : Int32)).toNatClampNeg (((upd ms (((9 : Int32) * v1) + (7 : Int32)).toNatClampNeg ((ms (((9 : Int32) * v1) + (7 : Int32)).toNatClampNeg) + (1 : Int32))) (((9 : Int32) * v1) + (8 : Int32)).toNatClampNeg) + (1 : Int32))) mb_11 gs_14 ga_15 gg_16 gb_17 gu_18 gh_19 gk_20 gl_21 gt_12  h)
    · replace h := h.2 c_24
      refine g_aload_n C 2 dX6_tells_65 rfl rfl ?_
      refine g_iload_n C 3 dX6_tells_66 rfl rfl ?_
      refine g_iconst C (0 : Int32) dX6_tells_67 (by decide) ?_
      refine k_X6_doubts C gX6_tells_X6_doubts ⟨Nat.le_of_ble_eq_true rfl, Nat.le_of_ble_eq_true rfl⟩ (Nat.le_of_ble_eq_true rfl) dX6_tells_68  h (fun r_25 ms_26 h => ?_)
      refine g_goto C 75 dX6_tells_71 (by decide) ?_
      exact g_sub [2, 3, 4, 5, 1] rfl (t_B_X6_tells_75 C hrt9 hlk  v1 v2 v3 r_13 (0 : Int32) r_25 ms_26 mb_11 gs_14 ga_15 gg_16 gb_17 gu_18 gh_19 gk_20 gl_21 gt_12  h)
theorem c_X6_tells (l : Launch) (D : va_G) (A : Nat → Prop) (ad : Nat → Nat) (cA : Nat → ClassId) (v1 : Int32) (v2 : Int32) (v3 : Int32) {ms : (Nat → Int32)} {mb : (Nat → Int32)} {my : (Nat → Int32)} {mt : (Nat → Int32)} {mw : (Nat → Int32)} {ml : (Nat → Int32)} {mo : (Nat → Int32)} {gm : Int32} {gs : Int32} {ga : Int32} {gg : Int32} {gb : Int32} {gu : Int32} {gh : Int32} {gk : Int32} {gl : Int32} {gn : Int32} {gt : Int32}  (Q : Int32 → (Nat → Int32) → (Nat → Int32) → Int32 → Int32 → Int32 → Int32 → Int32 → Int32 → Int32 → Int32 → Int32 → Prop) (h : F_X6_tells v1 v2 v3 my ms mb gs ga gg gb gu gh gk gl gt Q) : Met l yX6_tells wsX6_tells rmX6_tells (va_Pc [.ref (ad 0), .int v1, .int v2, .int v3] (OKX D (tysX cA) (WM ad cA ms mb my mt mw ml mo gm gs ga gg gb gu gh gk gl gn gt) A)) (QC_X6_tells D A ad cA my mt mw ml mo gm gn Q) 0 0 A :=
  g_met (own := RX6) (by decide) rfl rfl (Nat.le_of_ble_eq_true rfl) (fun p e s m below meth c C hrt9 hlk _ => g_sub [0, 1, 2, 3] rfl (t_B_X6_tells_0 C hrt9 hlk v1 v2 v3 ms mb gs ga gg gb gu gh gk gl gt  h))
theorem k_X6_tells {ws : List Cond} {own : String} {cc : ByteArray} {nL pc index : Nat} {lv : List (Nat × Value)} {st : List Value} {Q : State → Prop} {R : Room} {K : Int32 → (Nat → Int32) → (Nat → Int32) → Int32 → Int32 → Int32 → Int32 → Int32 → Int32 → Int32 → Int32 → Int32 → Prop} {v1 : Int32} {v2 : Int32} {v3 : Int32} (C : CxX p s m args c D (tysX cA) own cc nL ws) (hT : GoodIn ws (wsV own index RX6 yX6_tells wsX6_tells)) (hR : rmX6_tells.frames + 1 ≤ R.frames ∧ 8 + (6 + 11) + rmX6_tells.locals ≤ R.locals) (hcat : (st.map fun v => v.category).sum ≤ 8) (hdg : decode cc pc = .ok (.invokevirtual index, 3))  (h : F_X6_tells v1 v2 v3 my ms mb gs ga gg gb gu gh gk gl gt K) (kk : ∀ (r : Int32) (msq : (Nat → Int32)) (mbq : (Nat → Int32)) (gsq : Int32) (gaq : Int32) (ggq : Int32) (gbq : Int32) (guq : Int32) (ghq : Int32) (gkq : Int32) (glq : Int32) (gtq : Int32), K r msq mbq gsq gaq ggq gbq guq ghq gkq glq gtq → GoX p l e R s m args below meth c D A nL 0 0 Q (pc + 3) lv (.int r :: st) (WM ad cA msq mbq my mt mw ml mo gm gsq gaq ggq gbq guq ghq gkq glq gn gtq)) : GoX p l e R s m args below meth c D A nL 0 0 Q pc lv (.int v3 :: .int v2 :: .int v1 :: .ref (ad 0) :: st) (WM ad cA ms mb my mt mw ml mo gm gs ga gg gb gu gh gk gl gn gt) :=
  g_callVi C (As := [.int v1, .int v2, .int v3]) 3 (c_X6_tells l D A ad cA v1 v2 v3  K h) hT rfl rfl rfl (by decide +kernel) hR 0 WMg0 rfl rfl rfl hcat hdg (fun r u hu => kk r u.1 u.2.1 u.2.2.1 u.2.2.2.1 u.2.2.2.2.1 u.2.2.2.2.2.1 u.2.2.2.2.2.2.1 u.2.2.2.2.2.2.2.1 u.2.2.2.2.2.2.2.2.1 u.2.2.2.2.2.2.2.2.2.1 u.2.2.2.2.2.2.2.2.2.2 hu)
/-! X6_tell -/
abbrev rmX6_tell : Room := { frames := 11, cells := 0, slots := 0, locals := 238 }
abbrev QC_X6_tell (D : va_G) (A : Nat → Prop) (ad : Nat → Nat) (cA : Nat → ClassId) (mt : (Nat → Int32)) (gn : Int32) (Q : Int32 → (Nat → Int32) → (Nat → Int32) → (Nat → Int32) → (Nat → Int32) → (Nat → Int32) → (Nat → Int32) → Int32 → Int32 → Int32 → Int32 → Int32 → Int32 → Int32 → Int32 → Int32 → Int32 → Prop) : Array Value → State → Outcome → State → Prop := va_Qi (fun (r : Int32) (u : (Nat → Int32) × (Nat → Int32) × (Nat → Int32) × (Nat → Int32) × (Nat → Int32) × (Nat → Int32) × Int32 × Int32 × Int32 × Int32 × Int32 × Int32 × Int32 × Int32 × Int32 × Int32) => Q r u.1 u.2.1 u.2.2.1 u.2.2.2.1 u.2.2.2.2.1 u.2.2.2.2.2.1 u.2.2.2.2.2.2.1 u.2.2.2.2.2.2.2.1 u.2.2.2.2.2.2.2.2.1 u.2.2.2.2.2.2.2.2.2.1 u.2.2.2.2.2.2.2.2.2.2.1 u.2.2.2.2.2.2.2.2.2.2.2.1 u.2.2.2.2.2.2.2.2.2.2.2.2.1 u.2.2.2.2.2.2.2.2.2.2.2.2.2.1 u.2.2.2.2.2.2.2.2.2.2.2.2.2.2.1 u.2.2.2.2.2.2.2.2.2.2.2.2.2.2.2) (fun u t => OKX D (tysX cA) ((fun u : (Nat → Int32) × (Nat → Int32) × (Nat → Int32) × (Nat → Int32) × (Nat → Int32) × (Nat → Int32) × Int32 × Int32 × Int32 × Int32 × Int32 × Int32 × Int32 × Int32 × Int32 × Int32 => WM ad cA u.1 u.2.1 u.2.2.1 mt u.2.2.2.1 u.2.2.2.2.1 u.2.2.2.2.2.1 u.2.2.2.2.2.2.1 u.2.2.2.2.2.2.2.1 u.2.2.2.2.2.2.2.2.1 u.2.2.2.2.2.2.2.2.2.1 u.2.2.2.2.2.2.2.2.2.2.1 u.2.2.2.2.2.2.2.2.2.2.2.1 u.2.2.2.2.2.2.2.2.2.2.2.2.1 u.2.2.2.2.2.2.2.2.2.2.2.2.2.1 u.2.2.2.2.2.2.2.2.2.2.2.2.2.2.1 gn u.2.2.2.2.2.2.2.2.2.2.2.2.2.2.2) u) A t) A
abbrev QP_X6_tell (D : va_G) (A : Nat → Prop) (ad : Nat → Nat) (cA : Nat → ClassId) (mt : (Nat → Int32)) (gn : Int32) (Q : Int32 → (Nat → Int32) → (Nat → Int32) → (Nat → Int32) → (Nat → Int32) → (Nat → Int32) → (Nat → Int32) → Int32 → Int32 → Int32 → Int32 → Int32 → Int32 → Int32 → Int32 → Int32 → Int32 → Prop) (below : List Frame) (args : Array Value) (s : State) : State → Prop := MQ below (QC_X6_tell D A ad cA mt gn Q) args s 0 0 A
def B_X6_tell_16  (Q : Int32 → (Nat → Int32) → (Nat → Int32) → (Nat → Int32) → (Nat → Int32) → (Nat → Int32) → (Nat → Int32) → Int32 → Int32 → Int32 → Int32 → Int32 → Int32 → Int32 → Int32 → Int32 → Int32 → Prop)   (ms : (Nat → Int32)) (mb : (Nat → Int32)) (my : (Nat → Int32)) (mw : (Nat → Int32)) (ml : (Nat → Int32)) (mo : (Nat → Int32)) (gm : Int32) (gs : Int32) (ga : Int32) (gg : Int32) (gb : Int32) (gu : Int32) (gh : Int32) (gk : Int32) (gl : Int32) (gt : Int32) : Prop := (Q (-1 : Int32) ms mb my mw ml mo gm gs ga gg gb gu gh gk gl gt)
def B_X6_tell_0  (Q : Int32 → (Nat → Int32) → (Nat → Int32) → (Nat → Int32) → (Nat → Int32) → (Nat → Int32) → (Nat → Int32) → Int32 → Int32 → Int32 → Int32 → Int32 → Int32 → Int32 → Int32 → Int32 → Int32 → Prop)  (v1 : Int32) (v2 : Int32) (v3 : Int32) (ms : (Nat → Int32)) (mb : (Nat → Int32)) (my : (Nat → Int32)) (mw : (Nat → Int32)) (ml : (Nat → Int32)) (mo : (Nat → Int32)) (gm : Int32) (gs : Int32) (ga : Int32) (gg : Int32) (gb : Int32) (gu : Int32) (gh : Int32) (gk : Int32) (gl : Int32) (gt : Int32) : Prop := (F_X6_isHearer v1 (fun r_1 => ((r_1 = 0 → (B_X6_tell_16  Q  ms mb my mw ml mo gm gs ga gg gb gu gh gk gl gt)) ∧ (¬ r_1 = 0 → (F_X6_in v3 (0 : Int32) (3 : Int32) (fun r_3 => ((r_3 = 0 → (B_X6_tell_16  Q  ms mb my mw ml mo gm gs ga gg gb gu gh gk gl gt)) ∧ (¬ r_3 = 0 → (F_X6_isNumber v2 (fun r_5 => ((r_5 = 0 → (Q (-2 : Int32) ms mb my mw ml mo gm gs ga gg gb gu gh gk gl gt)) ∧ (¬ r_5 = 0 → (F_X6_makes v2 mw ml mo gm (fun mw_7 ml_8 mo_9 gm_10 => (F_X6_placeOf v3 mw_7 ml_8 mo_9 gm_10 (fun r_11 => (F_X6_says r_11 mw_7 ml_8 mo_9 my (fun r_12 my_13 => (F_X6_tells v1 v2 r_12 my_13 ms mb gs ga gg gb gu gh gk gl gt (fun r_14 ms_15 mb_16 gs_17 ga_18 gg_19 gb_20 gu_21 gh_22 gk_23 gl_24 gt_25 => (Q r_14 ms_15 mb_16 my_13 mw_7 ml_8 mo_9 gm_10 gs_17 ga_18 gg_19 gb_20 gu_21 gh_22 gk_23 gl_24 gt_25)))))))))))))))))))))
def F_X6_tell (v1 : Int32) (v2 : Int32) (v3 : Int32)  (ms : (Nat → Int32)) (mb : (Nat → Int32)) (my : (Nat → Int32)) (mw : (Nat → Int32)) (ml : (Nat → Int32)) (mo : (Nat → Int32)) (gm : Int32) (gs : Int32) (ga : Int32) (gg : Int32) (gb : Int32) (gu : Int32) (gh : Int32) (gk : Int32) (gl : Int32) (gt : Int32) (Q : Int32 → (Nat → Int32) → (Nat → Int32) → (Nat → Int32) → (Nat → Int32) → (Nat → Int32) → (Nat → Int32) → Int32 → Int32 → Int32 → Int32 → Int32 → Int32 → Int32 → Int32 → Int32 → Int32 → Prop) : Prop := B_X6_tell_0 Q  v1 v2 v3 ms mb my mw ml mo gm gs ga gg gb gu gh gk gl gt
set_option maxHeartbeats 4000000 in
set_option maxRecDepth 100000 in
theorem t_B_X6_tell_16  {Q : Int32 → (Nat → Int32) → (Nat → Int32) → (Nat → Int32) → (Nat → Int32) → (Nat → Int32) → (Nat → Int32) → Int32 → Int32 → Int32 → Int32 → Int32 → Int32 → Int32 → Int32 → Int32 → Int32 → Prop} (C : CxX p s m args c D (tysX cA) RX6 cX6_tell 4 wsX6_tell) (hrt9 : meth.sig.returnType = (some .int)) (hlk : meth.locks = false)  (ms : (Nat → Int32)) (mb : (Nat → Int32)) (my : (Nat → Int32)) (mw : (Nat → Int32)) (ml : (Nat → Int32)) (mo : (Nat → Int32)) (gm : Int32) (gs : Int32) (ga : Int32) (gg : Int32) (gb : Int32) (gu : Int32) (gh : Int32) (gk : Int32) (gl : Int32) (gt : Int32)  (h : B_X6_tell_16  Q  ms mb my mw ml mo gm gs ga gg gb gu gh gk gl gt) : GoX p l e rmX6_tell s m args below meth c D A 4 0 0 (QP_X6_tell D A ad cA mt gn Q below args s) 16 [] [] (WM ad cA ms mb my mt mw ml mo gm gs ga gg gb gu gh gk gl gn gt) := by
  replace h : (Q (-1 : Int32) ms mb my mw ml mo gm gs ga gg gb gu gh gk gl gt) := h
  refine g_iconst C (-1 : Int32) dX6_tell_16 (by decide) ?_
  exact g_iret C hrt9 hlk (u := (ms, mb, my, mw, ml, mo, gm, gs, ga, gg, gb, gu, gh, gk, gl, gt)) rfl h dX6_tell_17
set_option maxHeartbeats 4000000 in
set_option maxRecDepth 100000 in
theorem t_B_X6_tell_0  {Q : Int32 → (Nat → Int32) → (Nat → Int32) → (Nat → Int32) → (Nat → Int32) → (Nat → Int32) → (Nat → Int32) → Int32 → Int32 → Int32 → Int32 → Int32 → Int32 → Int32 → Int32 → Int32 → Int32 → Prop} (C : CxX p s m args c D (tysX cA) RX6 cX6_tell 4 wsX6_tell) (hrt9 : meth.sig.returnType = (some .int)) (hlk : meth.locks = false) (v1 : Int32) (v2 : Int32) (v3 : Int32) (ms : (Nat → Int32)) (mb : (Nat → Int32)) (my : (Nat → Int32)) (mw : (Nat → Int32)) (ml : (Nat → Int32)) (mo : (Nat → Int32)) (gm : Int32) (gs : Int32) (ga : Int32) (gg : Int32) (gb : Int32) (gu : Int32) (gh : Int32) (gk : Int32) (gl : Int32) (gt : Int32)  (h : B_X6_tell_0  Q  v1 v2 v3 ms mb my mw ml mo gm gs ga gg gb gu gh gk gl gt) : GoX p l e rmX6_tell s m args below meth c D A 4 0 0 (QP_X6_tell D A ad cA mt gn Q below args s) 0 [(0, .ref (ad 0)), (1, .int v1), (2, .int v2), (3, .int v3)] [] (WM ad cA ms mb my mt mw ml mo gm gs ga gg gb gu gh gk gl gn gt) := by
  replace h : (F_X6_isHearer v1 (fun r_1 => ((r_1 = 0 → (B_X6_tell_16  Q  ms mb my mw ml mo gm gs ga gg gb gu gh gk gl gt)) ∧ (¬ r_1 = 0 → (F_X6_in v3 (0 : Int32) (3 : Int32) (fun r_3 => ((r_3 = 0 → (B_X6_tell_16  Q  ms mb my mw ml mo gm gs ga gg gb gu gh gk gl gt)) ∧ (¬ r_3 = 0 → (F_X6_isNumber v2 (fun r_5 => ((r_5 = 0 → (Q (-2 : Int32) ms mb my mw ml mo gm gs ga gg gb gu gh gk gl gt)) ∧ (¬ r_5 = 0 → (F_X6_makes v2 mw ml mo gm (fun mw_7 ml_8 mo_9 gm_10 => (F_X6_placeOf v3 mw_7 ml_8 mo_9 gm_10 (fun r_11 => (F_X6_says r_11 mw_7 ml_8 mo_9 my (fun r_12 my_13 => (F_X6_tells v1 v2 r_12 my_13 ms mb gs ga gg gb gu gh gk gl gt (fun r_14 ms_15 mb_16 gs_17 ga_18 gg_19 gb_20 gu_21 gh_22 gk_23 gl_24 gt_25 => (Q r_14 ms_15 mb_16 my_13 mw_7 ml_8 mo_9 gm_10 gs_17 ga_18 gg_19 gb_20 gu_21 gh_22 gk_23 gl_24 gt_25))))))))))))))))))))) := h
  refine g_iload_n C 1 dX6_tell_0 rfl rfl ?_
  refine k_X6_isHearer C gX6_tell_X6_isHearer ⟨Nat.le_of_ble_eq_true rfl, Nat.le_of_ble_eq_true rfl⟩ (Nat.le_of_ble_eq_true rfl) dX6_tell_1  h (fun r_1 h => ?_)
  refine g_if_eq C 16 dX6_tell_4 (by decide) (fun c_2 => ?_) (fun c_2 => ?_)
  · replace h := h.1 c_2
    exact g_sub [] rfl (t_B_X6_tell_16 C hrt9 hlk  ms mb my mw ml mo gm gs ga gg gb gu gh gk gl gt  h)
  · replace h := h.2 c_2
    refine g_iload_n C 3 dX6_tell_7 rfl rfl ?_
    refine g_iconst C (0 : Int32) dX6_tell_8 (by decide) ?_
    refine g_iconst C (3 : Int32) dX6_tell_9 (by decide) ?_
    refine k_X6_in C gX6_tell_X6_in ⟨Nat.le_of_ble_eq_true rfl, Nat.le_of_ble_eq_true rfl⟩ (Nat.le_of_ble_eq_true rfl) dX6_tell_10  h (fun r_3 h => ?_)
    refine g_if_ne C 18 dX6_tell_13 (by decide) (fun c_4 => ?_) (fun c_4 => ?_)
    · replace h := h.2 c_4
      refine g_iload_n C 2 dX6_tell_18 rfl rfl ?_
      refine k_X6_isNumber C gX6_tell_X6_isNumber ⟨Nat.le_of_ble_eq_true rfl, Nat.le_of_ble_eq_true rfl⟩ (Nat.le_of_ble_eq_true rfl) dX6_tell_19  h (fun r_5 h => ?_)
      refine g_if_ne C 28 dX6_tell_22 (by decide) (fun c_6 => ?_) (fun c_6 => ?_)
      · replace h := h.2 c_6
        refine g_aload_n C 0 dX6_tell_28 rfl rfl ?_
        refine g_iload_n C 2 dX6_tell_29 rfl rfl ?_
        refine k_X6_makes C gX6_tell_X6_makes ⟨Nat.le_of_ble_eq_true rfl, Nat.le_of_ble_eq_true rfl⟩ (Nat.le_of_ble_eq_true rfl) dX6_tell_30  h (fun mw_7 ml_8 mo_9 gm_10 h => ?_)
        refine g_aload_n C 0 dX6_tell_33 rfl rfl ?_
        refine g_iload_n C 1 dX6_tell_34 rfl rfl ?_
        refine g_iload_n C 2 dX6_tell_35 rfl rfl ?_
        refine g_aload_n C 0 dX6_tell_36 rfl rfl ?_
        refine g_aload_n C 0 dX6_tell_37 rfl rfl ?_
        refine g_iload_n C 3 dX6_tell_38 rfl rfl ?_
        refine k_X6_placeOf C gX6_tell_X6_placeOf ⟨Nat.le_of_ble_eq_true rfl, Nat.le_of_ble_eq_true rfl⟩ (Nat.le_of_ble_eq_true rfl) dX6_tell_39  h (fun r_11 h => ?_)
        refine k_X6_says C gX6_tell_X6_says ⟨Nat.le_of_ble_eq_true rfl, Nat.le_of_ble_eq_true rfl⟩ (Nat.le_of_ble_eq_true rfl) dX6_tell_42  h (fun r_12 my_13 h => ?_)
        refine k_X6_tells C gX6_tell_X6_tells ⟨Nat.le_of_ble_eq_true rfl, Nat.le_of_ble_eq_true rfl⟩ (Nat.le_of_ble_eq_true rfl) dX6_tell_45  h (fun r_14 ms_15 mb_16 gs_17 ga_18 gg_19 gb_20 gu_21 gh_22 gk_23 gl_24 gt_25 h => ?_)
        exact g_iret C hrt9 hlk (u := (ms_15, mb_16, my_13, mw_7, ml_8, mo_9, gm_10, gs_17, ga_18, gg_19, gb_20, gu_21, gh_22, gk_23, gl_24, gt_25)) rfl h dX6_tell_48
      · replace h := h.1 c_6
        refine g_bipush C (-2 : Int32) dX6_tell_25 (by decide) ?_
        exact g_iret C hrt9 hlk (u := (ms, mb, my, mw, ml, mo, gm, gs, ga, gg, gb, gu, gh, gk, gl, gt)) rfl h dX6_tell_27
    · replace h := h.1 c_4
      exact g_sub [] rfl (t_B_X6_tell_16 C hrt9 hlk  ms mb my mw ml mo gm gs ga gg gb gu gh gk gl gt  h)
theorem c_X6_tell (l : Launch) (D : va_G) (A : Nat → Prop) (ad : Nat → Nat) (cA : Nat → ClassId) (v1 : Int32) (v2 : Int32) (v3 : Int32) {ms : (Nat → Int32)} {mb : (Nat → Int32)} {my : (Nat → Int32)} {mt : (Nat → Int32)} {mw : (Nat → Int32)} {ml : (Nat → Int32)} {mo : (Nat → Int32)} {gm : Int32} {gs : Int32} {ga : Int32} {gg : Int32} {gb : Int32} {gu : Int32} {gh : Int32} {gk : Int32} {gl : Int32} {gn : Int32} {gt : Int32}  (Q : Int32 → (Nat → Int32) → (Nat → Int32) → (Nat → Int32) → (Nat → Int32) → (Nat → Int32) → (Nat → Int32) → Int32 → Int32 → Int32 → Int32 → Int32 → Int32 → Int32 → Int32 → Int32 → Int32 → Prop) (h : F_X6_tell v1 v2 v3 ms mb my mw ml mo gm gs ga gg gb gu gh gk gl gt Q) : Met l yX6_tell wsX6_tell rmX6_tell (va_Pc [.ref (ad 0), .int v1, .int v2, .int v3] (OKX D (tysX cA) (WM ad cA ms mb my mt mw ml mo gm gs ga gg gb gu gh gk gl gn gt) A)) (QC_X6_tell D A ad cA mt gn Q) 0 0 A :=
  g_met (own := RX6) (by decide) rfl rfl (Nat.le_of_ble_eq_true rfl) (fun p e s m below meth c C hrt9 hlk _ => g_sub [0, 1, 2, 3] rfl (t_B_X6_tell_0 C hrt9 hlk v1 v2 v3 ms mb my mw ml mo gm gs ga gg gb gu gh gk gl gt  h))
theorem k_X6_tell {ws : List Cond} {own : String} {cc : ByteArray} {nL pc index : Nat} {lv : List (Nat × Value)} {st : List Value} {Q : State → Prop} {R : Room} {K : Int32 → (Nat → Int32) → (Nat → Int32) → (Nat → Int32) → (Nat → Int32) → (Nat → Int32) → (Nat → Int32) → Int32 → Int32 → Int32 → Int32 → Int32 → Int32 → Int32 → Int32 → Int32 → Int32 → Prop} {v1 : Int32} {v2 : Int32} {v3 : Int32} (C : CxX p s m args c D (tysX cA) own cc nL ws) (hT : GoodIn ws (wsV own index RX6 yX6_tell wsX6_tell)) (hR : rmX6_tell.frames + 1 ≤ R.frames ∧ 8 + (4 + 11) + rmX6_tell.locals ≤ R.locals) (hcat : (st.map fun v => v.category).sum ≤ 8) (hdg : decode cc pc = .ok (.invokevirtual index, 3))  (h : F_X6_tell v1 v2 v3 ms mb my mw ml mo gm gs ga gg gb gu gh gk gl gt K) (kk : ∀ (r : Int32) (msq : (Nat → Int32)) (mbq : (Nat → Int32)) (myq : (Nat → Int32)) (mwq : (Nat → Int32)) (mlq : (Nat → Int32)) (moq : (Nat → Int32)) (gmq : Int32) (gsq : Int32) (gaq : Int32) (ggq : Int32) (gbq : Int32) (guq : Int32) (ghq : Int32) (gkq : Int32) (glq : Int32) (gtq : Int32), K r msq mbq myq mwq mlq moq gmq gsq gaq ggq gbq guq ghq gkq glq gtq → GoX p l e R s m args below meth c D A nL 0 0 Q (pc + 3) lv (.int r :: st) (WM ad cA msq mbq myq mt mwq mlq moq gmq gsq gaq ggq gbq guq ghq gkq glq gn gtq)) : GoX p l e R s m args below meth c D A nL 0 0 Q pc lv (.int v3 :: .int v2 :: .int v1 :: .ref (ad 0) :: st) (WM ad cA ms mb my mt mw ml mo gm gs ga gg gb gu gh gk gl gn gt) :=
  g_callVi C (As := [.int v1, .int v2, .int v3]) 3 (c_X6_tell l D A ad cA v1 v2 v3  K h) hT rfl rfl rfl (by decide +kernel) hR 0 WMg0 rfl rfl rfl hcat hdg (fun r u hu => kk r u.1 u.2.1 u.2.2.1 u.2.2.2.1 u.2.2.2.2.1 u.2.2.2.2.2.1 u.2.2.2.2.2.2.1 u.2.2.2.2.2.2.2.1 u.2.2.2.2.2.2.2.2.1 u.2.2.2.2.2.2.2.2.2.1 u.2.2.2.2.2.2.2.2.2.2.1 u.2.2.2.2.2.2.2.2.2.2.2.1 u.2.2.2.2.2.2.2.2.2.2.2.2.1 u.2.2.2.2.2.2.2.2.2.2.2.2.2.1 u.2.2.2.2.2.2.2.2.2.2.2.2.2.2.1 u.2.2.2.2.2.2.2.2.2.2.2.2.2.2.2 hu)
/-! X6_textFault -/
abbrev rmX6_textFault : Room := { frames := 9, cells := 0, slots := 0, locals := 189 }
abbrev QC_X6_textFault (D : va_G) (A : Nat → Prop) (ad : Nat → Nat) (cA : Nat → ClassId) (ms : (Nat → Int32)) (mb : (Nat → Int32)) (mt : (Nat → Int32)) (mw : (Nat → Int32)) (ml : (Nat → Int32)) (mo : (Nat → Int32)) (gm : Int32) (gn : Int32) (gt : Int32) (Q : Int32 → (Nat → Int32) → Int32 → Int32 → Int32 → Int32 → Int32 → Int32 → Int32 → Int32 → Prop) : Array Value → State → Outcome → State → Prop := va_Qi (fun (r : Int32) (u : (Nat → Int32) × Int32 × Int32 × Int32 × Int32 × Int32 × Int32 × Int32 × Int32) => Q r u.1 u.2.1 u.2.2.1 u.2.2.2.1 u.2.2.2.2.1 u.2.2.2.2.2.1 u.2.2.2.2.2.2.1 u.2.2.2.2.2.2.2.1 u.2.2.2.2.2.2.2.2) (fun u t => OKX D (tysX cA) ((fun u : (Nat → Int32) × Int32 × Int32 × Int32 × Int32 × Int32 × Int32 × Int32 × Int32 => WM ad cA ms mb u.1 mt mw ml mo gm u.2.1 u.2.2.1 u.2.2.2.1 u.2.2.2.2.1 u.2.2.2.2.2.1 u.2.2.2.2.2.2.1 u.2.2.2.2.2.2.2.1 u.2.2.2.2.2.2.2.2 gn gt) u) A t) A
abbrev QP_X6_textFault (D : va_G) (A : Nat → Prop) (ad : Nat → Nat) (cA : Nat → ClassId) (ms : (Nat → Int32)) (mb : (Nat → Int32)) (mt : (Nat → Int32)) (mw : (Nat → Int32)) (ml : (Nat → Int32)) (mo : (Nat → Int32)) (gm : Int32) (gn : Int32) (gt : Int32) (Q : Int32 → (Nat → Int32) → Int32 → Int32 → Int32 → Int32 → Int32 → Int32 → Int32 → Int32 → Prop) (below : List Frame) (args : Array Value) (s : State) : State → Prop := MQ below (QC_X6_textFault D A ad cA ms mb mt mw ml mo gm gn gt Q) args s 0 0 A
noncomputable def L_X6_textFault_2  (Q : Int32 → (Nat → Int32) → Int32 → Int32 → Int32 → Int32 → Int32 → Int32 → Int32 → Int32 → Prop) (mt : (Nat → Int32)) (gn : Int32) (n9 : Nat) : Int32 → (Nat → Int32) → Int32 → Int32 → Int32 → Int32 → Int32 → Int32 → Int32 → Int32 → Prop := Nat.rec (motive := fun _ => Int32 → (Nat → Int32) → Int32 → Int32 → Int32 → Int32 → Int32 → Int32 → Int32 → Int32 → Prop) (fun _ _ _ _ _ _ _ _ _ _ => False) (fun _ kh2 => fun v1 my gs ga gg gb gu gh gk gl => ((gn ≤ v1 → (F_X6_faultOf gn my gs ga gg gb gu gh gk gl (fun r_2 gs_3 ga_4 gg_5 gb_6 gu_7 gh_8 gk_9 gl_10 => (Q r_2 my gs_3 ga_4 gg_5 gb_6 gu_7 gh_8 gk_9 gl_10)))) ∧ (¬ gn ≤ v1 → (vp_in v1 20 ∧ (vp_in v1 20 ∧ (kh2 (v1 + (1 : Int32)) (upd my v1.toNatClampNeg (vp_nar .char (mt v1.toNatClampNeg))) gs ga gg gb gu gh gk gl)))))) n9
def B_X6_textFault_0  (Q : Int32 → (Nat → Int32) → Int32 → Int32 → Int32 → Int32 → Int32 → Int32 → Int32 → Int32 → Prop) (mt : (Nat → Int32)) (gn : Int32)  (my : (Nat → Int32)) (gs : Int32) (ga : Int32) (gg : Int32) (gb : Int32) (gu : Int32) (gh : Int32) (gk : Int32) (gl : Int32) : Prop := (∃ n9 : Nat, L_X6_textFault_2  Q mt gn n9 (0 : Int32) my gs ga gg gb gu gh gk gl)
def F_X6_textFault  (mt : (Nat → Int32)) (gn : Int32) (my : (Nat → Int32)) (gs : Int32) (ga : Int32) (gg : Int32) (gb : Int32) (gu : Int32) (gh : Int32) (gk : Int32) (gl : Int32) (Q : Int32 → (Nat → Int32) → Int32 → Int32 → Int32 → Int32 → Int32 → Int32 → Int32 → Int32 → Prop) : Prop := B_X6_textFault_0 Q mt gn  my gs ga gg gb gu gh gk gl
theorem lkX6_textFault_20 : Cond.fieldLink RX6 20 (TX6 3).1 (TX6 3).2.1 (TX6 3).2.2.1 ∈ wsX6_textFault := by decide +kernel
theorem lkX6_textFault_16 : Cond.fieldLink RX6 16 (TX6 2).1 (TX6 2).2.1 (TX6 2).2.2.1 ∈ wsX6_textFault := by decide +kernel
theorem lkX6_textFault_184 : Cond.fieldLink RX6 184 (TX6 16).1 (TX6 16).2.1 (TX6 16).2.2.1 ∈ wsX6_textFault := by decide +kernel
theorem inX6_textFault_6 : ∀ q ∈ u_ws RX6 TX6 18, q ∈ wsX6_textFault := by decide +kernel
set_option maxHeartbeats 4000000 in
set_option maxRecDepth 100000 in
theorem t_L_X6_textFault_2  {Q : Int32 → (Nat → Int32) → Int32 → Int32 → Int32 → Int32 → Int32 → Int32 → Int32 → Int32 → Prop} (C : CxX p s m args c D (tysX cA) RX6 cX6_textFault 2 wsX6_textFault) (hrt9 : meth.sig.returnType = (some .int)) (hlk : meth.locks = false) (m9 : Nat) : ∀ (v1 : Int32) (my : (Nat → Int32)) (gs : Int32) (ga : Int32) (gg : Int32) (gb : Int32) (gu : Int32) (gh : Int32) (gk : Int32) (gl : Int32) , L_X6_textFault_2  Q mt gn m9 v1 my gs ga gg gb gu gh gk gl → GoX p l e rmX6_textFault s m args below meth c D A 2 0 0 (QP_X6_textFault D A ad cA ms mb mt mw ml mo gm gn gt Q below args s) 2 [(0, .ref (ad 0)), (1, .int v1)] [] (WM ad cA ms mb my mt mw ml mo gm gs ga gg gb gu gh gk gl gn gt) := by
  induction m9 with
  | zero =>
    intro v1 my gs ga gg gb gu gh gk gl h
    exact False.elim h
  | succ m9 Hk2 =>
    intro v1 my gs ga gg gb gu gh gk gl h
    replace h : ((gn ≤ v1 → (F_X6_faultOf gn my gs ga gg gb gu gh gk gl (fun r_2 gs_3 ga_4 gg_5 gb_6 gu_7 gh_8 gk_9 gl_10 => (Q r_2 my gs_3 ga_4 gg_5 gb_6 gu_7 gh_8 gk_9 gl_10)))) ∧ (¬ gn ≤ v1 → (vp_in v1 20 ∧ (vp_in v1 20 ∧ ((L_X6_textFault_2  Q mt gn m9) (v1 + (1 : Int32)) (upd my v1.toNatClampNeg (vp_nar .char (mt v1.toNatClampNeg))) gs ga gg gb gu gh gk gl))))) := h
    refine g_iload_n C 1 dX6_textFault_2 rfl rfl ?_
    refine g_aload_n C 0 dX6_textFault_3 rfl rfl ?_
    refine g_get C inX6_textFault_6 0 WMg0 rfl 16 (by decide) lkX6_textFault_184 rfl dX6_textFault_4 ?_
    refine g_icmp_ge C 28 dX6_textFault_7 (by decide) (fun c_1 => ?_) (fun c_1 => ?_)
    · replace h := h.1 c_1
      refine g_aload_n C 0 dX6_textFault_28 rfl rfl ?_
      refine g_aload_n C 0 dX6_textFault_29 rfl rfl ?_
      refine g_get C inX6_textFault_6 0 WMg0 rfl 16 (by decide) lkX6_textFault_184 rfl dX6_textFault_30 ?_
      refine k_X6_faultOf C gX6_textFault_X6_faultOf ⟨Nat.le_of_ble_eq_true rfl, Nat.le_of_ble_eq_true rfl⟩ (Nat.le_of_ble_eq_true rfl) dX6_textFault_33  h (fun r_2 gs_3 ga_4 gg_5 gb_6 gu_7 gh_8 gk_9 gl_10 h => ?_)
      exact g_iret C hrt9 hlk (u := (my, gs_3, ga_4, gg_5, gb_6, gu_7, gh_8, gk_9, gl_10)) rfl h dX6_textFault_36
    · replace h := h.2 c_1
      refine g_aload_n C 0 dX6_textFault_10 rfl rfl ?_
      refine g_get C inX6_textFault_6 0 WMg0 rfl 2 (by decide) lkX6_textFault_16 rfl dX6_textFault_11 ?_
      refine g_iload_n C 1 dX6_textFault_14 rfl rfl ?_
      refine g_aload_n C 0 dX6_textFault_15 rfl rfl ?_
      refine g_get C inX6_textFault_6 0 WMg0 rfl 3 (by decide) lkX6_textFault_20 rfl dX6_textFault_16 ?_
      refine g_iload_n C 1 dX6_textFault_19 rfl rfl ?_
      refine g_cald C 4 0 WMg4 rfl h.1 dX6_textFault_20 ?_
      replace h := h.2
      refine g_cast C 3 0 WMg3 rfl h.1 WMs_my dX6_textFault_21 ?_
      replace h := h.2
      refine g_iinc C (v := (v1 + (1 : Int32))) (lv2 := [(1, .int (v1 + (1 : Int32))), (0, .ref (ad 0))]) 1 dX6_textFault_22 rfl rfl (by decide) rfl ?_
      refine g_goto C 2 dX6_textFault_25 (by decide) ?_
      exact g_sub [1, 0] rfl (Hk2 (v1 + (1 : Int32)) (upd my v1.toNatClampNeg (vp_nar .char (mt v1.toNatClampNeg))) gs ga gg gb gu gh gk gl  h)
set_option maxHeartbeats 4000000 in
set_option maxRecDepth 100000 in
theorem t_B_X6_textFault_0  {Q : Int32 → (Nat → Int32) → Int32 → Int32 → Int32 → Int32 → Int32 → Int32 → Int32 → Int32 → Prop} (C : CxX p s m args c D (tysX cA) RX6 cX6_textFault 2 wsX6_textFault) (hrt9 : meth.sig.returnType = (some .int)) (hlk : meth.locks = false)  (my : (Nat → Int32)) (gs : Int32) (ga : Int32) (gg : Int32) (gb : Int32) (gu : Int32) (gh : Int32) (gk : Int32) (gl : Int32)  (h : B_X6_textFault_0  Q mt gn my gs ga gg gb gu gh gk gl) : GoX p l e rmX6_textFault s m args below meth c D A 2 0 0 (QP_X6_textFault D A ad cA ms mb mt mw ml mo gm gn gt Q below args s) 0 [(0, .ref (ad 0))] [] (WM ad cA ms mb my mt mw ml mo gm gs ga gg gb gu gh gk gl gn gt) := by
  replace h : (∃ n9 : Nat, L_X6_textFault_2  Q mt gn n9 (0 : Int32) my gs ga gg gb gu gh gk gl) := h
  refine g_iconst C (0 : Int32) dX6_textFault_0 (by decide) ?_
  refine g_istore_n C (lv2 := [(1, .int (0 : Int32)), (0, .ref (ad 0))]) dX6_textFault_1 rfl (by decide) rfl ?_
  obtain ⟨n9, h⟩ := h
  exact g_sub [1, 0] rfl (t_L_X6_textFault_2 C hrt9 hlk  n9 (0 : Int32) my gs ga gg gb gu gh gk gl  h)
theorem c_X6_textFault (l : Launch) (D : va_G) (A : Nat → Prop) (ad : Nat → Nat) (cA : Nat → ClassId)  {ms : (Nat → Int32)} {mb : (Nat → Int32)} {my : (Nat → Int32)} {mt : (Nat → Int32)} {mw : (Nat → Int32)} {ml : (Nat → Int32)} {mo : (Nat → Int32)} {gm : Int32} {gs : Int32} {ga : Int32} {gg : Int32} {gb : Int32} {gu : Int32} {gh : Int32} {gk : Int32} {gl : Int32} {gn : Int32} {gt : Int32}  (Q : Int32 → (Nat → Int32) → Int32 → Int32 → Int32 → Int32 → Int32 → Int32 → Int32 → Int32 → Prop) (h : F_X6_textFault mt gn my gs ga gg gb gu gh gk gl Q) : Met l yX6_textFault wsX6_textFault rmX6_textFault (va_Pc [.ref (ad 0)] (OKX D (tysX cA) (WM ad cA ms mb my mt mw ml mo gm gs ga gg gb gu gh gk gl gn gt) A)) (QC_X6_textFault D A ad cA ms mb mt mw ml mo gm gn gt Q) 0 0 A :=
  g_met (own := RX6) (by decide) rfl rfl (Nat.le_of_ble_eq_true rfl) (fun p e s m below meth c C hrt9 hlk _ => g_sub [0] rfl (t_B_X6_textFault_0 C hrt9 hlk  my gs ga gg gb gu gh gk gl  h))
theorem k_X6_textFault {ws : List Cond} {own : String} {cc : ByteArray} {nL pc index : Nat} {lv : List (Nat × Value)} {st : List Value} {Q : State → Prop} {R : Room} {K : Int32 → (Nat → Int32) → Int32 → Int32 → Int32 → Int32 → Int32 → Int32 → Int32 → Int32 → Prop}  (C : CxX p s m args c D (tysX cA) own cc nL ws) (hT : GoodIn ws (wsV own index RX6 yX6_textFault wsX6_textFault)) (hR : rmX6_textFault.frames + 1 ≤ R.frames ∧ 8 + (2 + 11) + rmX6_textFault.locals ≤ R.locals) (hcat : (st.map fun v => v.category).sum ≤ 8) (hdg : decode cc pc = .ok (.invokevirtual index, 3))  (h : F_X6_textFault mt gn my gs ga gg gb gu gh gk gl K) (kk : ∀ (r : Int32) (myq : (Nat → Int32)) (gsq : Int32) (gaq : Int32) (ggq : Int32) (gbq : Int32) (guq : Int32) (ghq : Int32) (gkq : Int32) (glq : Int32), K r myq gsq gaq ggq gbq guq ghq gkq glq → GoX p l e R s m args below meth c D A nL 0 0 Q (pc + 3) lv (.int r :: st) (WM ad cA ms mb myq mt mw ml mo gm gsq gaq ggq gbq guq ghq gkq glq gn gt)) : GoX p l e R s m args below meth c D A nL 0 0 Q pc lv (.ref (ad 0) :: st) (WM ad cA ms mb my mt mw ml mo gm gs ga gg gb gu gh gk gl gn gt) :=
  g_callVi C (As := []) 0 (c_X6_textFault l D A ad cA   K h) hT rfl rfl rfl (by decide +kernel) hR 0 WMg0 rfl rfl rfl hcat hdg (fun r u hu => kk r u.1 u.2.1 u.2.2.1 u.2.2.2.1 u.2.2.2.2.1 u.2.2.2.2.2.1 u.2.2.2.2.2.2.1 u.2.2.2.2.2.2.2.1 u.2.2.2.2.2.2.2.2 hu)
/-! X6_tellText -/
abbrev rmX6_tellText : Room := { frames := 11, cells := 0, slots := 0, locals := 238 }
abbrev QC_X6_tellText (D : va_G) (A : Nat → Prop) (ad : Nat → Nat) (cA : Nat → ClassId) (mt : (Nat → Int32)) (mw : (Nat → Int32)) (ml : (Nat → Int32)) (mo : (Nat → Int32)) (gm : Int32) (gn : Int32) (Q : Int32 → (Nat → Int32) → (Nat → Int32) → (Nat → Int32) → Int32 → Int32 → Int32 → Int32 → Int32 → Int32 → Int32 → Int32 → Int32 → Prop) : Array Value → State → Outcome → State → Prop := va_Qi (fun (r : Int32) (u : (Nat → Int32) × (Nat → Int32) × (Nat → Int32) × Int32 × Int32 × Int32 × Int32 × Int32 × Int32 × Int32 × Int32 × Int32) => Q r u.1 u.2.1 u.2.2.1 u.2.2.2.1 u.2.2.2.2.1 u.2.2.2.2.2.1 u.2.2.2.2.2.2.1 u.2.2.2.2.2.2.2.1 u.2.2.2.2.2.2.2.2.1 u.2.2.2.2.2.2.2.2.2.1 u.2.2.2.2.2.2.2.2.2.2.1 u.2.2.2.2.2.2.2.2.2.2.2) (fun u t => OKX D (tysX cA) ((fun u : (Nat → Int32) × (Nat → Int32) × (Nat → Int32) × Int32 × Int32 × Int32 × Int32 × Int32 × Int32 × Int32 × Int32 × Int32 => WM ad cA u.1 u.2.1 u.2.2.1 mt mw ml mo gm u.2.2.2.1 u.2.2.2.2.1 u.2.2.2.2.2.1 u.2.2.2.2.2.2.1 u.2.2.2.2.2.2.2.1 u.2.2.2.2.2.2.2.2.1 u.2.2.2.2.2.2.2.2.2.1 u.2.2.2.2.2.2.2.2.2.2.1 gn u.2.2.2.2.2.2.2.2.2.2.2) u) A t) A
abbrev QP_X6_tellText (D : va_G) (A : Nat → Prop) (ad : Nat → Nat) (cA : Nat → ClassId) (mt : (Nat → Int32)) (mw : (Nat → Int32)) (ml : (Nat → Int32)) (mo : (Nat → Int32)) (gm : Int32) (gn : Int32) (Q : Int32 → (Nat → Int32) → (Nat → Int32) → (Nat → Int32) → Int32 → Int32 → Int32 → Int32 → Int32 → Int32 → Int32 → Int32 → Int32 → Prop) (below : List Frame) (args : Array Value) (s : State) : State → Prop := MQ below (QC_X6_tellText D A ad cA mt mw ml mo gm gn Q) args s 0 0 A
def B_X6_tellText_0  (Q : Int32 → (Nat → Int32) → (Nat → Int32) → (Nat → Int32) → Int32 → Int32 → Int32 → Int32 → Int32 → Int32 → Int32 → Int32 → Int32 → Prop) (mt : (Nat → Int32)) (gn : Int32) (v1 : Int32) (ms : (Nat → Int32)) (mb : (Nat → Int32)) (my : (Nat → Int32)) (gs : Int32) (ga : Int32) (gg : Int32) (gb : Int32) (gu : Int32) (gh : Int32) (gk : Int32) (gl : Int32) (gt : Int32) : Prop := (F_X6_isHearer v1 (fun r_1 => ((r_1 = 0 → (Q (-1 : Int32) ms mb my gs ga gg gb gu gh gk gl gt)) ∧ (¬ r_1 = 0 → (F_X6_textFault mt gn my gs ga gg gb gu gh gk gl (fun r_3 my_4 gs_5 ga_6 gg_7 gb_8 gu_9 gh_10 gk_11 gl_12 => ((r_3 < 0 → (F_X6_meaningBy (1 : Int32) (1 : Int32) (1 : Int32) gg_7 gb_8 gu_9 gh_10 gk_11 gl_12 (fun r_14 => (F_X6_tells v1 r_14 gn my_4 ms mb gs_5 ga_6 gg_7 gb_8 gu_9 gh_10 gk_11 gl_12 gt (fun r_15 ms_16 mb_17 gs_18 ga_19 gg_20 gb_21 gu_22 gh_23 gk_24 gl_25 gt_26 => (Q r_15 ms_16 mb_17 my_4 gs_18 ga_19 gg_20 gb_21 gu_22 gh_23 gk_24 gl_25 gt_26)))))) ∧ (¬ r_3 < 0 → (Q (-3 : Int32) ms mb my_4 gs_5 ga_6 gg_7 gb_8 gu_9 gh_10 gk_11 gl_12 gt)))))))))
def F_X6_tellText (v1 : Int32) (mt : (Nat → Int32)) (gn : Int32) (ms : (Nat → Int32)) (mb : (Nat → Int32)) (my : (Nat → Int32)) (gs : Int32) (ga : Int32) (gg : Int32) (gb : Int32) (gu : Int32) (gh : Int32) (gk : Int32) (gl : Int32) (gt : Int32) (Q : Int32 → (Nat → Int32) → (Nat → Int32) → (Nat → Int32) → Int32 → Int32 → Int32 → Int32 → Int32 → Int32 → Int32 → Int32 → Int32 → Prop) : Prop := B_X6_tellText_0 Q mt gn v1 ms mb my gs ga gg gb gu gh gk gl gt
theorem lkX6_tellText_184 : Cond.fieldLink RX6 184 (TX6 16).1 (TX6 16).2.1 (TX6 16).2.2.1 ∈ wsX6_tellText := by decide +kernel
theorem inX6_tellText_6 : ∀ q ∈ u_ws RX6 TX6 18, q ∈ wsX6_tellText := by decide +kernel
set_option maxHeartbeats 4000000 in
set_option maxRecDepth 100000 in
theorem t_B_X6_tellText_0  {Q : Int32 → (Nat → Int32) → (Nat → Int32) → (Nat → Int32) → Int32 → Int32 → Int32 → Int32 → Int32 → Int32 → Int32 → Int32 → Int32 → Prop} (C : CxX p s m args c D (tysX cA) RX6 cX6_tellText 2 wsX6_tellText) (hrt9 : meth.sig.returnType = (some .int)) (hlk : meth.locks = false) (v1 : Int32) (ms : (Nat → Int32)) (mb : (Nat → Int32)) (my : (Nat → Int32)) (gs : Int32) (ga : Int32) (gg : Int32) (gb : Int32) (gu : Int32) (gh : Int32) (gk : Int32) (gl : Int32) (gt : Int32)  (h : B_X6_tellText_0  Q mt gn v1 ms mb my gs ga gg gb gu gh gk gl gt) : GoX p l e rmX6_tellText s m args below meth c D A 2 0 0 (QP_X6_tellText D A ad cA mt mw ml mo gm gn Q below args s) 0 [(0, .ref (ad 0)), (1, .int v1)] [] (WM ad cA ms mb my mt mw ml mo gm gs ga gg gb gu gh gk gl gn gt) := by
  replace h : (F_X6_isHearer v1 (fun r_1 => ((r_1 = 0 → (Q (-1 : Int32) ms mb my gs ga gg gb gu gh gk gl gt)) ∧ (¬ r_1 = 0 → (F_X6_textFault mt gn my gs ga gg gb gu gh gk gl (fun r_3 my_4 gs_5 ga_6 gg_7 gb_8 gu_9 gh_10 gk_11 gl_12 => ((r_3 < 0 → (F_X6_meaningBy (1 : Int32) (1 : Int32) (1 : Int32) gg_7 gb_8 gu_9 gh_10 gk_11 gl_12 (fun r_14 => (F_X6_tells v1 r_14 gn my_4 ms mb gs_5 ga_6 gg_7 gb_8 gu_9 gh_10 gk_11 gl_12 gt (fun r_15 ms_16 mb_17 gs_18 ga_19 gg_20 gb_21 gu_22 gh_23 gk_24 gl_25 gt_26 => (Q r_15 ms_16 mb_17 my_4 gs_18 ga_19 gg_20 gb_21 gu_22 gh_23 gk_24 gl_25 gt_26)))))) ∧ (¬ r_3 < 0 → (Q (-3 : Int32) ms mb my_4 gs_5 ga_6 gg_7 gb_8 gu_9 gh_10 gk_11 gl_12 gt))))))))) := h
  refine g_iload_n C 1 dX6_tellText_0 rfl rfl ?_
  refine k_X6_isHearer C gX6_tellText_X6_isHearer ⟨Nat.le_of_ble_eq_true rfl, Nat.le_of_ble_eq_true rfl⟩ (Nat.le_of_ble_eq_true rfl) dX6_tellText_1  h (fun r_1 h => ?_)
  refine g_if_ne C 9 dX6_tellText_4 (by decide) (fun c_2 => ?_) (fun c_2 => ?_)
  · replace h := h.2 c_2
    refine g_aload_n C 0 dX6_tellText_9 rfl rfl ?_
    refine k_X6_textFault C gX6_tellText_X6_textFault ⟨Nat.le_of_ble_eq_true rfl, Nat.le_of_ble_eq_true rfl⟩ (Nat.le_of_ble_eq_true rfl) dX6_tellText_10  h (fun r_3 my_4 gs_5 ga_6 gg_7 gb_8 gu_9 gh_10 gk_11 gl_12 h => ?_)
    refine g_if_lt C 19 dX6_tellText_13 (by decide) (fun c_13 => ?_) (fun c_13 => ?_)
    · replace h := h.1 c_13
      refine g_aload_n C 0 dX6_tellText_19 rfl rfl ?_
      refine g_iload_n C 1 dX6_tellText_20 rfl rfl ?_
      refine g_aload_n C 0 dX6_tellText_21 rfl rfl ?_
      refine g_iconst C (1 : Int32) dX6_tellText_22 (by decide) ?_
      refine g_iconst C (1 : Int32) dX6_tellText_23 (by decide) ?_
      refine g_iconst C (1 : Int32) dX6_tellText_24 (by decide) ?_
      refine k_X6_meaningBy C gX6_tellText_X6_meaningBy ⟨Nat.le_of_ble_eq_true rfl, Nat.le_of_ble_eq_true rfl⟩ (Nat.le_of_ble_eq_true rfl) dX6_tellText_25  h (fun r_14 h => ?_)
      refine g_aload_n C 0 dX6_tellText_28 rfl rfl ?_
      refine g_get C inX6_tellText_6 0 WMg0 rfl 16 (by decide) lkX6_tellText_184 rfl dX6_tellText_29 ?_
      refine k_X6_tells C gX6_tellText_X6_tells ⟨Nat.le_of_ble_eq_true rfl, Nat.le_of_ble_eq_true rfl⟩ (Nat.le_of_ble_eq_true rfl) dX6_tellText_32  h (fun r_15 ms_16 mb_17 gs_18 ga_19 gg_20 gb_21 gu_22 gh_23 gk_24 gl_25 gt_26 h => ?_)
      exact g_iret C hrt9 hlk (u := (ms_16, mb_17, my_4, gs_18, ga_19, gg_20, gb_21, gu_22, gh_23, gk_24, gl_25, gt_26)) rfl h dX6_tellText_35
    · replace h := h.2 c_13
      refine g_bipush C (-3 : Int32) dX6_tellText_16 (by decide) ?_
      exact g_iret C hrt9 hlk (u := (ms, mb, my_4, gs_5, ga_6, gg_7, gb_8, gu_9, gh_10, gk_11, gl_12, gt)) rfl h dX6_tellText_18
  · replace h := h.1 c_2
    refine g_iconst C (-1 : Int32) dX6_tellText_7 (by decide) ?_
    exact g_iret C hrt9 hlk (u := (ms, mb, my, gs, ga, gg, gb, gu, gh, gk, gl, gt)) rfl h dX6_tellText_8
theorem c_X6_tellText (l : Launch) (D : va_G) (A : Nat → Prop) (ad : Nat → Nat) (cA : Nat → ClassId) (v1 : Int32) {ms : (Nat → Int32)} {mb : (Nat → Int32)} {my : (Nat → Int32)} {mt : (Nat → Int32)} {mw : (Nat → Int32)} {ml : (Nat → Int32)} {mo : (Nat → Int32)} {gm : Int32} {gs : Int32} {ga : Int32} {gg : Int32} {gb : Int32} {gu : Int32} {gh : Int32} {gk : Int32} {gl : Int32} {gn : Int32} {gt : Int32}  (Q : Int32 → (Nat → Int32) → (Nat → Int32) → (Nat → Int32) → Int32 → Int32 → Int32 → Int32 → Int32 → Int32 → Int32 → Int32 → Int32 → Prop) (h : F_X6_tellText v1 mt gn ms mb my gs ga gg gb gu gh gk gl gt Q) : Met l yX6_tellText wsX6_tellText rmX6_tellText (va_Pc [.ref (ad 0), .int v1] (OKX D (tysX cA) (WM ad cA ms mb my mt mw ml mo gm gs ga gg gb gu gh gk gl gn gt) A)) (QC_X6_tellText D A ad cA mt mw ml mo gm gn Q) 0 0 A :=
  g_met (own := RX6) (by decide) rfl rfl (Nat.le_of_ble_eq_true rfl) (fun p e s m below meth c C hrt9 hlk _ => g_sub [0, 1] rfl (t_B_X6_tellText_0 C hrt9 hlk v1 ms mb my gs ga gg gb gu gh gk gl gt  h))
theorem k_X6_tellText {ws : List Cond} {own : String} {cc : ByteArray} {nL pc index : Nat} {lv : List (Nat × Value)} {st : List Value} {Q : State → Prop} {R : Room} {K : Int32 → (Nat → Int32) → (Nat → Int32) → (Nat → Int32) → Int32 → Int32 → Int32 → Int32 → Int32 → Int32 → Int32 → Int32 → Int32 → Prop} {v1 : Int32} (C : CxX p s m args c D (tysX cA) own cc nL ws) (hT : GoodIn ws (wsV own index RX6 yX6_tellText wsX6_tellText)) (hR : rmX6_tellText.frames + 1 ≤ R.frames ∧ 8 + (2 + 11) + rmX6_tellText.locals ≤ R.locals) (hcat : (st.map fun v => v.category).sum ≤ 8) (hdg : decode cc pc = .ok (.invokevirtual index, 3))  (h : F_X6_tellText v1 mt gn ms mb my gs ga gg gb gu gh gk gl gt K) (kk : ∀ (r : Int32) (msq : (Nat → Int32)) (mbq : (Nat → Int32)) (myq : (Nat → Int32)) (gsq : Int32) (gaq : Int32) (ggq : Int32) (gbq : Int32) (guq : Int32) (ghq : Int32) (gkq : Int32) (glq : Int32) (gtq : Int32), K r msq mbq myq gsq gaq ggq gbq guq ghq gkq glq gtq → GoX p l e R s m args below meth c D A nL 0 0 Q (pc + 3) lv (.int r :: st) (WM ad cA msq mbq myq mt mw ml mo gm gsq gaq ggq gbq guq ghq gkq glq gn gtq)) : GoX p l e R s m args below meth c D A nL 0 0 Q pc lv (.int v1 :: .ref (ad 0) :: st) (WM ad cA ms mb my mt mw ml mo gm gs ga gg gb gu gh gk gl gn gt) :=
  g_callVi C (As := [.int v1]) 1 (c_X6_tellText l D A ad cA v1  K h) hT rfl rfl rfl (by decide +kernel) hR 0 WMg0 rfl rfl rfl hcat hdg (fun r u hu => kk r u.1 u.2.1 u.2.2.1 u.2.2.2.1 u.2.2.2.2.1 u.2.2.2.2.2.1 u.2.2.2.2.2.2.1 u.2.2.2.2.2.2.2.1 u.2.2.2.2.2.2.2.2.1 u.2.2.2.2.2.2.2.2.2.1 u.2.2.2.2.2.2.2.2.2.2.1 u.2.2.2.2.2.2.2.2.2.2.2 hu)
/-! X6_append -/
abbrev rmX6_append : Room := { frames := 1, cells := 0, slots := 0, locals := 22 }
abbrev QC_X6_append (D : va_G) (A : Nat → Prop) (ad : Nat → Nat) (cA : Nat → ClassId) (ms : (Nat → Int32)) (mb : (Nat → Int32)) (my : (Nat → Int32)) (mw : (Nat → Int32)) (ml : (Nat → Int32)) (mo : (Nat → Int32)) (gm : Int32) (gs : Int32) (ga : Int32) (gg : Int32) (gb : Int32) (gu : Int32) (gh : Int32) (gk : Int32) (gl : Int32) (gt : Int32) (Q : Int32 → (Nat → Int32) → Int32 → Prop) : Array Value → State → Outcome → State → Prop := va_Qi (fun (r : Int32) (u : (Nat → Int32) × Int32) => Q r u.1 u.2) (fun u t => OKX D (tysX cA) ((fun u : (Nat → Int32) × Int32 => WM ad cA ms mb my u.1 mw ml mo gm gs ga gg gb gu gh gk gl u.2 gt) u) A t) A
abbrev QP_X6_append (D : va_G) (A : Nat → Prop) (ad : Nat → Nat) (cA : Nat → ClassId) (ms : (Nat → Int32)) (mb : (Nat → Int32)) (my : (Nat → Int32)) (mw : (Nat → Int32)) (ml : (Nat → Int32)) (mo : (Nat → Int32)) (gm : Int32) (gs : Int32) (ga : Int32) (gg : Int32) (gb : Int32) (gu : Int32) (gh : Int32) (gk : Int32) (gl : Int32) (gt : Int32) (Q : Int32 → (Nat → Int32) → Int32 → Prop) (below : List Frame) (args : Array Value) (s : State) : State → Prop := MQ below (QC_X6_append D A ad cA ms mb my mw ml mo gm gs ga gg gb gu gh gk gl gt Q) args s 0 0 A
def B_X6_append_0  (Q : Int32 → (Nat → Int32) → Int32 → Prop)  (v1 : Int32) (mt : (Nat → Int32)) (gn : Int32) : Prop := (F_X6_in v1 (32 : Int32) (126 : Int32) (fun r_1 => ((r_1 = 0 → (Q (-2 : Int32) mt gn)) ∧ (¬ r_1 = 0 → ((gn = (20 : Int32) → (Q (-4 : Int32) mt gn)) ∧ (¬ gn = (20 : Int32) → (vp_in gn 20 ∧ (Q (gn + (1 : Int32)) (upd mt gn.toNatClampNeg (vp_nar .char ((v1.toUInt32 % 65536).toInt32))) (gn + (1 : Int32))))))))))
def F_X6_append (v1 : Int32)  (mt : (Nat → Int32)) (gn : Int32) (Q : Int32 → (Nat → Int32) → Int32 → Prop) : Prop := B_X6_append_0 Q  v1 mt gn
theorem lkX6_append_20 : Cond.fieldLink RX6 20 (TX6 3).1 (TX6 3).2.1 (TX6 3).2.2.1 ∈ wsX6_append := by decide +kernel
theorem lkX6_append_184 : Cond.fieldLink RX6 184 (TX6 16).1 (TX6 16).2.1 (TX6 16).2.2.1 ∈ wsX6_append := by decide +kernel
theorem inX6_append_6 : ∀ q ∈ u_ws RX6 TX6 18, q ∈ wsX6_append := by decide +kernel
set_option maxHeartbeats 4000000 in
set_option maxRecDepth 100000 in
theorem t_B_X6_append_0  {Q : Int32 → (Nat → Int32) → Int32 → Prop} (C : CxX p s m args c D (tysX cA) RX6 cX6_append 2 wsX6_append) (hrt9 : meth.sig.returnType = (some .int)) (hlk : meth.locks = false) (v1 : Int32) (mt : (Nat → Int32)) (gn : Int32)  (h : B_X6_append_0  Q  v1 mt gn) : GoX p l e rmX6_append s m args below meth c D A 2 0 0 (QP_X6_append D A ad cA ms mb my mw ml mo gm gs ga gg gb gu gh gk gl gt Q below args s) 0 [(0, .ref (ad 0)), (1, .int v1)] [] (WM ad cA ms mb my mt mw ml mo gm gs ga gg gb gu gh gk gl gn gt) := by
  replace h : (F_X6_in v1 (32 : Int32) (126 : Int32) (fun r_1 => ((r_1 = 0 → (Q (-2 : Int32) mt gn)) ∧ (¬ r_1 = 0 → ((gn = (20 : Int32) → (Q (-4 : Int32) mt gn)) ∧ (¬ gn = (20 : Int32) → (vp_in gn 20 ∧ (Q (gn + (1 : Int32)) (upd mt gn.toNatClampNeg (vp_nar .char ((v1.toUInt32 % 65536).toInt32))) (gn + (1 : Int32)))))))))) := h
  refine g_iload_n C 1 dX6_append_0 rfl rfl ?_
  refine g_bipush C (32 : Int32) dX6_append_1 (by decide) ?_
  refine g_bipush C (126 : Int32) dX6_append_3 (by decide) ?_
  refine k_X6_in C gX6_append_X6_in ⟨Nat.le_of_ble_eq_true rfl, Nat.le_of_ble_eq_true rfl⟩ (Nat.le_of_ble_eq_true rfl) dX6_append_5  h (fun r_1 h => ?_)
  refine g_if_ne C 14 dX6_append_8 (by decide) (fun c_2 => ?_) (fun c_2 => ?_)
  · replace h := h.2 c_2
    refine g_aload_n C 0 dX6_append_14 rfl rfl ?_
    refine g_get C inX6_append_6 0 WMg0 rfl 16 (by decide) lkX6_append_184 rfl dX6_append_15 ?_
    refine g_bipush C (20 : Int32) dX6_append_18 (by decide) ?_
    refine g_icmp_ne C 26 dX6_append_20 (by decide) (fun c_3 => ?_) (fun c_3 => ?_)
    · replace h := h.2 c_3
      refine g_aload_n C 0 dX6_append_26 rfl rfl ?_
      refine g_get C inX6_append_6 0 WMg0 rfl 3 (by decide) lkX6_append_20 rfl dX6_append_27 ?_
      refine g_aload_n C 0 dX6_append_30 rfl rfl ?_
      refine g_get C inX6_append_6 0 WMg0 rfl 16 (by decide) lkX6_append_184 rfl dX6_append_31 ?_
      refine g_iload_n C 1 dX6_append_34 rfl rfl ?_
      refine g_i2c C dX6_append_35 ?_
      refine g_cast C 4 0 WMg4 rfl h.1 WMs_mt dX6_append_36 ?_
      replace h := h.2
      refine g_aload_n C 0 dX6_append_37 rfl rfl ?_
      refine g_dup C dX6_append_38 rfl ?_
      refine g_get C inX6_append_6 0 WMg0 rfl 16 (by decide) lkX6_append_184 rfl dX6_append_39 ?_
      refine g_iconst C (1 : Int32) dX6_append_42 (by decide) ?_
      refine g_iadd C dX6_append_43 ?_
      refine g_put C inX6_append_6 tyX6 tyX6_ok nmX6 0 WMg0 rfl 16 (by decide) lkX6_append_184 rfl rfl rfl (Nat.le_of_ble_eq_true rfl) (WMs_gn) dX6_append_44 ?_
      refine g_aload_n C 0 dX6_append_47 rfl rfl ?_
      refine g_get C inX6_append_6 0 WMg0 rfl 16 (by decide) lkX6_append_184 rfl dX6_append_48 ?_
      exact g_iret C hrt9 hlk (u := ((upd mt gn.toNatClampNeg (vp_nar .char ((v1.toUInt32 % 65536).toInt32))), (gn + (1 : Int32)))) rfl h dX6_append_51
    · replace h := h.1 c_3
      refine g_bipush C (-4 : Int32) dX6_append_23 (by decide) ?_
      exact g_iret C hrt9 hlk (u := (mt, gn)) rfl h dX6_append_25
  · replace h := h.1 c_2
    refine g_bipush C (-2 : Int32) dX6_append_11 (by decide) ?_
    exact g_iret C hrt9 hlk (u := (mt, gn)) rfl h dX6_append_13
theorem c_X6_append (l : Launch) (D : va_G) (A : Nat → Prop) (ad : Nat → Nat) (cA : Nat → ClassId) (v1 : Int32) {ms : (Nat → Int32)} {mb : (Nat → Int32)} {my : (Nat → Int32)} {mt : (Nat → Int32)} {mw : (Nat → Int32)} {ml : (Nat → Int32)} {mo : (Nat → Int32)} {gm : Int32} {gs : Int32} {ga : Int32} {gg : Int32} {gb : Int32} {gu : Int32} {gh : Int32} {gk : Int32} {gl : Int32} {gn : Int32} {gt : Int32}  (Q : Int32 → (Nat → Int32) → Int32 → Prop) (h : F_X6_append v1 mt gn Q) : Met l yX6_append wsX6_append rmX6_append (va_Pc [.ref (ad 0), .int v1] (OKX D (tysX cA) (WM ad cA ms mb my mt mw ml mo gm gs ga gg gb gu gh gk gl gn gt) A)) (QC_X6_append D A ad cA ms mb my mw ml mo gm gs ga gg gb gu gh gk gl gt Q) 0 0 A :=
  g_met (own := RX6) (by decide) rfl rfl (Nat.le_of_ble_eq_true rfl) (fun p e s m below meth c C hrt9 hlk _ => g_sub [0, 1] rfl (t_B_X6_append_0 C hrt9 hlk v1 mt gn  h))
theorem k_X6_append {ws : List Cond} {own : String} {cc : ByteArray} {nL pc index : Nat} {lv : List (Nat × Value)} {st : List Value} {Q : State → Prop} {R : Room} {K : Int32 → (Nat → Int32) → Int32 → Prop} {v1 : Int32} (C : CxX p s m args c D (tysX cA) own cc nL ws) (hT : GoodIn ws (wsV own index RX6 yX6_append wsX6_append)) (hR : rmX6_append.frames + 1 ≤ R.frames ∧ 8 + (2 + 11) + rmX6_append.locals ≤ R.locals) (hcat : (st.map fun v => v.category).sum ≤ 8) (hdg : decode cc pc = .ok (.invokevirtual index, 3))  (h : F_X6_append v1 mt gn K) (kk : ∀ (r : Int32) (mtq : (Nat → Int32)) (gnq : Int32), K r mtq gnq → GoX p l e R s m args below meth c D A nL 0 0 Q (pc + 3) lv (.int r :: st) (WM ad cA ms mb my mtq mw ml mo gm gs ga gg gb gu gh gk gl gnq gt)) : GoX p l e R s m args below meth c D A nL 0 0 Q pc lv (.int v1 :: .ref (ad 0) :: st) (WM ad cA ms mb my mt mw ml mo gm gs ga gg gb gu gh gk gl gn gt) :=
  g_callVi C (As := [.int v1]) 1 (c_X6_append l D A ad cA v1  K h) hT rfl rfl rfl (by decide +kernel) hR 0 WMg0 rfl rfl rfl hcat hdg (fun r u hu => kk r u.1 u.2 hu)
/-! X6_clearText -/
abbrev rmX6_clearText : Room := { frames := 0, cells := 0, slots := 0, locals := 0 }
abbrev QC_X6_clearText (D : va_G) (A : Nat → Prop) (ad : Nat → Nat) (cA : Nat → ClassId) (ms : (Nat → Int32)) (mb : (Nat → Int32)) (my : (Nat → Int32)) (mt : (Nat → Int32)) (mw : (Nat → Int32)) (ml : (Nat → Int32)) (mo : (Nat → Int32)) (gm : Int32) (gs : Int32) (ga : Int32) (gg : Int32) (gb : Int32) (gu : Int32) (gh : Int32) (gk : Int32) (gl : Int32) (gt : Int32) (Q : Int32 → Int32 → Prop) : Array Value → State → Outcome → State → Prop := va_Qi (fun (r : Int32) (u : Int32) => Q r u) (fun u t => OKX D (tysX cA) ((fun u : Int32 => WM ad cA ms mb my mt mw ml mo gm gs ga gg gb gu gh gk gl u gt) u) A t) A
abbrev QP_X6_clearText (D : va_G) (A : Nat → Prop) (ad : Nat → Nat) (cA : Nat → ClassId) (ms : (Nat → Int32)) (mb : (Nat → Int32)) (my : (Nat → Int32)) (mt : (Nat → Int32)) (mw : (Nat → Int32)) (ml : (Nat → Int32)) (mo : (Nat → Int32)) (gm : Int32) (gs : Int32) (ga : Int32) (gg : Int32) (gb : Int32) (gu : Int32) (gh : Int32) (gk : Int32) (gl : Int32) (gt : Int32) (Q : Int32 → Int32 → Prop) (below : List Frame) (args : Array Value) (s : State) : State → Prop := MQ below (QC_X6_clearText D A ad cA ms mb my mt mw ml mo gm gs ga gg gb gu gh gk gl gt Q) args s 0 0 A
def B_X6_clearText_0  (Q : Int32 → Int32 → Prop)   (gn : Int32) : Prop := (Q gn (0 : Int32))
def F_X6_clearText   (gn : Int32) (Q : Int32 → Int32 → Prop) : Prop := B_X6_clearText_0 Q   gn
theorem lkX6_clearText_184 : Cond.fieldLink RX6 184 (TX6 16).1 (TX6 16).2.1 (TX6 16).2.2.1 ∈ wsX6_clearText := by decide +kernel
theorem inX6_clearText_6 : ∀ q ∈ u_ws RX6 TX6 18, q ∈ wsX6_clearText := by decide +kernel
set_option maxHeartbeats 4000000 in
set_option maxRecDepth 100000 in
theorem t_B_X6_clearText_0  {Q : Int32 → Int32 → Prop} (C : CxX p s m args c D (tysX cA) RX6 cX6_clearText 2 wsX6_clearText) (hrt9 : meth.sig.returnType = (some .int)) (hlk : meth.locks = false)  (gn : Int32)  (h : B_X6_clearText_0  Q  gn) : GoX p l e rmX6_clearText s m args below meth c D A 2 0 0 (QP_X6_clearText D A ad cA ms mb my mt mw ml mo gm gs ga gg gb gu gh gk gl gt Q below args s) 0 [(0, .ref (ad 0))] [] (WM ad cA ms mb my mt mw ml mo gm gs ga gg gb gu gh gk gl gn gt) := by
  replace h : (Q gn (0 : Int32)) := h
  refine g_aload_n C 0 dX6_clearText_0 rfl rfl ?_
  refine g_get C inX6_clearText_6 0 WMg0 rfl 16 (by decide) lkX6_clearText_184 rfl dX6_clearText_1 ?_
  refine g_istore_n C (lv2 := [(1, .int gn), (0, .ref (ad 0))]) dX6_clearText_4 rfl (by decide) rfl ?_
  refine g_aload_n C 1 dX6_clearText_5 rfl rfl ?_
  refine g_iconst C (0 : Int32) dX6_clearText_6 (by decide) ?_
  refine g_put C inX6_clearText_6 tyX6 tyX6_ok nmX6 0 WMg0 rfl 16 (by decide) lkX6_clearText_184 rfl rfl rfl (Nat.le_of_ble_eq_true rfl) (WMs_gn) dX6_clearText_7 ?_
  refine g_iload_n C 0 dX6_clearText_10 rfl rfl ?_
  exact g_iret C hrt9 hlk (u := (0 : Int32)) rfl h dX6_clearText_11
theorem c_X6_clearText (l : Launch) (D : va_G) (A : Nat → Prop) (ad : Nat → Nat) (cA : Nat → ClassId)  {ms : (Nat → Int32)} {mb : (Nat → Int32)} {my : (Nat → Int32)} {mt : (Nat → Int32)} {mw : (Nat → Int32)} {ml : (Nat → Int32)} {mo : (Nat → Int32)} {gm : Int32} {gs : Int32} {ga : Int32} {gg : Int32} {gb : Int32} {gu : Int32} {gh : Int32} {gk : Int32} {gl : Int32} {gn : Int32} {gt : Int32}  (Q : Int32 → Int32 → Prop) (h : F_X6_clearText gn Q) : Met l yX6_clearText wsX6_clearText rmX6_clearText (va_Pc [.ref (ad 0)] (OKX D (tysX cA) (WM ad cA ms mb my mt mw ml mo gm gs ga gg gb gu gh gk gl gn gt) A)) (QC_X6_clearText D A ad cA ms mb my mt mw ml mo gm gs ga gg gb gu gh gk gl gt Q) 0 0 A :=
  g_met (own := RX6) (by decide) rfl rfl (Nat.le_of_ble_eq_true rfl) (fun p e s m below meth c C hrt9 hlk _ => g_sub [0] rfl (t_B_X6_clearText_0 C hrt9 hlk  gn  h))
theorem k_X6_clearText {ws : List Cond} {own : String} {cc : ByteArray} {nL pc index : Nat} {lv : List (Nat × Value)} {st : List Value} {Q : State → Prop} {R : Room} {K : Int32 → Int32 → Prop}  (C : CxX p s m args c D (tysX cA) own cc nL ws) (hT : GoodIn ws (wsV own index RX6 yX6_clearText wsX6_clearText)) (hR : rmX6_clearText.frames + 1 ≤ R.frames ∧ 8 + (2 + 11) + rmX6_clearText.locals ≤ R.locals) (hcat : (st.map fun v => v.category).sum ≤ 8) (hdg : decode cc pc = .ok (.invokevirtual index, 3))  (h : F_X6_clearText gn K) (kk : ∀ (r : Int32) (gnq : Int32), K r gnq → GoX p l e R s m args below meth c D A nL 0 0 Q (pc + 3) lv (.int r :: st) (WM ad cA ms mb my mt mw ml mo gm gs ga gg gb gu gh gk gl gnq gt)) : GoX p l e R s m args below meth c D A nL 0 0 Q pc lv (.ref (ad 0) :: st) (WM ad cA ms mb my mt mw ml mo gm gs ga gg gb gu gh gk gl gn gt) :=
  g_callVi C (As := []) 0 (c_X6_clearText l D A ad cA   K h) hT rfl rfl rfl (by decide +kernel) hR 0 WMg0 rfl rfl rfl hcat hdg (fun r u hu => kk r u hu)
/-! X6_fault -/
abbrev rmX6_fault : Room := { frames := 10, cells := 0, slots := 0, locals := 210 }
abbrev QC_X6_fault (D : va_G) (A : Nat → Prop) (ad : Nat → Nat) (cA : Nat → ClassId) (ms : (Nat → Int32)) (mb : (Nat → Int32)) (mt : (Nat → Int32)) (mw : (Nat → Int32)) (ml : (Nat → Int32)) (mo : (Nat → Int32)) (gm : Int32) (gn : Int32) (gt : Int32) (Q : Int32 → (Nat → Int32) → Int32 → Int32 → Int32 → Int32 → Int32 → Int32 → Int32 → Int32 → Prop) : Array Value → State → Outcome → State → Prop := va_Qi (fun (r : Int32) (u : (Nat → Int32) × Int32 × Int32 × Int32 × Int32 × Int32 × Int32 × Int32 × Int32) => Q r u.1 u.2.1 u.2.2.1 u.2.2.2.1 u.2.2.2.2.1 u.2.2.2.2.2.1 u.2.2.2.2.2.2.1 u.2.2.2.2.2.2.2.1 u.2.2.2.2.2.2.2.2) (fun u t => OKX D (tysX cA) ((fun u : (Nat → Int32) × Int32 × Int32 × Int32 × Int32 × Int32 × Int32 × Int32 × Int32 => WM ad cA ms mb u.1 mt mw ml mo gm u.2.1 u.2.2.1 u.2.2.2.1 u.2.2.2.2.1 u.2.2.2.2.2.1 u.2.2.2.2.2.2.1 u.2.2.2.2.2.2.2.1 u.2.2.2.2.2.2.2.2 gn gt) u) A t) A
abbrev QP_X6_fault (D : va_G) (A : Nat → Prop) (ad : Nat → Nat) (cA : Nat → ClassId) (ms : (Nat → Int32)) (mb : (Nat → Int32)) (mt : (Nat → Int32)) (mw : (Nat → Int32)) (ml : (Nat → Int32)) (mo : (Nat → Int32)) (gm : Int32) (gn : Int32) (gt : Int32) (Q : Int32 → (Nat → Int32) → Int32 → Int32 → Int32 → Int32 → Int32 → Int32 → Int32 → Int32 → Prop) (below : List Frame) (args : Array Value) (s : State) : State → Prop := MQ below (QC_X6_fault D A ad cA ms mb mt mw ml mo gm gn gt Q) args s 0 0 A
def B_X6_fault_15  (Q : Int32 → (Nat → Int32) → Int32 → Int32 → Int32 → Int32 → Int32 → Int32 → Int32 → Int32 → Prop) (mt : (Nat → Int32)) (gn : Int32) (s0 : Int32) (my : (Nat → Int32)) (gs : Int32) (ga : Int32) (gg : Int32) (gb : Int32) (gu : Int32) (gh : Int32) (gk : Int32) (gl : Int32) : Prop := (Q s0 my gs ga gg gb gu gh gk gl)
def B_X6_fault_0  (Q : Int32 → (Nat → Int32) → Int32 → Int32 → Int32 → Int32 → Int32 → Int32 → Int32 → Int32 → Prop) (mt : (Nat → Int32)) (gn : Int32)  (my : (Nat → Int32)) (gs : Int32) (ga : Int32) (gg : Int32) (gb : Int32) (gu : Int32) (gh : Int32) (gk : Int32) (gl : Int32) : Prop := (F_X6_textFault mt gn my gs ga gg gb gu gh gk gl (fun r_1 my_2 gs_3 ga_4 gg_5 gb_6 gu_7 gh_8 gk_9 gl_10 => ((0 ≤ r_1 → (B_X6_fault_15  Q mt gn r_1 my_2 gs_3 ga_4 gg_5 gb_6 gu_7 gh_8 gk_9 gl_10)) ∧ (¬ 0 ≤ r_1 → (B_X6_fault_15  Q mt gn (-5 : Int32) my_2 gs_3 ga_4 gg_5 gb_6 gu_7 gh_8 gk_9 gl_10)))))
def F_X6_fault  (mt : (Nat → Int32)) (gn : Int32) (my : (Nat → Int32)) (gs : Int32) (ga : Int32) (gg : Int32) (gb : Int32) (gu : Int32) (gh : Int32) (gk : Int32) (gl : Int32) (Q : Int32 → (Nat → Int32) → Int32 → Int32 → Int32 → Int32 → Int32 → Int32 → Int32 → Int32 → Prop) : Prop := B_X6_fault_0 Q mt gn  my gs ga gg gb gu gh gk gl
set_option maxHeartbeats 4000000 in
set_option maxRecDepth 100000 in
theorem t_B_X6_fault_15  {Q : Int32 → (Nat → Int32) → Int32 → Int32 → Int32 → Int32 → Int32 → Int32 → Int32 → Int32 → Prop} (C : CxX p s m args c D (tysX cA) RX6 cX6_fault 2 wsX6_fault) (hrt9 : meth.sig.returnType = (some .int)) (hlk : meth.locks = false) (s0 : Int32) (my : (Nat → Int32)) (gs : Int32) (ga : Int32) (gg : Int32) (gb : Int32) (gu : Int32) (gh : Int32) (gk : Int32) (gl : Int32)  (h : B_X6_fault_15  Q mt gn s0 my gs ga gg gb gu gh gk gl) : GoX p l e rmX6_fault s m args below meth c D A 2 0 0 (QP_X6_fault D A ad cA ms mb mt mw ml mo gm gn gt Q below args s) 15 [] [.int s0] (WM ad cA ms mb my mt mw ml mo gm gs ga gg gb gu gh gk gl gn gt) := by
  replace h : (Q s0 my gs ga gg gb gu gh gk gl) := h
  exact g_iret C hrt9 hlk (u := (my, gs, ga, gg, gb, gu, gh, gk, gl)) rfl h dX6_fault_15
set_option maxHeartbeats 4000000 in
set_option maxRecDepth 100000 in
theorem t_B_X6_fault_0  {Q : Int32 → (Nat → Int32) → Int32 → Int32 → Int32 → Int32 → Int32 → Int32 → Int32 → Int32 → Prop} (C : CxX p s m args c D (tysX cA) RX6 cX6_fault 2 wsX6_fault) (hrt9 : meth.sig.returnType = (some .int)) (hlk : meth.locks = false)  (my : (Nat → Int32)) (gs : Int32) (ga : Int32) (gg : Int32) (gb : Int32) (gu : Int32) (gh : Int32) (gk : Int32) (gl : Int32)  (h : B_X6_fault_0  Q mt gn my gs ga gg gb gu gh gk gl) : GoX p l e rmX6_fault s m args below meth c D A 2 0 0 (QP_X6_fault D A ad cA ms mb mt mw ml mo gm gn gt Q below args s) 0 [(0, .ref (ad 0))] [] (WM ad cA ms mb my mt mw ml mo gm gs ga gg gb gu gh gk gl gn gt) := by
  replace h : (F_X6_textFault mt gn my gs ga gg gb gu gh gk gl (fun r_1 my_2 gs_3 ga_4 gg_5 gb_6 gu_7 gh_8 gk_9 gl_10 => ((0 ≤ r_1 → (B_X6_fault_15  Q mt gn r_1 my_2 gs_3 ga_4 gg_5 gb_6 gu_7 gh_8 gk_9 gl_10)) ∧ (¬ 0 ≤ r_1 → (B_X6_fault_15  Q mt gn (-5 : Int32) my_2 gs_3 ga_4 gg_5 gb_6 gu_7 gh_8 gk_9 gl_10))))) := h
  refine g_aload_n C 0 dX6_fault_0 rfl rfl ?_
  refine k_X6_textFault C gX6_fault_X6_textFault ⟨Nat.le_of_ble_eq_true rfl, Nat.le_of_ble_eq_true rfl⟩ (Nat.le_of_ble_eq_true rfl) dX6_fault_1  h (fun r_1 my_2 gs_3 ga_4 gg_5 gb_6 gu_7 gh_8 gk_9 gl_10 h => ?_)
  refine g_istore_n C (lv2 := [(1, .int r_1), (0, .ref (ad 0))]) dX6_fault_4 rfl (by decide) rfl ?_
  refine g_iload_n C 0 dX6_fault_5 rfl rfl ?_
  refine g_if_ge C 14 dX6_fault_6 (by decide) (fun c_11 => ?_) (fun c_11 => ?_)
  · replace h := h.1 c_11
    refine g_iload_n C 0 dX6_fault_14 rfl rfl ?_
    exact g_sub [] rfl (t_B_X6_fault_15 C hrt9 hlk  r_1 my_2 gs_3 ga_4 gg_5 gb_6 gu_7 gh_8 gk_9 gl_10  h)
  · replace h := h.2 c_11
    refine g_bipush C (-5 : Int32) dX6_fault_9 (by decide) ?_
    refine g_goto C 15 dX6_fault_11 (by decide) ?_
    exact g_sub [] rfl (t_B_X6_fault_15 C hrt9 hlk  (-5 : Int32) my_2 gs_3 ga_4 gg_5 gb_6 gu_7 gh_8 gk_9 gl_10  h)
theorem c_X6_fault (l : Launch) (D : va_G) (A : Nat → Prop) (ad : Nat → Nat) (cA : Nat → ClassId)  {ms : (Nat → Int32)} {mb : (Nat → Int32)} {my : (Nat → Int32)} {mt : (Nat → Int32)} {mw : (Nat → Int32)} {ml : (Nat → Int32)} {mo : (Nat → Int32)} {gm : Int32} {gs : Int32} {ga : Int32} {gg : Int32} {gb : Int32} {gu : Int32} {gh : Int32} {gk : Int32} {gl : Int32} {gn : Int32} {gt : Int32}  (Q : Int32 → (Nat → Int32) → Int32 → Int32 → Int32 → Int32 → Int32 → Int32 → Int32 → Int32 → Prop) (h : F_X6_fault mt gn my gs ga gg gb gu gh gk gl Q) : Met l yX6_fault wsX6_fault rmX6_fault (va_Pc [.ref (ad 0)] (OKX D (tysX cA) (WM ad cA ms mb my mt mw ml mo gm gs ga gg gb gu gh gk gl gn gt) A)) (QC_X6_fault D A ad cA ms mb mt mw ml mo gm gn gt Q) 0 0 A :=
  g_met (own := RX6) (by decide) rfl rfl (Nat.le_of_ble_eq_true rfl) (fun p e s m below meth c C hrt9 hlk _ => g_sub [0] rfl (t_B_X6_fault_0 C hrt9 hlk  my gs ga gg gb gu gh gk gl  h))
theorem k_X6_fault {ws : List Cond} {own : String} {cc : ByteArray} {nL pc index : Nat} {lv : List (Nat × Value)} {st : List Value} {Q : State → Prop} {R : Room} {K : Int32 → (Nat → Int32) → Int32 → Int32 → Int32 → Int32 → Int32 → Int32 → Int32 → Int32 → Prop}  (C : CxX p s m args c D (tysX cA) own cc nL ws) (hT : GoodIn ws (wsV own index RX6 yX6_fault wsX6_fault)) (hR : rmX6_fault.frames + 1 ≤ R.frames ∧ 8 + (2 + 11) + rmX6_fault.locals ≤ R.locals) (hcat : (st.map fun v => v.category).sum ≤ 8) (hdg : decode cc pc = .ok (.invokevirtual index, 3))  (h : F_X6_fault mt gn my gs ga gg gb gu gh gk gl K) (kk : ∀ (r : Int32) (myq : (Nat → Int32)) (gsq : Int32) (gaq : Int32) (ggq : Int32) (gbq : Int32) (guq : Int32) (ghq : Int32) (gkq : Int32) (glq : Int32), K r myq gsq gaq ggq gbq guq ghq gkq glq → GoX p l e R s m args below meth c D A nL 0 0 Q (pc + 3) lv (.int r :: st) (WM ad cA ms mb myq mt mw ml mo gm gsq gaq ggq gbq guq ghq gkq glq gn gt)) : GoX p l e R s m args below meth c D A nL 0 0 Q pc lv (.ref (ad 0) :: st) (WM ad cA ms mb my mt mw ml mo gm gs ga gg gb gu gh gk gl gn gt) :=
  g_callVi C (As := []) 0 (c_X6_fault l D A ad cA   K h) hT rfl rfl rfl (by decide +kernel) hR 0 WMg0 rfl rfl rfl hcat hdg (fun r u hu => kk r u.1 u.2.1 u.2.2.1 u.2.2.2.1 u.2.2.2.2.1 u.2.2.2.2.2.1 u.2.2.2.2.2.2.1 u.2.2.2.2.2.2.2.1 u.2.2.2.2.2.2.2.2 hu)
/-! X6_meaning -/
abbrev rmX6_meaning : Room := { frames := 10, cells := 0, slots := 0, locals := 210 }
abbrev QC_X6_meaning (D : va_G) (A : Nat → Prop) (ad : Nat → Nat) (cA : Nat → ClassId) (ms : (Nat → Int32)) (mb : (Nat → Int32)) (mt : (Nat → Int32)) (mw : (Nat → Int32)) (ml : (Nat → Int32)) (mo : (Nat → Int32)) (gm : Int32) (gn : Int32) (gt : Int32) (Q : Int32 → (Nat → Int32) → Int32 → Int32 → Int32 → Int32 → Int32 → Int32 → Int32 → Int32 → Prop) : Array Value → State → Outcome → State → Prop := va_Qi (fun (r : Int32) (u : (Nat → Int32) × Int32 × Int32 × Int32 × Int32 × Int32 × Int32 × Int32 × Int32) => Q r u.1 u.2.1 u.2.2.1 u.2.2.2.1 u.2.2.2.2.1 u.2.2.2.2.2.1 u.2.2.2.2.2.2.1 u.2.2.2.2.2.2.2.1 u.2.2.2.2.2.2.2.2) (fun u t => OKX D (tysX cA) ((fun u : (Nat → Int32) × Int32 × Int32 × Int32 × Int32 × Int32 × Int32 × Int32 × Int32 => WM ad cA ms mb u.1 mt mw ml mo gm u.2.1 u.2.2.1 u.2.2.2.1 u.2.2.2.2.1 u.2.2.2.2.2.1 u.2.2.2.2.2.2.1 u.2.2.2.2.2.2.2.1 u.2.2.2.2.2.2.2.2 gn gt) u) A t) A
abbrev QP_X6_meaning (D : va_G) (A : Nat → Prop) (ad : Nat → Nat) (cA : Nat → ClassId) (ms : (Nat → Int32)) (mb : (Nat → Int32)) (mt : (Nat → Int32)) (mw : (Nat → Int32)) (ml : (Nat → Int32)) (mo : (Nat → Int32)) (gm : Int32) (gn : Int32) (gt : Int32) (Q : Int32 → (Nat → Int32) → Int32 → Int32 → Int32 → Int32 → Int32 → Int32 → Int32 → Int32 → Prop) (below : List Frame) (args : Array Value) (s : State) : State → Prop := MQ below (QC_X6_meaning D A ad cA ms mb mt mw ml mo gm gn gt Q) args s 0 0 A
def B_X6_meaning_19  (Q : Int32 → (Nat → Int32) → Int32 → Int32 → Int32 → Int32 → Int32 → Int32 → Int32 → Int32 → Prop) (mt : (Nat → Int32)) (gn : Int32) (s0 : Int32) (my : (Nat → Int32)) (gs : Int32) (ga : Int32) (gg : Int32) (gb : Int32) (gu : Int32) (gh : Int32) (gk : Int32) (gl : Int32) : Prop := (Q s0 my gs ga gg gb gu gh gk gl)
def B_X6_meaning_0  (Q : Int32 → (Nat → Int32) → Int32 → Int32 → Int32 → Int32 → Int32 → Int32 → Int32 → Int32 → Prop) (mt : (Nat → Int32)) (gn : Int32)  (my : (Nat → Int32)) (gs : Int32) (ga : Int32) (gg : Int32) (gb : Int32) (gu : Int32) (gh : Int32) (gk : Int32) (gl : Int32) : Prop := (F_X6_textFault mt gn my gs ga gg gb gu gh gk gl (fun r_1 my_2 gs_3 ga_4 gg_5 gb_6 gu_7 gh_8 gk_9 gl_10 => ((0 ≤ r_1 → (B_X6_meaning_19  Q mt gn (-3 : Int32) my_2 gs_3 ga_4 gg_5 gb_6 gu_7 gh_8 gk_9 gl_10)) ∧ (¬ 0 ≤ r_1 → (F_X6_meaningBy (1 : Int32) (1 : Int32) (1 : Int32) gg_5 gb_6 gu_7 gh_8 gk_9 gl_10 (fun r_12 => (B_X6_meaning_19  Q mt gn r_12 my_2 gs_3 ga_4 gg_5 gb_6 gu_7 gh_8 gk_9 gl_10)))))))
def F_X6_meaning  (mt : (Nat → Int32)) (gn : Int32) (my : (Nat → Int32)) (gs : Int32) (ga : Int32) (gg : Int32) (gb : Int32) (gu : Int32) (gh : Int32) (gk : Int32) (gl : Int32) (Q : Int32 → (Nat → Int32) → Int32 → Int32 → Int32 → Int32 → Int32 → Int32 → Int32 → Int32 → Prop) : Prop := B_X6_meaning_0 Q mt gn  my gs ga gg gb gu gh gk gl
set_option maxHeartbeats 4000000 in
set_option maxRecDepth 100000 in
theorem t_B_X6_meaning_19  {Q : Int32 → (Nat → Int32) → Int32 → Int32 → Int32 → Int32 → Int32 → Int32 → Int32 → Int32 → Prop} (C : CxX p s m args c D (tysX cA) RX6 cX6_meaning 1 wsX6_meaning) (hrt9 : meth.sig.returnType = (some .int)) (hlk : meth.locks = false) (s0 : Int32) (my : (Nat → Int32)) (gs : Int32) (ga : Int32) (gg : Int32) (gb : Int32) (gu : Int32) (gh : Int32) (gk : Int32) (gl : Int32)  (h : B_X6_meaning_19  Q mt gn s0 my gs ga gg gb gu gh gk gl) : GoX p l e rmX6_meaning s m args below meth c D A 1 0 0 (QP_X6_meaning D A ad cA ms mb mt mw ml mo gm gn gt Q below args s) 19 [] [.int s0] (WM ad cA ms mb my mt mw ml mo gm gs ga gg gb gu gh gk gl gn gt) := by
  replace h : (Q s0 my gs ga gg gb gu gh gk gl) := h
  exact g_iret C hrt9 hlk (u := (my, gs, ga, gg, gb, gu, gh, gk, gl)) rfl h dX6_meaning_19
set_option maxHeartbeats 4000000 in
set_option maxRecDepth 100000 in
theorem t_B_X6_meaning_0  {Q : Int32 → (Nat → Int32) → Int32 → Int32 → Int32 → Int32 → Int32 → Int32 → Int32 → Int32 → Prop} (C : CxX p s m args c D (tysX cA) RX6 cX6_meaning 1 wsX6_meaning) (hrt9 : meth.sig.returnType = (some .int)) (hlk : meth.locks = false)  (my : (Nat → Int32)) (gs : Int32) (ga : Int32) (gg : Int32) (gb : Int32) (gu : Int32) (gh : Int32) (gk : Int32) (gl : Int32)  (h : B_X6_meaning_0  Q mt gn my gs ga gg gb gu gh gk gl) : GoX p l e rmX6_meaning s m args below meth c D A 1 0 0 (QP_X6_meaning D A ad cA ms mb mt mw ml mo gm gn gt Q below args s) 0 [(0, .ref (ad 0))] [] (WM ad cA ms mb my mt mw ml mo gm gs ga gg gb gu gh gk gl gn gt) := by
  replace h : (F_X6_textFault mt gn my gs ga gg gb gu gh gk gl (fun r_1 my_2 gs_3 ga_4 gg_5 gb_6 gu_7 gh_8 gk_9 gl_10 => ((0 ≤ r_1 → (B_X6_meaning_19  Q mt gn (-3 : Int32) my_2 gs_3 ga_4 gg_5 gb_6 gu_7 gh_8 gk_9 gl_10)) ∧ (¬ 0 ≤ r_1 → (F_X6_meaningBy (1 : Int32) (1 : Int32) (1 : Int32) gg_5 gb_6 gu_7 gh_8 gk_9 gl_10 (fun r_12 => (B_X6_meaning_19  Q mt gn r_12 my_2 gs_3 ga_4 gg_5 gb_6 gu_7 gh_8 gk_9 gl_10))))))) := h
  refine g_aload_n C 0 dX6_meaning_0 rfl rfl ?_
  refine k_X6_textFault C gX6_meaning_X6_textFault ⟨Nat.le_of_ble_eq_true rfl, Nat.le_of_ble_eq_true rfl⟩ (Nat.le_of_ble_eq_true rfl) dX6_meaning_1  h (fun r_1 my_2 gs_3 ga_4 gg_5 gb_6 gu_7 gh_8 gk_9 gl_10 h => ?_)
  refine g_if_ge C 17 dX6_meaning_4 (by decide) (fun c_11 => ?_) (fun c_11 => ?_)
  · replace h := h.1 c_11
    refine g_bipush C (-3 : Int32) dX6_meaning_17 (by decide) ?_
    exact g_sub [] rfl (t_B_X6_meaning_19 C hrt9 hlk  (-3 : Int32) my_2 gs_3 ga_4 gg_5 gb_6 gu_7 gh_8 gk_9 gl_10  h)
  · replace h := h.2 c_11
    refine g_aload_n C 0 dX6_meaning_7 rfl rfl ?_
    refine g_iconst C (1 : Int32) dX6_meaning_8 (by decide) ?_
    refine g_iconst C (1 : Int32) dX6_meaning_9 (by decide) ?_
    refine g_iconst C (1 : Int32) dX6_meaning_10 (by decide) ?_
    refine k_X6_meaningBy C gX6_meaning_X6_meaningBy ⟨Nat.le_of_ble_eq_true rfl, Nat.le_of_ble_eq_true rfl⟩ (Nat.le_of_ble_eq_true rfl) dX6_meaning_11  h (fun r_12 h => ?_)
    refine g_goto C 19 dX6_meaning_14 (by decide) ?_
    exact g_sub [] rfl (t_B_X6_meaning_19 C hrt9 hlk  r_12 my_2 gs_3 ga_4 gg_5 gb_6 gu_7 gh_8 gk_9 gl_10  h)
theorem c_X6_meaning (l : Launch) (D : va_G) (A : Nat → Prop) (ad : Nat → Nat) (cA : Nat → ClassId)  {ms : (Nat → Int32)} {mb : (Nat → Int32)} {my : (Nat → Int32)} {mt : (Nat → Int32)} {mw : (Nat → Int32)} {ml : (Nat → Int32)} {mo : (Nat → Int32)} {gm : Int32} {gs : Int32} {ga : Int32} {gg : Int32} {gb : Int32} {gu : Int32} {gh : Int32} {gk : Int32} {gl : Int32} {gn : Int32} {gt : Int32}  (Q : Int32 → (Nat → Int32) → Int32 → Int32 → Int32 → Int32 → Int32 → Int32 → Int32 → Int32 → Prop) (h : F_X6_meaning mt gn my gs ga gg gb gu gh gk gl Q) : Met l yX6_meaning wsX6_meaning rmX6_meaning (va_Pc [.ref (ad 0)] (OKX D (tysX cA) (WM ad cA ms mb my mt mw ml mo gm gs ga gg gb gu gh gk gl gn gt) A)) (QC_X6_meaning D A ad cA ms mb mt mw ml mo gm gn gt Q) 0 0 A :=
  g_met (own := RX6) (by decide) rfl rfl (Nat.le_of_ble_eq_true rfl) (fun p e s m below meth c C hrt9 hlk _ => g_sub [0] rfl (t_B_X6_meaning_0 C hrt9 hlk  my gs ga gg gb gu gh gk gl  h))
theorem k_X6_meaning {ws : List Cond} {own : String} {cc : ByteArray} {nL pc index : Nat} {lv : List (Nat × Value)} {st : List Value} {Q : State → Prop} {R : Room} {K : Int32 → (Nat → Int32) → Int32 → Int32 → Int32 → Int32 → Int32 → Int32 → Int32 → Int32 → Prop}  (C : CxX p s m args c D (tysX cA) own cc nL ws) (hT : GoodIn ws (wsV own index RX6 yX6_meaning wsX6_meaning)) (hR : rmX6_meaning.frames + 1 ≤ R.frames ∧ 8 + (1 + 11) + rmX6_meaning.locals ≤ R.locals) (hcat : (st.map fun v => v.category).sum ≤ 8) (hdg : decode cc pc = .ok (.invokevirtual index, 3))  (h : F_X6_meaning mt gn my gs ga gg gb gu gh gk gl K) (kk : ∀ (r : Int32) (myq : (Nat → Int32)) (gsq : Int32) (gaq : Int32) (ggq : Int32) (gbq : Int32) (guq : Int32) (ghq : Int32) (gkq : Int32) (glq : Int32), K r myq gsq gaq ggq gbq guq ghq gkq glq → GoX p l e R s m args below meth c D A nL 0 0 Q (pc + 3) lv (.int r :: st) (WM ad cA ms mb myq mt mw ml mo gm gsq gaq ggq gbq guq ghq gkq glq gn gt)) : GoX p l e R s m args below meth c D A nL 0 0 Q pc lv (.ref (ad 0) :: st) (WM ad cA ms mb my mt mw ml mo gm gs ga gg gb gu gh gk gl gn gt) :=
  g_callVi C (As := []) 0 (c_X6_meaning l D A ad cA   K h) hT rfl rfl rfl (by decide +kernel) hR 0 WMg0 rfl rfl rfl hcat hdg (fun r u hu => kk r u.1 u.2.1 u.2.2.1 u.2.2.2.1 u.2.2.2.2.1 u.2.2.2.2.2.1 u.2.2.2.2.2.2.1 u.2.2.2.2.2.2.2.1 u.2.2.2.2.2.2.2.2 hu)
/-! X6_undo -/
abbrev rmX6_undo : Room := { frames := 0, cells := 0, slots := 0, locals := 0 }
abbrev QC_X6_undo (D : va_G) (A : Nat → Prop) (ad : Nat → Nat) (cA : Nat → ClassId) (mb : (Nat → Int32)) (my : (Nat → Int32)) (mt : (Nat → Int32)) (mw : (Nat → Int32)) (ml : (Nat → Int32)) (mo : (Nat → Int32)) (gm : Int32) (gs : Int32) (ga : Int32) (gg : Int32) (gb : Int32) (gu : Int32) (gh : Int32) (gk : Int32) (gl : Int32) (gn : Int32) (Q : Int32 → (Nat → Int32) → Int32 → Prop) : Array Value → State → Outcome → State → Prop := va_Qi (fun (r : Int32) (u : (Nat → Int32) × Int32) => Q r u.1 u.2) (fun u t => OKX D (tysX cA) ((fun u : (Nat → Int32) × Int32 => WM ad cA u.1 mb my mt mw ml mo gm gs ga gg gb gu gh gk gl gn u.2) u) A t) A
abbrev QP_X6_undo (D : va_G) (A : Nat → Prop) (ad : Nat → Nat) (cA : Nat → ClassId) (mb : (Nat → Int32)) (my : (Nat → Int32)) (mt : (Nat → Int32)) (mw : (Nat → Int32)) (ml : (Nat → Int32)) (mo : (Nat → Int32)) (gm : Int32) (gs : Int32) (ga : Int32) (gg : Int32) (gb : Int32) (gu : Int32) (gh : Int32) (gk : Int32) (gl : Int32) (gn : Int32) (Q : Int32 → (Nat → Int32) → Int32 → Prop) (below : List Frame) (args : Array Value) (s : State) : State → Prop := MQ below (QC_X6_undo D A ad cA mb my mt mw ml mo gm gs ga gg gb gu gh gk gl gn Q) args s 0 0 A
noncomputable def L_X6_undo_22  (Q : Int32 → (Nat → Int32) → Int32 → Prop) (mb : (Nat → Int32)) (n9 : Nat) : Int32 → (Nat → Int32) → Int32 → Prop := Nat.rec (motive := fun _ => Int32 → (Nat → Int32) → Int32 → Prop) (fun _ _ _ => False) (fun _ kh22 => fun v1 ms gt => (((106 : Int32) ≤ v1 → (Q gt ms gt)) ∧ (¬ (106 : Int32) ≤ v1 → (vp_in (((106 : Int32) * gt) + v1) 424 ∧ (vp_in v1 106 ∧ (kh22 (v1 + (1 : Int32)) (upd ms v1.toNatClampNeg (mb (((106 : Int32) * gt) + v1).toNatClampNeg)) gt)))))) n9
def B_X6_undo_0  (Q : Int32 → (Nat → Int32) → Int32 → Prop) (mb : (Nat → Int32))  (ms : (Nat → Int32)) (gt : Int32) : Prop := ((gt = 0 → (Q (-5 : Int32) ms gt)) ∧ (¬ gt = 0 → (∃ n9 : Nat, L_X6_undo_22  Q mb n9 (0 : Int32) ms (gt - (1 : Int32)))))
def F_X6_undo  (mb : (Nat → Int32)) (ms : (Nat → Int32)) (gt : Int32) (Q : Int32 → (Nat → Int32) → Int32 → Prop) : Prop := B_X6_undo_0 Q mb  ms gt
theorem lkX6_undo_13 : Cond.fieldLink RX6 13 (TX6 1).1 (TX6 1).2.1 (TX6 1).2.2.1 ∈ wsX6_undo := by decide +kernel
theorem lkX6_undo_7 : Cond.fieldLink RX6 7 (TX6 0).1 (TX6 0).2.1 (TX6 0).2.2.1 ∈ wsX6_undo := by decide +kernel
theorem lkX6_undo_36 : Cond.fieldLink RX6 36 (TX6 17).1 (TX6 17).2.1 (TX6 17).2.2.1 ∈ wsX6_undo := by decide +kernel
theorem inX6_undo_6 : ∀ q ∈ u_ws RX6 TX6 18, q ∈ wsX6_undo := by decide +kernel
set_option maxHeartbeats 4000000 in
set_option maxRecDepth 100000 in
theorem t_L_X6_undo_22  {Q : Int32 → (Nat → Int32) → Int32 → Prop} (C : CxX p s m args c D (tysX cA) RX6 cX6_undo 2 wsX6_undo) (hrt9 : meth.sig.returnType = (some .int)) (hlk : meth.locks = false) (m9 : Nat) : ∀ (v1 : Int32) (ms : (Nat → Int32)) (gt : Int32) , L_X6_undo_22  Q mb m9 v1 ms gt → GoX p l e rmX6_undo s m args below meth c D A 2 0 0 (QP_X6_undo D A ad cA mb my mt mw ml mo gm gs ga gg gb gu gh gk gl gn Q below args s) 22 [(0, .ref (ad 0)), (1, .int v1)] [] (WM ad cA ms mb my mt mw ml mo gm gs ga gg gb gu gh gk gl gn gt) := by
  induction m9 with
  | zero =>
    intro v1 ms gt h
    exact False.elim h
  | succ m9 Hk22 =>
    intro v1 ms gt h
    replace h : (((106 : Int32) ≤ v1 → (Q gt ms gt)) ∧ (¬ (106 : Int32) ≤ v1 → (vp_in (((106 : Int32) * gt) + v1) 424 ∧ (vp_in v1 106 ∧ ((L_X6_undo_22  Q mb m9) (v1 + (1 : Int32)) (upd ms v1.toNatClampNeg (mb (((106 : Int32) * gt) + v1).toNatClampNeg)) gt))))) := h
    refine g_iload_n C 1 dX6_undo_22 rfl rfl ?_
    refine g_bipush C (106 : Int32) dX6_undo_23 (by decide) ?_
    refine g_icmp_ge C 54 dX6_undo_25 (by decide) (fun c_1 => ?_) (fun c_1 => ?_)
    · replace h := h.1 c_1
      refine g_aload_n C 0 dX6_undo_54 rfl rfl ?_
      refine g_get C inX6_undo_6 0 WMg0 rfl 17 (by decide) lkX6_undo_36 rfl dX6_undo_55 ?_
      exact g_iret C hrt9 hlk (u := (ms, gt)) rfl h dX6_undo_58
    · replace h := h.2 c_1
      refine g_aload_n C 0 dX6_undo_28 rfl rfl ?_
      refine g_get C inX6_undo_6 0 WMg0 rfl 0 (by decide) lkX6_undo_7 rfl dX6_undo_29 ?_
      refine g_iload_n C 1 dX6_undo_32 rfl rfl ?_
      refine g_aload_n C 0 dX6_undo_33 rfl rfl ?_
      refine g_get C inX6_undo_6 0 WMg0 rfl 1 (by decide) lkX6_undo_13 rfl dX6_undo_34 ?_
      refine g_bipush C (106 : Int32) dX6_undo_37 (by decide) ?_
      refine g_aload_n C 0 dX6_undo_39 rfl rfl ?_
      refine g_get C inX6_undo_6 0 WMg0 rfl 17 (by decide) lkX6_undo_36 rfl dX6_undo_40 ?_
      refine g_imul C dX6_undo_43 ?_
      refine g_iload_n C 1 dX6_undo_44 rfl rfl ?_
      refine g_iadd C dX6_undo_45 ?_
      refine g_iald C 2 1 WMg2 rfl h.1 dX6_undo_46 ?_
      replace h := h.2
      refine g_iast C 1 1 WMg1 rfl h.1 WMs_ms dX6_undo_47 ?_
      replace h := h.2
      refine g_iinc C (v := (v1 + (1 : Int32))) (lv2 := [(1, .int (v1 + (1 : Int32))), (0, .ref (ad 0))]) 1 dX6_undo_48 rfl rfl (by decide) rfl ?_
      refine g_goto C 22 dX6_undo_51 (by decide) ?_
      exact g_sub [1, 0] rfl (Hk22 (v1 + (1 : Int32)) (upd ms v1.toNatClampNeg (mb (((106 : Int32) * gt) + v1).toNatClampNeg)) gt  h)
set_option maxHeartbeats 4000000 in
set_option maxRecDepth 100000 in
theorem t_B_X6_undo_0  {Q : Int32 → (Nat → Int32) → Int32 → Prop} (C : CxX p s m args c D (tysX cA) RX6 cX6_undo 2 wsX6_undo) (hrt9 : meth.sig.returnType = (some .int)) (hlk : meth.locks = false)  (ms : (Nat → Int32)) (gt : Int32)  (h : B_X6_undo_0  Q mb ms gt) : GoX p l e rmX6_undo s m args below meth c D A 2 0 0 (QP_X6_undo D A ad cA mb my mt mw ml mo gm gs ga gg gb gu gh gk gl gn Q below args s) 0 [(0, .ref (ad 0))] [] (WM ad cA ms mb my mt mw ml mo gm gs ga gg gb gu gh gk gl gn gt) := by
  replace h : ((gt = 0 → (Q (-5 : Int32) ms gt)) ∧ (¬ gt = 0 → (∃ n9 : Nat, L_X6_undo_22  Q mb n9 (0 : Int32) ms (gt - (1 : Int32))))) := h
  refine g_aload_n C 0 dX6_undo_0 rfl rfl ?_
  refine g_get C inX6_undo_6 0 WMg0 rfl 17 (by decide) lkX6_undo_36 rfl dX6_undo_1 ?_
  refine g_if_ne C 10 dX6_undo_4 (by decide) (fun c_2 => ?_) (fun c_2 => ?_)
  · replace h := h.2 c_2
    refine g_aload_n C 0 dX6_undo_10 rfl rfl ?_
    refine g_dup C dX6_undo_11 rfl ?_
    refine g_get C inX6_undo_6 0 WMg0 rfl 17 (by decide) lkX6_undo_36 rfl dX6_undo_12 ?_
    refine g_iconst C (1 : Int32) dX6_undo_15 (by decide) ?_
    refine g_isub C dX6_undo_16 ?_
    refine g_put C inX6_undo_6 tyX6 tyX6_ok nmX6 0 WMg0 rfl 17 (by decide) lkX6_undo_36 rfl rfl rfl (Nat.le_of_ble_eq_true rfl) (WMs_gt) dX6_undo_17 ?_
    refine g_iconst C (0 : Int32) dX6_undo_20 (by decide) ?_
    refine g_istore_n C (lv2 := [(1, .int (0 : Int32)), (0, .ref (ad 0))]) dX6_undo_21 rfl (by decide) rfl ?_
    obtain ⟨n9, h⟩ := h
    exact g_sub [1, 0] rfl (t_L_X6_undo_22 C hrt9 hlk  n9 (0 : Int32) ms (gt - (1 : Int32))  h)
  · replace h := h.1 c_2
    refine g_bipush C (-5 : Int32) dX6_undo_7 (by decide) ?_
    exact g_iret C hrt9 hlk (u := (ms, gt)) rfl h dX6_undo_9
theorem c_X6_undo (l : Launch) (D : va_G) (A : Nat → Prop) (ad : Nat → Nat) (cA : Nat → ClassId)  {ms : (Nat → Int32)} {mb : (Nat → Int32)} {my : (Nat → Int32)} {mt : (Nat → Int32)} {mw : (Nat → Int32)} {ml : (Nat → Int32)} {mo : (Nat → Int32)} {gm : Int32} {gs : Int32} {ga : Int32} {gg : Int32} {gb : Int32} {gu : Int32} {gh : Int32} {gk : Int32} {gl : Int32} {gn : Int32} {gt : Int32}  (Q : Int32 → (Nat → Int32) → Int32 → Prop) (h : F_X6_undo mb ms gt Q) : Met l yX6_undo wsX6_undo rmX6_undo (va_Pc [.ref (ad 0)] (OKX D (tysX cA) (WM ad cA ms mb my mt mw ml mo gm gs ga gg gb gu gh gk gl gn gt) A)) (QC_X6_undo D A ad cA mb my mt mw ml mo gm gs ga gg gb gu gh gk gl gn Q) 0 0 A :=
  g_met (own := RX6) (by decide) rfl rfl (Nat.le_of_ble_eq_true rfl) (fun p e s m below meth c C hrt9 hlk _ => g_sub [0] rfl (t_B_X6_undo_0 C hrt9 hlk  ms gt  h))
theorem k_X6_undo {ws : List Cond} {own : String} {cc : ByteArray} {nL pc index : Nat} {lv : List (Nat × Value)} {st : List Value} {Q : State → Prop} {R : Room} {K : Int32 → (Nat → Int32) → Int32 → Prop}  (C : CxX p s m args c D (tysX cA) own cc nL ws) (hT : GoodIn ws (wsV own index RX6 yX6_undo wsX6_undo)) (hR : rmX6_undo.frames + 1 ≤ R.frames ∧ 8 + (2 + 11) + rmX6_undo.locals ≤ R.locals) (hcat : (st.map fun v => v.category).sum ≤ 8) (hdg : decode cc pc = .ok (.invokevirtual index, 3))  (h : F_X6_undo mb ms gt K) (kk : ∀ (r : Int32) (msq : (Nat → Int32)) (gtq : Int32), K r msq gtq → GoX p l e R s m args below meth c D A nL 0 0 Q (pc + 3) lv (.int r :: st) (WM ad cA msq mb my mt mw ml mo gm gs ga gg gb gu gh gk gl gn gtq)) : GoX p l e R s m args below meth c D A nL 0 0 Q pc lv (.ref (ad 0) :: st) (WM ad cA ms mb my mt mw ml mo gm gs ga gg gb gu gh gk gl gn gt) :=
  g_callVi C (As := []) 0 (c_X6_undo l D A ad cA   K h) hT rfl rfl rfl (by decide +kernel) hR 0 WMg0 rfl rfl rfl hcat hdg (fun r u hu => kk r u.1 u.2 hu)
