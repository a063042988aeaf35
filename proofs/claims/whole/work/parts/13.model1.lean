variable {p : Program} {l : Launch} {e : Env} {s : State} {m : MethodId} {args : Array Value} {below : List Frame} {meth : Method} {c : Code} {D : va_G} {A : Nat → Prop} {ad : Nat → Nat} {cA : Nat → ClassId}
variable {ms : (Nat → Int32)} {mb : (Nat → Int32)} {my : (Nat → Int32)} {mt : (Nat → Int32)} {mw : (Nat → Int32)} {ml : (Nat → Int32)} {mo : (Nat → Int32)} {gm : Int32} {gs : Int32} {ga : Int32} {gg : Int32} {gb : Int32} {gu : Int32} {gh : Int32} {gk : Int32} {gl : Int32} {gn : Int32} {gt : Int32}
/-! X6_ways -/
abbrev rmX6_ways : Room := { frames := 5, cells := 0, slots := 0, locals := 114 }
abbrev QC_X6_ways (D : va_G) (A : Nat → Prop) (ad : Nat → Nat) (cA : Nat → ClassId) (ms : (Nat → Int32)) (mb : (Nat → Int32)) (my : (Nat → Int32)) (mt : (Nat → Int32)) (gs : Int32) (ga : Int32) (gg : Int32) (gb : Int32) (gu : Int32) (gh : Int32) (gk : Int32) (gl : Int32) (gn : Int32) (gt : Int32) (Q : Int32 → (Nat → Int32) → (Nat → Int32) → (Nat → Int32) → Int32 → Prop) : Array Value → State → Outcome → State → Prop := va_Qi (fun (r : Int32) (u : (Nat → Int32) × (Nat → Int32) × (Nat → Int32) × Int32) => Q r u.1 u.2.1 u.2.2.1 u.2.2.2) (fun u t => OKX D (tysX cA) ((fun u : (Nat → Int32) × (Nat → Int32) × (Nat → Int32) × Int32 => WM ad cA ms mb my mt u.1 u.2.1 u.2.2.1 u.2.2.2 gs ga gg gb gu gh gk gl gn gt) u) A t) A
abbrev QP_X6_ways (D : va_G) (A : Nat → Prop) (ad : Nat → Nat) (cA : Nat → ClassId) (ms : (Nat → Int32)) (mb : (Nat → Int32)) (my : (Nat → Int32)) (mt : (Nat → Int32)) (gs : Int32) (ga : Int32) (gg : Int32) (gb : Int32) (gu : Int32) (gh : Int32) (gk : Int32) (gl : Int32) (gn : Int32) (gt : Int32) (Q : Int32 → (Nat → Int32) → (Nat → Int32) → (Nat → Int32) → Int32 → Prop) (below : List Frame) (args : Array Value) (s : State) : State → Prop := MQ below (QC_X6_ways D A ad cA ms mb my mt gs ga gg gb gu gh gk gl gn gt Q) args s 0 0 A
def B_X6_ways_0  (Q : Int32 → (Nat → Int32) → (Nat → Int32) → (Nat → Int32) → Int32 → Prop)  (v1 : Int32) (mw : (Nat → Int32)) (ml : (Nat → Int32)) (mo : (Nat → Int32)) (gm : Int32) : Prop := (F_X6_isNumber v1 (fun r_1 => ((r_1 = 0 → (Q (-2 : Int32) mw ml mo gm)) ∧ (¬ r_1 = 0 → (F_X6_makes v1 mw ml mo gm (fun mw_3 ml_4 mo_5 gm_6 => (Q gm_6 mw_3 ml_4 mo_5 gm_6)))))))
def F_X6_ways (v1 : Int32)  (mw : (Nat → Int32)) (ml : (Nat → Int32)) (mo : (Nat → Int32)) (gm : Int32) (Q : Int32 → (Nat → Int32) → (Nat → Int32) → (Nat → Int32) → Int32 → Prop) : Prop := B_X6_ways_0 Q  v1 mw ml mo gm
theorem lkX6_ways_107 : Cond.fieldLink RX6 107 (TX6 7).1 (TX6 7).2.1 (TX6 7).2.2.1 ∈ wsX6_ways := by decide +kernel
theorem inX6_ways_6 : ∀ q ∈ u_ws RX6 TX6 18, q ∈ wsX6_ways := by decide +kernel
set_option maxHeartbeats 4000000 in
set_option maxRecDepth 100000 in
theorem t_B_X6_ways_0  {Q : Int32 → (Nat → Int32) → (Nat → Int32) → (Nat → Int32) → Int32 → Prop} (C : CxX p s m args c D (tysX cA) RX6 cX6_ways 2 wsX6_ways) (hrt9 : meth.sig.returnType = (some .int)) (hlk : meth.locks = false) (v1 : Int32) (mw : (Nat → Int32)) (ml : (Nat → Int32)) (mo : (Nat → Int32)) (gm : Int32)  (h : B_X6_ways_0  Q  v1 mw ml mo gm) : GoX p l e rmX6_ways s m args below meth c D A 2 0 0 (QP_X6_ways D A ad cA ms mb my mt gs ga gg gb gu gh gk gl gn gt Q below args s) 0 [(0, .ref (ad 0)), (1, .int v1)] [] (WM ad cA ms mb my mt mw ml mo gm gs ga gg gb gu gh gk gl gn gt) := by
  replace h : (F_X6_isNumber v1 (fun r_1 => ((r_1 = 0 → (Q (-2 : Int32) mw ml mo gm)) ∧ (¬ r_1 = 0 → (F_X6_makes v1 mw ml mo gm (fun mw_3 ml_4 mo_5 gm_6 => (Q gm_6 mw_3 ml_4 mo_5 gm_6))))))) := h
  refine g_iload_n C 1 dX6_ways_0 rfl rfl ?_
  refine k_X6_isNumber C gX6_ways_X6_isNumber ⟨Nat.le_of_ble_eq_true rfl, Nat.le_of_ble_eq_true rfl⟩ (Nat.le_of_ble_eq_true rfl) dX6_ways_1  h (fun r_1 h => ?_)
  refine g_if_ne C 10 dX6_ways_4 (by decide) (fun c_2 => ?_) (fun c_2 => ?_)
  · replace h := h.2 c_2
    refine g_aload_n C 0 dX6_ways_10 rfl rfl ?_
    refine g_iload_n C 1 dX6_ways_11 rfl rfl ?_
    refine k_X6_makes C gX6_ways_X6_makes ⟨Nat.le_of_ble_eq_true rfl, Nat.le_of_ble_eq_true rfl⟩ (Nat.le_of_ble_eq_true rfl) dX6_ways_12  h (fun mw_3 ml_4 mo_5 gm_6 h => ?_)
    refine g_aload_n C 0 dX6_ways_15 rfl rfl ?_
    refine g_get C inX6_ways_6 0 WMg0 rfl 7 (by decide) lkX6_ways_107 rfl dX6_ways_16 ?_
    exact g_iret C hrt9 hlk (u := (mw_3, ml_4, mo_5, gm_6)) rfl h dX6_ways_19
  · replace h := h.1 c_2
    refine g_bipush C (-2 : Int32) dX6_ways_7 (by decide) ?_
    exact g_iret C hrt9 hlk (u := (mw, ml, mo, gm)) rfl h dX6_ways_9
theorem c_X6_ways (l : Launch) (D : va_G) (A : Nat → Prop) (ad : Nat → Nat) (cA : Nat → ClassId) (v1 : Int32) {ms : (Nat → Int32)} {mb : (Nat → Int32)} {my : (Nat → Int32)} {mt : (Nat → Int32)} {mw : (Nat → Int32)} {ml : (Nat → Int32)} {mo : (Nat → Int32)} {gm : Int32} {gs : Int32} {ga : Int32} {gg : Int32} {gb : Int32} {gu : Int32} {gh : Int32} {gk : Int32} {gl : Int32} {gn : Int32} {gt : Int32}  (Q : Int32 → (Nat → Int32) → (Nat → Int32) → (Nat → Int32) → Int32 → Prop) (h : F_X6_ways v1 mw ml mo gm Q) : Met l yX6_ways wsX6_ways rmX6_ways (va_Pc [.ref (ad 0), .int v1] (OKX D (tysX cA) (WM ad cA ms mb my mt mw ml mo gm gs ga gg gb gu gh gk gl gn gt) A)) (QC_X6_ways D A ad cA ms mb my mt gs ga gg gb gu gh gk gl gn gt Q) 0 0 A :=
  g_met (own := RX6) (by decide) rfl rfl (Nat.le_of_ble_eq_true rfl) (fun p e s m below meth c C hrt9 hlk _ => g_sub [0, 1] rfl (t_B_X6_ways_0 C hrt9 hlk v1 mw ml mo gm  h))
theorem k_X6_ways {ws : List Cond} {own : String} {cc : ByteArray} {nL pc index : Nat} {lv : List (Nat × Value)} {st : List Value} {Q : State → Prop} {R : Room} {K : Int32 → (Nat → Int32) → (Nat → Int32) → (Nat → Int32) → Int32 → Prop} {v1 : Int32} (C : CxX p s m args c D (tysX cA) own cc nL ws) (hT : GoodIn ws (wsV own index RX6 yX6_ways wsX6_ways)) (hR : rmX6_ways.frames + 1 ≤ R.frames ∧ 8 + (2 + 11) + rmX6_ways.locals ≤ R.locals) (hcat : (st.map fun v => v.category).sum ≤ 8) (hdg : decode cc pc = .ok (.invokevirtual index, 3))  (h : F_X6_ways v1 mw ml mo gm K) (kk : ∀ (r : Int32) (mwq : (Nat → Int32)) (mlq : (Nat → Int32)) (moq : (Nat → Int32)) (gmq : Int32), K r mwq mlq moq gmq → GoX p l e R s m args below meth c D A nL 0 0 Q (pc + 3) lv (.int r :: st) (WM ad cA ms mb my mt mwq mlq moq gmq gs ga gg gb gu gh gk gl gn gt)) : GoX p l e R s m args below meth c D A nL 0 0 Q pc lv (.int v1 :: .ref (ad 0) :: st) (WM ad cA ms mb my mt mw ml mo gm gs ga gg gb gu gh gk gl gn gt) :=
  g_callVi C (As := [.int v1]) 1 (c_X6_ways l D A ad cA v1  K h) hT rfl rfl rfl (by decide +kernel) hR 0 WMg0 rfl rfl rfl hcat hdg (fun r u hu => kk r u.1 u.2.1 u.2.2.1 u.2.2.2 hu)
/-! X6_wayLength -/
abbrev rmX6_wayLength : Room := { frames := 5, cells := 0, slots := 0, locals := 114 }
abbrev QC_X6_wayLength (D : va_G) (A : Nat → Prop) (ad : Nat → Nat) (cA : Nat → ClassId) (ms : (Nat → Int32)) (mb : (Nat → Int32)) (my : (Nat → Int32)) (mt : (Nat → Int32)) (gs : Int32) (ga : Int32) (gg : Int32) (gb : Int32) (gu : Int32) (gh : Int32) (gk : Int32) (gl : Int32) (gn : Int32) (gt : Int32) (Q : Int32 → (Nat → Int32) → (Nat → Int32) → (Nat → Int32) → Int32 → Prop) : Array Value → State → Outcome → State → Prop := va_Qi (fun (r : Int32) (u : (Nat → Int32) × (Nat → Int32) × (Nat → Int32) × Int32) => Q r u.1 u.2.1 u.2.2.1 u.2.2.2) (fun u t => OKX D (tysX cA) ((fun u : (Nat → Int32) × (Nat → Int32) × (Nat → Int32) × Int32 => WM ad cA ms mb my mt u.1 u.2.1 u.2.2.1 u.2.2.2 gs ga gg gb gu gh gk gl gn gt) u) A t) A
abbrev QP_X6_wayLength (D : va_G) (A : Nat → Prop) (ad : Nat → Nat) (cA : Nat → ClassId) (ms : (Nat → Int32)) (mb : (Nat → Int32)) (my : (Nat → Int32)) (mt : (Nat → Int32)) (gs : Int32) (ga : Int32) (gg : Int32) (gb : Int32) (gu : Int32) (gh : Int32) (gk : Int32) (gl : Int32) (gn : Int32) (gt : Int32) (Q : Int32 → (Nat → Int32) → (Nat → Int32) → (Nat → Int32) → Int32 → Prop) (below : List Frame) (args : Array Value) (s : State) : State → Prop := MQ below (QC_X6_wayLength D A ad cA ms mb my mt gs ga gg gb gu gh gk gl gn gt Q) args s 0 0 A
def B_X6_wayLength_11  (Q : Int32 → (Nat → Int32) → (Nat → Int32) → (Nat → Int32) → Int32 → Prop)   (mw : (Nat → Int32)) (ml : (Nat → Int32)) (mo : (Nat → Int32)) (gm : Int32) : Prop := (Q (-2 : Int32) mw ml mo gm)
def B_X6_wayLength_43  (Q : Int32 → (Nat → Int32) → (Nat → Int32) → (Nat → Int32) → Int32 → Prop)  (s0 : Int32) (mw : (Nat → Int32)) (ml : (Nat → Int32)) (mo : (Nat → Int32)) (gm : Int32) : Prop := (Q s0 mw ml mo gm)
def B_X6_wayLength_0  (Q : Int32 → (Nat → Int32) → (Nat → Int32) → (Nat → Int32) → Int32 → Prop)  (v1 : Int32) (v2 : Int32) (mw : (Nat → Int32)) (ml : (Nat → Int32)) (mo : (Nat → Int32)) (gm : Int32) : Prop := (F_X6_isNumber v1 (fun r_1 => ((r_1 = 0 → (B_X6_wayLength_11  Q  mw ml mo gm)) ∧ (¬ r_1 = 0 → ((0 ≤ v2 → (F_X6_makes v1 mw ml mo gm (fun mw_4 ml_5 mo_6 gm_7 => ((gm_7 ≤ v2 → (B_X6_wayLength_43  Q  (-5 : Int32) mw_4 ml_5 mo_6 gm_7)) ∧ (¬ gm_7 ≤ v2 → (vp_in v2 16 ∧ (vp_in (mo_6 v2.toNatClampNeg) 16 ∧ (B_X6_wayLength_43  Q  (ml_5 (mo_6 v2.toNatClampNeg).toNatClampNeg) mw_4 ml_5 mo_6 gm_7)))))))) ∧ (¬ 0 ≤ v2 → (B_X6_wayLength_11  Q  mw ml mo gm)))))))
def F_X6_wayLength (v1 : Int32) (v2 : Int32)  (mw : (Nat → Int32)) (ml : (Nat → Int32)) (mo : (Nat → Int32)) (gm : Int32) (Q : Int32 → (Nat → Int32) → (Nat → Int32) → (Nat → Int32) → Int32 → Prop) : Prop := B_X6_wayLength_0 Q  v1 v2 mw ml mo gm
theorem lkX6_wayLength_29 : Cond.fieldLink RX6 29 (TX6 6).1 (TX6 6).2.1 (TX6 6).2.2.1 ∈ wsX6_wayLength := by decide +kernel
theorem lkX6_wayLength_26 : Cond.fieldLink RX6 26 (TX6 5).1 (TX6 5).2.1 (TX6 5).2.2.1 ∈ wsX6_wayLength := by decide +kernel
theorem lkX6_wayLength_107 : Cond.fieldLink RX6 107 (TX6 7).1 (TX6 7).2.1 (TX6 7).2.2.1 ∈ wsX6_wayLength := by decide +kernel
theorem inX6_wayLength_6 : ∀ q ∈ u_ws RX6 TX6 18, q ∈ wsX6_wayLength := by decide +kernel
set_option maxHeartbeats 4000000 in
set_option maxRecDepth 100000 in
theorem t_B_X6_wayLength_11  {Q : Int32 → (Nat → Int32) → (Nat → Int32) → (Nat → Int32) → Int32 → Prop} (C : CxX p s m args c D (tysX cA) RX6 cX6_wayLength 3 wsX6_wayLength) (hrt9 : meth.sig.returnType = (some .int)) (hlk : meth.locks = false)  (mw : (Nat → Int32)) (ml : (Nat → Int32)) (mo : (Nat → Int32)) (gm : Int32)  (h : B_X6_wayLength_11  Q  mw ml mo gm) : GoX p l e rmX6_wayLength s m args below meth c D A 3 0 0 (QP_X6_wayLength D A ad cA ms mb my mt gs ga gg gb gu gh gk gl gn gt Q below args s) 11 [] [] (WM ad cA ms mb my mt mw ml mo gm gs ga gg gb gu gh gk gl gn gt) := by
  replace h : (Q (-2 : Int32) mw ml mo gm) := h
  refine g_bipush C (-2 : Int32) dX6_wayLength_11 (by decide) ?_
  exact g_iret C hrt9 hlk (u := (mw, ml, mo, gm)) rfl h dX6_wayLength_13
set_option maxHeartbeats 4000000 in
set_option maxRecDepth 100000 in
theorem t_B_X6_wayLength_43  {Q : Int32 → (Nat → Int32) → (Nat → Int32) → (Nat → Int32) → Int32 → Prop} (C : CxX p s m args c D (tysX cA) RX6 cX6_wayLength 3 wsX6_wayLength) (hrt9 : meth.sig.returnType = (some .int)) (hlk : meth.locks = false) (s0 : Int32) (mw : (Nat → Int32)) (ml : (Nat → Int32)) (mo : (Nat → Int32)) (gm : Int32)  (h : B_X6_wayLength_43  Q  s0 mw ml mo gm) : GoX p l e rmX6_wayLength s m args below meth c D A 3 0 0 (QP_X6_wayLength D A ad cA ms mb my mt gs ga gg gb gu gh gk gl gn gt Q below args s) 43 [] [.int s0] (WM ad cA ms mb my mt mw ml mo gm gs ga gg gb gu gh gk gl gn gt) := by
  replace h : (Q s0 mw ml mo gm) := h
  exact g_iret C hrt9 hlk (u := (mw, ml, mo, gm)) rfl h dX6_wayLength_43
set_option maxHeartbeats 4000000 in
set_option maxRecDepth 100000 in
theorem t_B_X6_wayLength_0  {Q : Int32 → (Nat → Int32) → (Nat → Int32) → (Nat → Int32) → Int32 → Prop} (C : CxX p s m args c D (tysX cA) RX6 cX6_wayLength 3 wsX6_wayLength) (hrt9 : meth.sig.returnType = (some .int)) (hlk : meth.locks = false) (v1 : Int32) (v2 : Int32) (mw : (Nat → Int32)) (ml : (Nat → Int32)) (mo : (Nat → Int32)) (gm : Int32)  (h : B_X6_wayLength_0  Q  v1 v2 mw ml mo gm) : GoX p l e rmX6_wayLength s m args below meth c D A 3 0 0 (QP_X6_wayLength D A ad cA ms mb my mt gs ga gg gb gu gh gk gl gn gt Q below args s) 0 [(0, .ref (ad 0)), (1, .int v1), (2, .int v2)] [] (WM ad cA ms mb my mt mw ml mo gm gs ga gg gb gu gh gk gl gn gt) := by
  replace h : (F_X6_isNumber v1 (fun r_1 => ((r_1 = 0 → (B_X6_wayLength_11  Q  mw ml mo gm)) ∧ (¬ r_1 = 0 → ((0 ≤ v2 → (F_X6_makes v1 mw ml mo gm (fun mw_4 ml_5 mo_6 gm_7 => ((gm_7 ≤ v2 → (B_X6_wayLength_43  Q  (-5 : Int32) mw_4 ml_5 mo_6 gm_7)) ∧ (¬ gm_7 ≤ v2 → (vp_in v2 16 ∧ (vp_in (mo_6 v2.toNatClampNeg) 16 ∧ (B_X6_wayLength_43  Q  (ml_5 (mo_6 v2.toNatClampNeg).toNatClampNeg) mw_4 ml_5 mo_6 gm_7)))))))) ∧ (¬ 0 ≤ v2 → (B_X6_wayLength_11  Q  mw ml mo gm))))))) := h
  refine g_iload_n C 1 dX6_wayLength_0 rfl rfl ?_
  refine k_X6_isNumber C gX6_wayLength_X6_isNumber ⟨Nat.le_of_ble_eq_true rfl, Nat.le_of_ble_eq_true rfl⟩ (Nat.le_of_ble_eq_true rfl) dX6_wayLength_1  h (fun r_1 h => ?_)
  refine g_if_eq C 11 dX6_wayLength_4 (by decide) (fun c_2 => ?_) (fun c_2 => ?_)
  · replace h := h.1 c_2
    exact g_sub [] rfl (t_B_X6_wayLength_11 C hrt9 hlk  mw ml mo gm  h)
  · replace h := h.2 c_2
    refine g_iload_n C 2 dX6_wayLength_7 rfl rfl ?_
    refine g_if_ge C 14 dX6_wayLength_8 (by decide) (fun c_3 => ?_) (fun c_3 => ?_)
    · replace h := h.1 c_3
      refine g_aload_n C 0 dX6_wayLength_14 rfl rfl ?_
      refine g_iload_n C 1 dX6_wayLength_15 rfl rfl ?_
      refine k_X6_makes C gX6_wayLength_X6_makes ⟨Nat.le_of_ble_eq_true rfl, Nat.le_of_ble_eq_true rfl⟩ (Nat.le_of_ble_eq_true rfl) dX6_wayLength_16  h (fun mw_4 ml_5 mo_6 gm_7 h => ?_)
      refine g_iload_n C 2 dX6_wayLength_19 rfl rfl ?_
      refine g_aload_n C 0 dX6_wayLength_20 rfl rfl ?_
      refine g_get C inX6_wayLength_6 0 WMg0 rfl 7 (by decide) lkX6_wayLength_107 rfl dX6_wayLength_21 ?_
      refine g_icmp_ge C 41 dX6_wayLength_24 (by decide) (fun c_8 => ?_) (fun c_8 => ?_)
      · replace h := h.1 c_8
        refine g_bipush C (-5 : Int32) dX6_wayLength_41 (by decide) ?_
        exact g_sub [] rfl (t_B_X6_wayLength_43 C hrt9 hlk  (-5 : Int32) mw_4 ml_5 mo_6 gm_7  h)
      · replace h := h.2 c_8
        refine g_aload_n C 0 dX6_wayLength_27 rfl rfl ?_
        refine g_get C inX6_wayLength_6 0 WMg0 rfl 5 (by decide) lkX6_wayLength_26 rfl dX6_wayLength_28 ?_
        refine g_aload_n C 0 dX6_wayLength_31 rfl rfl ?_
        refine g_get C inX6_wayLength_6 0 WMg0 rfl 6 (by decide) lkX6_wayLength_29 rfl dX6_wayLength_32 ?_
        refine g_iload_n C 2 dX6_wayLength_35 rfl rfl ?_
        refine g_iald C 7 1 WMg7 rfl h.1 dX6_wayLength_36 ?_
        replace h := h.2
        refine g_iald C 6 1 WMg6 rfl h.1 dX6_wayLength_37 ?_
        replace h := h.2
        refine g_goto C 43 dX6_wayLength_38 (by decide) ?_
        exact g_sub [] rfl (t_B_X6_wayLength_43 C hrt9 hlk  (ml_5 (mo_6 v2.toNatClampNeg).toNatClampNeg) mw_4 ml_5 mo_6 gm_7  h)
    · replace h := h.2 c_3
      exact g_sub [] rfl (t_B_X6_wayLength_11 C hrt9 hlk  mw ml mo gm  h)
theorem c_X6_wayLength (l : Launch) (D : va_G) (A : Nat → Prop) (ad : Nat → Nat) (cA : Nat → ClassId) (v1 : Int32) (v2 : Int32) {ms : (Nat → Int32)} {mb : (Nat → Int32)} {my : (Nat → Int32)} {mt : (Nat → Int32)} {mw : (Nat → Int32)} {ml : (Nat → Int32)} {mo : (Nat → Int32)} {gm : Int32} {gs : Int32} {ga : Int32} {gg : Int32} {gb : Int32} {gu : Int32} {gh : Int32} {gk : Int32} {gl : Int32} {gn : Int32} {gt : Int32}  (Q : Int32 → (Nat → Int32) → (Nat → Int32) → (Nat → Int32) → Int32 → Prop) (h : F_X6_wayLength v1 v2 mw ml mo gm Q) : Met l yX6_wayLength wsX6_wayLength rmX6_wayLength (va_Pc [.ref (ad 0), .int v1, .int v2] (OKX D (tysX cA) (WM ad cA ms mb my mt mw ml mo gm gs ga gg gb gu gh gk gl gn gt) A)) (QC_X6_wayLength D A ad cA ms mb my mt gs ga gg gb gu gh gk gl gn gt Q) 0 0 A :=
  g_met (own := RX6) (by decide) rfl rfl (Nat.le_of_ble_eq_true rfl) (fun p e s m below meth c C hrt9 hlk _ => g_sub [0, 1, 2] rfl (t_B_X6_wayLength_0 C hrt9 hlk v1 v2 mw ml mo gm  h))
theorem k_X6_wayLength {ws : List Cond} {own : String} {cc : ByteArray} {nL pc index : Nat} {lv : List (Nat × Value)} {st : List Value} {Q : State → Prop} {R : Room} {K : Int32 → (Nat → Int32) → (Nat → Int32) → (Nat → Int32) → Int32 → Prop} {v1 : Int32} {v2 : Int32} (C : CxX p s m args c D (tysX cA) own cc nL ws) (hT : GoodIn ws (wsV own index RX6 yX6_wayLength wsX6_wayLength)) (hR : rmX6_wayLength.frames + 1 ≤ R.frames ∧ 8 + (3 + 11) + rmX6_wayLength.locals ≤ R.locals) (hcat : (st.map fun v => v.category).sum ≤ 8) (hdg : decode cc pc = .ok (.invokevirtual index, 3))  (h : F_X6_wayLength v1 v2 mw ml mo gm K) (kk : ∀ (r : Int32) (mwq : (Nat → Int32)) (mlq : (Nat → Int32)) (moq : (Nat → Int32)) (gmq : Int32), K r mwq mlq moq gmq → GoX p l e R s m args below meth c D A nL 0 0 Q (pc + 3) lv (.int r :: st) (WM ad cA ms mb my mt mwq mlq moq gmq gs ga gg gb gu gh gk gl gn gt)) : GoX p l e R s m args below meth c D A nL 0 0 Q pc lv (.int v2 :: .int v1 :: .ref (ad 0) :: st) (WM ad cA ms mb my mt mw ml mo gm gs ga gg gb gu gh gk gl gn gt) :=
  g_callVi C (As := [.int v1, .int v2]) 2 (c_X6_wayLength l D A ad cA v1 v2  K h) hT rfl rfl rfl (by decide +kernel) hR 0 WMg0 rfl rfl rfl hcat hdg (fun r u hu => kk r u.1 u.2.1 u.2.2.1 u.2.2.2 hu)
/-! X6_wayAt -/
abbrev rmX6_wayAt : Room := { frames := 5, cells := 0, slots := 0, locals := 114 }
abbrev QC_X6_wayAt (D : va_G) (A : Nat → Prop) (ad : Nat → Nat) (cA : Nat → ClassId) (ms : (Nat → Int32)) (mb : (Nat → Int32)) (my : (Nat → Int32)) (mt : (Nat → Int32)) (gs : Int32) (ga : Int32) (gg : Int32) (gb : Int32) (gu : Int32) (gh : Int32) (gk : Int32) (gl : Int32) (gn : Int32) (gt : Int32) (Q : Int32 → (Nat → Int32) → (Nat → Int32) → (Nat → Int32) → Int32 → Prop) : Array Value → State → Outcome → State → Prop := va_Qi (fun (r : Int32) (u : (Nat → Int32) × (Nat → Int32) × (Nat → Int32) × Int32) => Q r u.1 u.2.1 u.2.2.1 u.2.2.2) (fun u t => OKX D (tysX cA) ((fun u : (Nat → Int32) × (Nat → Int32) × (Nat → Int32) × Int32 => WM ad cA ms mb my mt u.1 u.2.1 u.2.2.1 u.2.2.2 gs ga gg gb gu gh gk gl gn gt) u) A t) A
abbrev QP_X6_wayAt (D : va_G) (A : Nat → Prop) (ad : Nat → Nat) (cA : Nat → ClassId) (ms : (Nat → Int32)) (mb : (Nat → Int32)) (my : (Nat → Int32)) (mt : (Nat → Int32)) (gs : Int32) (ga : Int32) (gg : Int32) (gb : Int32) (gu : Int32) (gh : Int32) (gk : Int32) (gl : Int32) (gn : Int32) (gt : Int32) (Q : Int32 → (Nat → Int32) → (Nat → Int32) → (Nat → Int32) → Int32 → Prop) (below : List Frame) (args : Array Value) (s : State) : State → Prop := MQ below (QC_X6_wayAt D A ad cA ms mb my mt gs ga gg gb gu gh gk gl gn gt Q) args s 0 0 A
def B_X6_wayAt_15  (Q : Int32 → (Nat → Int32) → (Nat → Int32) → (Nat → Int32) → Int32 → Prop)   (mw : (Nat → Int32)) (ml : (Nat → Int32)) (mo : (Nat → Int32)) (gm : Int32) : Prop := (Q (-2 : Int32) mw ml mo gm)
def B_X6_wayAt_67  (Q : Int32 → (Nat → Int32) → (Nat → Int32) → (Nat → Int32) → Int32 → Prop)  (s0 : Int32) (mw : (Nat → Int32)) (ml : (Nat → Int32)) (mo : (Nat → Int32)) (gm : Int32) : Prop := (Q s0 mw ml mo gm)
def B_X6_wayAt_65  (Q : Int32 → (Nat → Int32) → (Nat → Int32) → (Nat → Int32) → Int32 → Prop)   (mw : (Nat → Int32)) (ml : (Nat → Int32)) (mo : (Nat → Int32)) (gm : Int32) : Prop := (B_X6_wayAt_67  Q  (-5 : Int32) mw ml mo gm)
def B_X6_wayAt_0  (Q : Int32 → (Nat → Int32) → (Nat → Int32) → (Nat → Int32) → Int32 → Prop)  (v1 : Int32) (v2 : Int32) (v3 : Int32) (mw : (Nat → Int32)) (ml : (Nat → Int32)) (mo : (Nat → Int32)) (gm : Int32) : Prop := (F_X6_isNumber v1 (fun r_1 => ((r_1 = 0 → (B_X6_wayAt_15  Q  mw ml mo gm)) ∧ (¬ r_1 = 0 → ((v2 < 0 → (B_X6_wayAt_15  Q  mw ml mo gm)) ∧ (¬ v2 < 0 → ((0 ≤ v3 → (F_X6_makes v1 mw ml mo gm (fun mw_5 ml_6 mo_7 gm_8 => ((gm_8 ≤ v2 → (B_X6_wayAt_65  Q  mw_5 ml_6 mo_7 gm_8)) ∧ (¬ gm_8 ≤ v2 → (vp_in v2 16 ∧ (vp_in (mo_7 v2.toNatClampNeg) 16 ∧ (((ml_6 (mo_7 v2.toNatClampNeg).toNatClampNeg) ≤ v3 → (B_X6_wayAt_65  Q  mw_5 ml_6 mo_7 gm_8)) ∧ (¬ (ml_6 (mo_7 v2.toNatClampNeg).toNatClampNeg) ≤ v3 → (vp_in v2 16 ∧ (vp_in (((10 : Int32) * (mo_7 v2.toNatClampNeg)) + v3) 160 ∧ (B_X6_wayAt_67  Q  (mw_5 (((10 : Int32) * (mo_7 v2.toNatClampNeg)) + v3).toNatClampNeg) mw_5 ml_6 mo_7 gm_8)))))))))))) ∧ (¬ 0 ≤ v3 → (B_X6_wayAt_15  Q  mw ml mo gm)))))))))
def F_X6_wayAt (v1 : Int32) (v2 : Int32) (v3 : Int32)  (mw : (Nat → Int32)) (ml : (Nat → Int32)) (mo : (Nat → Int32)) (gm : Int32) (Q : Int32 → (Nat → Int32) → (Nat → Int32) → (Nat → Int32) → Int32 → Prop) : Prop := B_X6_wayAt_0 Q  v1 v2 v3 mw ml mo gm
theorem lkX6_wayAt_23 : Cond.fieldLink RX6 23 (TX6 4).1 (TX6 4).2.1 (TX6 4).2.2.1 ∈ wsX6_wayAt := by decide +kernel
theorem lkX6_wayAt_29 : Cond.fieldLink RX6 29 (TX6 6).1 (TX6 6).2.1 (TX6 6).2.2.1 ∈ wsX6_wayAt := by decide +kernel
theorem lkX6_wayAt_26 : Cond.fieldLink RX6 26 (TX6 5).1 (TX6 5).2.1 (TX6 5).2.2.1 ∈ wsX6_wayAt := by decide +kernel
theorem lkX6_wayAt_107 : Cond.fieldLink RX6 107 (TX6 7).1 (TX6 7).2.1 (TX6 7).2.2.1 ∈ wsX6_wayAt := by decide +kernel
theorem inX6_wayAt_6 : ∀ q ∈ u_ws RX6 TX6 18, q ∈ wsX6_wayAt := by decide +kernel
set_option maxHeartbeats 4000000 in
set_option maxRecDepth 100000 in
theorem t_B_X6_wayAt_15  {Q : Int32 → (Nat → Int32) → (Nat → Int32) → (Nat → Int32) → Int32 → Prop} (C : CxX p s m args c D (tysX cA) RX6 cX6_wayAt 4 wsX6_wayAt) (hrt9 : meth.sig.returnType = (some .int)) (hlk : meth.locks = false)  (mw : (Nat → Int32)) (ml : (Nat → Int32)) (mo : (Nat → Int32)) (gm : Int32)  (h : B_X6_wayAt_15  Q  mw ml mo gm) : GoX p l e rmX6_wayAt s m args below meth c D A 4 0 0 (QP_X6_wayAt D A ad cA ms mb my mt gs ga gg gb gu gh gk gl gn gt Q below args s) 15 [] [] (WM ad cA ms mb my mt mw ml mo gm gs ga gg gb gu gh gk gl gn gt) := by
  replace h : (Q (-2 : Int32) mw ml mo gm) := h
  refine g_bipush C (-2 : Int32) dX6_wayAt_15 (by decide) ?_
  exact g_iret C hrt9 hlk (u := (mw, ml, mo, gm)) rfl h dX6_wayAt_17
set_option maxHeartbeats 4000000 in
set_option maxRecDepth 100000 in
theorem t_B_X6_wayAt_67  {Q : Int32 → (Nat → Int32) → (Nat → Int32) → (Nat → Int32) → Int32 → Prop} (C : CxX p s m args c D (tysX cA) RX6 cX6_wayAt 4 wsX6_wayAt) (hrt9 : meth.sig.returnType = (some .int)) (hlk : meth.locks = false) (s0 : Int32) (mw : (Nat → Int32)) (ml : (Nat → Int32)) (mo : (Nat → Int32)) (gm : Int32)  (h : B_X6_wayAt_67  Q  s0 mw ml mo gm) : GoX p l e rmX6_wayAt s m args below meth c D A 4 0 0 (QP_X6_wayAt D A ad cA ms mb my mt gs ga gg gb gu gh gk gl gn gt Q below args s) 67 [] [.int s0] (WM ad cA ms mb my mt mw ml mo gm gs ga gg gb gu gh gk gl gn gt) := by
  replace h : (Q s0 mw ml mo gm) := h
  exact g_iret C hrt9 hlk (u := (mw, ml, mo, gm)) rfl h dX6_wayAt_67
set_option maxHeartbeats 4000000 in
set_option maxRecDepth 100000 in
theorem t_B_X6_wayAt_65  {Q : Int32 → (Nat → Int32) → (Nat → Int32) → (Nat → Int32) → Int32 → Prop} (C : CxX p s m args c D (tysX cA) RX6 cX6_wayAt 4 wsX6_wayAt) (hrt9 : meth.sig.returnType = (some .int)) (hlk : meth.locks = false)  (mw : (Nat → Int32)) (ml : (Nat → Int32)) (mo : (Nat → Int32)) (gm : Int32)  (h : B_X6_wayAt_65  Q  mw ml mo gm) : GoX p l e rmX6_wayAt s m args below meth c D A 4 0 0 (QP_X6_wayAt D A ad cA ms mb my mt gs ga gg gb gu gh gk gl gn gt Q below args s) 65 [] [] (WM ad cA ms mb my mt mw ml mo gm gs ga gg gb gu gh gk gl gn gt) := by
  replace h : (B_X6_wayAt_67  Q  (-5 : Int32) mw ml mo gm) := h
  refine g_bipush C (-5 : Int32) dX6_wayAt_65 (by decide) ?_
  exact g_sub [] rfl (t_B_X6_wayAt_67 C hrt9 hlk  (-5 : Int32) mw ml mo gm  h)
set_option maxHeartbeats 4000000 in
set_option maxRecDepth 100000 in
theorem t_B_X6_wayAt_0  {Q : Int32 → (Nat → Int32) → (Nat → Int32) → (Nat → Int32) → Int32 → Prop} (C : CxX p s m args c D (tysX cA) RX6 cX6_wayAt 4 wsX6_wayAt) (hrt9 : meth.sig.returnType = (some .int)) (hlk : meth.locks = false) (v1 : Int32) (v2 : Int32) (v3 : Int32) (mw : (Nat → Int32)) (ml : (Nat → Int32)) (mo : (Nat → Int32)) (gm : Int32)  (h : B_X6_wayAt_0  Q  v1 v2 v3 mw ml mo gm) : GoX p l e rmX6_wayAt s m args below meth c D A 4 0 0 (QP_X6_wayAt D A ad cA ms mb my mt gs ga gg gb gu gh gk gl gn gt Q below args s) 0 [(0, .ref (ad 0)), (1, .int v1), (2, .int v2), (3, .int v3)] [] (WM ad cA ms mb my mt mw ml mo gm gs ga gg gb gu gh gk gl gn gt) := by
  replace h : (F_X6_isNumber v1 (fun r_1 => ((r_1 = 0 → (B_X6_wayAt_15  Q  mw ml mo gm)) ∧ (¬ r_1 = 0 → ((v2 < 0 → (B_X6_wayAt_15  Q  mw ml mo gm)) ∧ (¬ v2 < 0 → ((0 ≤ v3 → (F_X6_makes v1 mw ml mo gm (fun mw_5 ml_6 mo_7 gm_8 => ((gm_8 ≤ v2 → (B_X6_wayAt_65  Q  mw_5 ml_6 mo_7 gm_8)) ∧ (¬ gm_8 ≤ v2 → (vp_in v2 16 ∧ (vp_in (mo_7 v2.toNatClampNeg) 16 ∧ (((ml_6 (mo_7 v2.toNatClampNeg).toNatClampNeg) ≤ v3 → (B_X6_wayAt_65  Q  mw_5 ml_6 mo_7 gm_8)) ∧ (¬ (ml_6 (mo_7 v2.toNatClampNeg).toNatClampNeg) ≤ v3 → (vp_in v2 16 ∧ (vp_in (((10 : Int32) * (mo_7 v2.toNatClampNeg)) + v3) 160 ∧ (B_X6_wayAt_67  Q  (mw_5 (((10 : Int32) * (mo_7 v2.toNatClampNeg)) + v3).toNatClampNeg) mw_5 ml_6 mo_7 gm_8)))))))))))) ∧ (¬ 0 ≤ v3 → (B_X6_wayAt_15  Q  mw ml mo gm))))))))) := h
  refine g_iload_n C 1 dX6_wayAt_0 rfl rfl ?_
  refine k_X6_isNumber C gX6_wayAt_X6_isNumber ⟨Nat.le_of_ble_eq_true rfl, Nat.le_of_ble_eq_true rfl⟩ (Nat.le_of_ble_eq_true rfl) dX6_wayAt_1  h (fun r_1 h => ?_)
  refine g_if_eq C 15 dX6_wayAt_4 (by decide) (fun c_2 => ?_) (fun c_2 => ?_)
  · replace h := h.1 c_2
    exact g_sub [] rfl (t_B_X6_wayAt_15 C hrt9 hlk  mw ml mo gm  h)
  · replace h := h.2 c_2
    refine g_iload_n C 2 dX6_wayAt_7 rfl rfl ?_
    refine g_if_lt C 15 dX6_wayAt_8 (by decide) (fun c_3 => ?_) (fun c_3 => ?_)
    · replace h := h.1 c_3
      exact g_sub [] rfl (t_B_X6_wayAt_15 C hrt9 hlk  mw ml mo gm  h)
    · replace h := h.2 c_3
      refine g_iload_n C 3 dX6_wayAt_11 rfl rfl ?_
      refine g_if_ge C 18 dX6_wayAt_12 (by decide) (fun c_4 => ?_) (fun c_4 => ?_)
      · replace h := h.1 c_4
        refine g_aload_n C 0 dX6_wayAt_18 rfl rfl ?_
        refine g_iload_n C 1 dX6_wayAt_19 rfl rfl ?_
        refine k_X6_makes C gX6_wayAt_X6_makes ⟨Nat.le_of_ble_eq_true rfl, Nat.le_of_ble_eq_true rfl⟩ (Nat.le_of_ble_eq_true rfl) dX6_wayAt_20  h (fun mw_5 ml_6 mo_7 gm_8 h => ?_)
        refine g_iload_n C 2 dX6_wayAt_23 rfl rfl ?_
        refine g_aload_n C 0 dX6_wayAt_24 rfl rfl ?_
        refine g_get C inX6_wayAt_6 0 WMg0 rfl 7 (by decide) lkX6_wayAt_107 rfl dX6_wayAt_25 ?_
        refine g_icmp_ge C 65 dX6_wayAt_28 (by decide) (fun c_9 => ?_) (fun c_9 => ?_)
        · replace h := h.1 c_9
          exact g_sub [] rfl (t_B_X6_wayAt_65 C hrt9 hlk  mw_5 ml_6 mo_7 gm_8  h)
        · replace h := h.2 c_9
          refine g_iload_n C 3 dX6_wayAt_31 rfl rfl ?_
          refine g_aload_n C 0 dX6_wayAt_32 rfl rfl ?_
          refine g_get C inX6_wayAt_6 0 WMg0 rfl 5 (by decide) lkX6_wayAt_26 rfl dX6_wayAt_33 ?_
          refine g_aload_n C 0 dX6_wayAt_36 rfl rfl ?_
          refine g_get C inX6_wayAt_6 0 WMg0 rfl 6 (by decide) lkX6_wayAt_29 rfl dX6_wayAt_37 ?_
          refine g_iload_n C 2 dX6_wayAt_40 rfl rfl ?_
          refine g_iald C 7 1 WMg7 rfl h.1 dX6_wayAt_41 ?_
          replace h := h.2
          refine g_iald C 6 1 WMg6 rfl h.1 dX6_wayAt_42 ?_
          replace h := h.2
          refine g_icmp_ge C 65 dX6_wayAt_43 (by decide) (fun c_10 => ?_) (fun c_10 => ?_)
          · replace h := h.1 c_10
            exact g_sub [] rfl (t_B_X6_wayAt_65 C hrt9 hlk  mw_5 ml_6 mo_7 gm_8  h)
          · replace h := h.2 c_10
            refine g_aload_n C 0 dX6_wayAt_46 rfl rfl ?_
            refine g_get C inX6_wayAt_6 0 WMg0 rfl 4 (by decide) lkX6_wayAt_23 rfl dX6_wayAt_47 ?_
            refine g_bipush C (10 : Int32) dX6_wayAt_50 (by decide) ?_
            refine g_aload_n C 0 dX6_wayAt_52 rfl rfl ?_
            refine g_get C inX6_wayAt_6 0 WMg0 rfl 6 (by decide) lkX6_wayAt_29 rfl dX6_wayAt_53 ?_
            refine g_iload_n C 2 dX6_wayAt_56 rfl rfl ?_
            refine g_iald C 7 1 WMg7 rfl h.1 dX6_wayAt_57 ?_
            replace h := h.2
            refine g_imul C dX6_wayAt_58 ?_
            refine g_iload_n C 3 dX6_wayAt_59 rfl rfl ?_
            refine g_iadd C dX6_wayAt_60 ?_
            refine g_cald C 5 0 WMg5 rfl h.1 dX6_wayAt_61 ?_
            replace h := h.2
            refine g_goto C 67 dX6_wayAt_62 (by decide) ?_
            exact g_sub [] rfl (t_B_X6_wayAt_67 C hrt9 hlk  (mw_5 (((10 : Int32) * (mo_7 v2.toNatClampNeg)) + v3).toNatClampNeg) mw_5 ml_6 mo_7 gm_8  h)
      · replace h := h.2 c_4
        exact g_sub [] rfl (t_B_X6_wayAt_15 C hrt9 hlk  mw ml mo gm  h)
theorem c_X6_wayAt (l : Launch) (D : va_G) (A : Nat → Prop) (ad : Nat → Nat) (cA : Nat → ClassId) (v1 : Int32) (v2 : Int32) (v3 : Int32) {ms : (Nat → Int32)} {mb : (Nat → Int32)} {my : (Nat → Int32)} {mt : (Nat → Int32)} {mw : (Nat → Int32)} {ml : (Nat → Int32)} {mo : (Nat → Int32)} {gm : Int32} {gs : Int32} {ga : Int32} {gg : Int32} {gb : Int32} {gu : Int32} {gh : Int32} {gk : Int32} {gl : Int32} {gn : Int32} {gt : Int32}  (Q : Int32 → (Nat → Int32) → (Nat → Int32) → (Nat → Int32) → Int32 → Prop) (h : F_X6_wayAt v1 v2 v3 mw ml mo gm Q) : Met l yX6_wayAt wsX6_wayAt rmX6_wayAt (va_Pc [.ref (ad 0), .int v1, .int v2, .int v3] (OKX D (tysX cA) (WM ad cA ms mb my mt mw ml mo gm gs ga gg gb gu gh gk gl gn gt) A)) (QC_X6_wayAt D A ad cA ms mb my mt gs ga gg gb gu gh gk gl gn gt Q) 0 0 A :=
  g_met (own := RX6) (by decide) rfl rfl (Nat.le_of_ble_eq_true rfl) (fun p e s m below meth c C hrt9 hlk _ => g_sub [0, 1, 2, 3] rfl (t_B_X6_wayAt_0 C hrt9 hlk v1 v2 v3 mw ml mo gm  h))
theorem k_X6_wayAt {ws : List Cond} {own : String} {cc : ByteArray} {nL pc index : Nat} {lv : List (Nat × Value)} {st : List Value} {Q : State → Prop} {R : Room} {K : Int32 → (Nat → Int32) → (Nat → Int32) → (Nat → Int32) → Int32 → Prop} {v1 : Int32} {v2 : Int32} {v3 : Int32} (C : CxX p s m args c D (tysX cA) own cc nL ws) (hT : GoodIn ws (wsV own index RX6 yX6_wayAt wsX6_wayAt)) (hR : rmX6_wayAt.frames + 1 ≤ R.frames ∧ 8 + (4 + 11) + rmX6_wayAt.locals ≤ R.locals) (hcat : (st.map fun v => v.category).sum ≤ 8) (hdg : decode cc pc = .ok (.invokevirtual index, 3))  (h : F_X6_wayAt v1 v2 v3 mw ml mo gm K) (kk : ∀ (r : Int32) (mwq : (Nat → Int32)) (mlq : (Nat → Int32)) (moq : (Nat → Int32)) (gmq : Int32), K r mwq mlq moq gmq → GoX p l e R s m args below meth c D A nL 0 0 Q (pc + 3) lv (.int r :: st) (WM ad cA ms mb my mt mwq mlq moq gmq gs ga gg gb gu gh gk gl gn gt)) : GoX p l e R s m args below meth c D A nL 0 0 Q pc lv (.int v3 :: .int v2 :: .int v1 :: .ref (ad 0) :: st) (WM ad cA ms mb my mt mw ml mo gm gs ga gg gb gu gh gk gl gn gt) :=
  g_callVi C (As := [.int v1, .int v2, .int v3]) 3 (c_X6_wayAt l D A ad cA v1 v2 v3  K h) hT rfl rfl rfl (by decide +kernel) hR 0 WMg0 rfl rfl rfl hcat hdg (fun r u hu => kk r u.1 u.2.1 u.2.2.1 u.2.2.2 hu)
/-! X6_styled -/
abbrev rmX6_styled : Room := { frames := 5, cells := 0, slots := 0, locals := 114 }
abbrev QC_X6_styled (D : va_G) (A : Nat → Prop) (ad : Nat → Nat) (cA : Nat → ClassId) (ms : (Nat → Int32)) (mb : (Nat → Int32)) (my : (Nat → Int32)) (mt : (Nat → Int32)) (gs : Int32) (ga : Int32) (gg : Int32) (gb : Int32) (gu : Int32) (gh : Int32) (gk : Int32) (gl : Int32) (gn : Int32) (gt : Int32) (Q : Int32 → (Nat → Int32) → (Nat → Int32) → (Nat → Int32) → Int32 → Prop) : Array Value → State → Outcome → State → Prop := va_Qi (fun (r : Int32) (u : (Nat → Int32) × (Nat → Int32) × (Nat → Int32) × Int32) => Q r u.1 u.2.1 u.2.2.1 u.2.2.2) (fun u t => OKX D (tysX cA) ((fun u : (Nat → Int32) × (Nat → Int32) × (Nat → Int32) × Int32 => WM ad cA ms mb my mt u.1 u.2.1 u.2.2.1 u.2.2.2 gs ga gg gb gu gh gk gl gn gt) u) A t) A
abbrev QP_X6_styled (D : va_G) (A : Nat → Prop) (ad : Nat → Nat) (cA : Nat → ClassId) (ms : (Nat → Int32)) (mb : (Nat → Int32)) (my : (Nat → Int32)) (mt : (Nat → Int32)) (gs : Int32) (ga : Int32) (gg : Int32) (gb : Int32) (gu : Int32) (gh : Int32) (gk : Int32) (gl : Int32) (gn : Int32) (gt : Int32) (Q : Int32 → (Nat → Int32) → (Nat → Int32) → (Nat → Int32) → Int32 → Prop) (below : List Frame) (args : Array Value) (s : State) : State → Prop := MQ below (QC_X6_styled D A ad cA ms mb my mt gs ga gg gb gu gh gk gl gn gt Q) args s 0 0 A
def B_X6_styled_0  (Q : Int32 → (Nat → Int32) → (Nat → Int32) → (Nat → Int32) → Int32 → Prop)  (v1 : Int32) (v2 : Int32) (mw : (Nat → Int32)) (ml : (Nat → Int32)) (mo : (Nat → Int32)) (gm : Int32) : Prop := (F_X6_in v2 (0 : Int32) (3 : Int32) (fun r_1 => ((r_1 = 0 → (Q (-1 : Int32) mw ml mo gm)) ∧ (¬ r_1 = 0 → (F_X6_isNumber v1 (fun r_3 => ((r_3 = 0 → (Q (-2 : Int32) mw ml mo gm)) ∧ (¬ r_3 = 0 → (F_X6_makes v1 mw ml mo gm (fun mw_5 ml_6 mo_7 gm_8 => (F_X6_placeOf v2 mw_5 ml_6 mo_7 gm_8 (fun r_9 => (Q r_9 mw_5 ml_6 mo_7 gm_8)))))))))))))
def F_X6_styled (v1 : Int32) (v2 : Int32)  (mw : (Nat → Int32)) (ml : (Nat → Int32)) (mo : (Nat → Int32)) (gm : Int32) (Q : Int32 → (Nat → Int32) → (Nat → Int32) → (Nat → Int32) → Int32 → Prop) : Prop := B_X6_styled_0 Q  v1 v2 mw ml mo gm
set_option maxHeartbeats 4000000 in
set_option maxRecDepth 100000 in
theorem t_B_X6_styled_0  {Q : Int32 → (Nat → Int32) → (Nat → Int32) → (Nat → Int32) → Int32 → Prop} (C : CxX p s m args c D (tysX cA) RX6 cX6_styled 3 wsX6_styled) (hrt9 : meth.sig.returnType = (some .int)) (hlk : meth.locks = false) (v1 : Int32) (v2 : Int32) (mw : (Nat → Int32)) (ml : (Nat → Int32)) (mo : (Nat → Int32)) (gm : Int32)  (h : B_X6_styled_0  Q  v1 v2 mw ml mo gm) : GoX p l e rmX6_styled s m args below meth c D A 3 0 0 (QP_X6_styled D A ad cA ms mb my mt gs ga gg gb gu gh gk gl gn gt Q below args s) 0 [(0, .ref (ad 0)), (1, .int v1), (2, .int v2)] [] (WM ad cA ms mb my mt mw ml mo gm gs ga gg gb gu gh gk gl gn gt) := by
  replace h : (F_X6_in v2 (0 : Int32) (3 : Int32) (fun r_1 => ((r_1 = 0 → (Q (-1 : Int32) mw ml mo gm)) ∧ (¬ r_1 = 0 → (F_X6_isNumber v1 (fun r_3 => ((r_3 = 0 → (Q (-2 : Int32) mw ml mo gm)) ∧ (¬ r_3 = 0 → (F_X6_makes v1 mw ml mo gm (fun mw_5 ml_6 mo_7 gm_8 => (F_X6_placeOf v2 mw_5 ml_6 mo_7 gm_8 (fun r_9 => (Q r_9 mw_5 ml_6 mo_7 gm_8))))))))))))) := h
  refine g_iload_n C 2 dX6_styled_0 rfl rfl ?_
  refine g_iconst C (0 : Int32) dX6_styled_1 (by decide) ?_
  refine g_iconst C (3 : Int32) dX6_styled_2 (by decide) ?_
  refine k_X6_in C gX6_styled_X6_in ⟨Nat.le_of_ble_eq_true rfl, Nat.le_of_ble_eq_true rfl⟩ (Nat.le_of_ble_eq_true rfl) dX6_styled_3  h (fun r_1 h => ?_)
  refine g_if_ne C 11 dX6_styled_6 (by decide) (fun c_2 => ?_) (fun c_2 => ?_)
  · replace h := h.2 c_2
    refine g_iload_n C 1 dX6_styled_11 rfl rfl ?_
    refine k_X6_isNumber C gX6_styled_X6_isNumber ⟨Nat.le_of_ble_eq_true rfl, Nat.le_of_ble_eq_true rfl⟩ (Nat.le_of_ble_eq_true rfl) dX6_styled_12  h (fun r_3 h => ?_)
    refine g_if_ne C 21 dX6_styled_15 (by decide) (fun c_4 => ?_) (fun c_4 => ?_)
    · replace h := h.2 c_4
      refine g_aload_n C 0 dX6_styled_21 rfl rfl ?_
      refine g_iload_n C 1 dX6_styled_22 rfl rfl ?_
      refine k_X6_makes C gX6_styled_X6_makes ⟨Nat.le_of_ble_eq_true rfl, Nat.le_of_ble_eq_true rfl⟩ (Nat.le_of_ble_eq_true rfl) dX6_styled_23  h (fun mw_5 ml_6 mo_7 gm_8 h => ?_)
      refine g_aload_n C 0 dX6_styled_26 rfl rfl ?_
      refine g_iload_n C 2 dX6_styled_27 rfl rfl ?_
      refine k_X6_placeOf C gX6_styled_X6_placeOf ⟨Nat.le_of_ble_eq_true rfl, Nat.le_of_ble_eq_true rfl⟩ (Nat.le_of_ble_eq_true rfl) dX6_styled_28  h (fun r_9 h => ?_)
      exact g_iret C hrt9 hlk (u := (mw_5, ml_6, mo_7, gm_8)) rfl h dX6_styled_31
    · replace h := h.1 c_4
      refine g_bipush C (-2 : Int32) dX6_styled_18 (by decide) ?_
      exact g_iret C hrt9 hlk (u := (mw, ml, mo, gm)) rfl h dX6_styled_20
  · replace h := h.1 c_2
    refine g_iconst C (-1 : Int32) dX6_styled_9 (by decide) ?_
    exact g_iret C hrt9 hlk (u := (mw, ml, mo, gm)) rfl h dX6_styled_10
theorem c_X6_styled (l : Launch) (D : va_G) (A : Nat → Prop) (ad : Nat → Nat) (cA : Nat → ClassId) (v1 : Int32) (v2 : Int32) {ms : (Nat → Int32)} {mb : (Nat → Int32)} {my : (Nat → Int32)} {mt : (Nat → Int32)} {mw : (Nat → Int32)} {ml : (Nat → Int32)} {mo : (Nat → Int32)} {gm : Int32} {gs : Int32} {ga : Int32} {gg : Int32} {gb : Int32} {gu : Int32} {gh : Int32} {gk : Int32} {gl : Int32} {gn : Int32} {gt : Int32}  (Q : Int32 → (Nat → Int32) → (Nat → Int32) → (Nat → Int32) → Int32 → Prop) (h : F_X6_styled v1 v2 mw ml mo gm Q) : Met l yX6_styled wsX6_styled rmX6_styled (va_Pc [.ref (ad 0), .int v1, .int v2] (OKX D (tysX cA) (WM ad cA ms mb my mt mw ml mo gm gs ga gg gb gu gh gk gl gn gt) A)) (QC_X6_styled D A ad cA ms mb my mt gs ga gg gb gu gh gk gl gn gt Q) 0 0 A :=
  g_met (own := RX6) (by decide) rfl rfl (Nat.le_of_ble_eq_true rfl) (fun p e s m below meth c C hrt9 hlk _ => g_sub [0, 1, 2] rfl (t_B_X6_styled_0 C hrt9 hlk v1 v2 mw ml mo gm  h))
theorem k_X6_styled {ws : List Cond} {own : String} {cc : ByteArray} {nL pc index : Nat} {lv : List (Nat × Value)} {st : List Value} {Q : State → Prop} {R : Room} {K : Int32 → (Nat → Int32) → (Nat → Int32) → (Nat → Int32) → Int32 → Prop} {v1 : Int32} {v2 : Int32} (C : CxX p s m args c D (tysX cA) own cc nL ws) (hT : GoodIn ws (wsV own index RX6 yX6_styled wsX6_styled)) (hR : rmX6_styled.frames + 1 ≤ R.frames ∧ 8 + (3 + 11) + rmX6_styled.locals ≤ R.locals) (hcat : (st.map fun v => v.category).sum ≤ 8) (hdg : decode cc pc = .ok (.invokevirtual index, 3))  (h : F_X6_styled v1 v2 mw ml mo gm K) (kk : ∀ (r : Int32) (mwq : (Nat → Int32)) (mlq : (Nat → Int32)) (moq : (Nat → Int32)) (gmq : Int32), K r mwq mlq moq gmq → GoX p l e R s m args below meth c D A nL 0 0 Q (pc + 3) lv (.int r :: st) (WM ad cA ms mb my mt mwq mlq moq gmq gs ga gg gb gu gh gk gl gn gt)) : GoX p l e R s m args below meth c D A nL 0 0 Q pc lv (.int v2 :: .int v1 :: .ref (ad 0) :: st) (WM ad cA ms mb my mt mw ml mo gm gs ga gg gb gu gh gk gl gn gt) :=
  g_callVi C (As := [.int v1, .int v2]) 2 (c_X6_styled l D A ad cA v1 v2  K h) hT rfl rfl rfl (by decide +kernel) hR 0 WMg0 rfl rfl rfl hcat hdg (fun r u hu => kk r u.1 u.2.1 u.2.2.1 u.2.2.2 hu)
/-! X6_isText -/
abbrev rmX6_isText : Room := { frames := 0, cells := 0, slots := 0, locals := 0 }
abbrev QC_X6_isText (D : va_G) (A : Nat → Prop) (ad : Nat → Nat) (cA : Nat → ClassId) (ms : (Nat → Int32)) (mb : (Nat → Int32)) (my : (Nat → Int32)) (mt : (Nat → Int32)) (mw : (Nat → Int32)) (ml : (Nat → Int32)) (mo : (Nat → Int32)) (gm : Int32) (gs : Int32) (ga : Int32) (gg : Int32) (gb : Int32) (gu : Int32) (gh : Int32) (gk : Int32) (gl : Int32) (gn : Int32) (gt : Int32) (Q : Int32 → Prop) : Array Value → State → Outcome → State → Prop := va_Qi (fun (r : Int32) (u : Unit) => Q r ) (fun u t => OKX D (tysX cA) ((fun u : Unit => WM ad cA ms mb my mt mw ml mo gm gs ga gg gb gu gh gk gl gn gt) u) A t) A
abbrev QP_X6_isText (D : va_G) (A : Nat → Prop) (ad : Nat → Nat) (cA : Nat → ClassId) (ms : (Nat → Int32)) (mb : (Nat → Int32)) (my : (Nat → Int32)) (mt : (Nat → Int32)) (mw : (Nat → Int32)) (ml : (Nat → Int32)) (mo : (Nat → Int32)) (gm : Int32) (gs : Int32) (ga : Int32) (gg : Int32) (gb : Int32) (gu : Int32) (gh : Int32) (gk : Int32) (gl : Int32) (gn : Int32) (gt : Int32) (Q : Int32 → Prop) (below : List Frame) (args : Array Value) (s : State) : State → Prop := MQ below (QC_X6_isText D A ad cA ms mb my mt mw ml mo gm gs ga gg gb gu gh gk gl gn gt Q) args s 0 0 A
def B_X6_isText_65  (Q : Int32 → Prop) (mt : (Nat → Int32)) (mw : (Nat → Int32)) (ml : (Nat → Int32)) (gn : Int32) (v2 : Int32)  : Prop := (isBo v2 ∧ (Q v2))
def B_X6_isText_58 (kh21 : Int32 → Int32 → Int32 → Prop) (Q : Int32 → Prop) (mt : (Nat → Int32)) (mw : (Nat → Int32)) (ml : (Nat → Int32)) (gn : Int32) (v1 : Int32) (v3 : Int32) (s0 : Int32)  : Prop := (kh21 v1 s0 (v3 + (1 : Int32)))
noncomputable def L_X6_isText_21  (Q : Int32 → Prop) (mt : (Nat → Int32)) (mw : (Nat → Int32)) (ml : (Nat → Int32)) (gn : Int32) (n9 : Nat) : Int32 → Int32 → Int32 → Prop := Nat.rec (motive := fun _ => Int32 → Int32 → Int32 → Prop) (fun _ _ _ => False) (fun _ kh21 => fun v1 v2 v3 => ((gn ≤ v3 → (B_X6_isText_65  Q mt mw ml gn v2)) ∧ (¬ gn ≤ v3 → ((v2 = 0 → (B_X6_isText_65  Q mt mw ml gn v2)) ∧ (¬ v2 = 0 → (vp_in (((10 : Int32) * v1) + v3) 160 ∧ (vp_in v3 20 ∧ (((mw (((10 : Int32) * v1) + v3).toNatClampNeg) = (mt v3.toNatClampNeg) → (B_X6_isText_58 kh21 Q mt mw ml gn v1 v3 (1 : Int32))) ∧ (¬ (mw (((10 : Int32) * v1) + v3).toNatClampNeg) = (mt v3.toNatClampNeg) → (B_X6_isText_58 kh21 Q mt mw ml gn v1 v3 (0 : Int32))))))))))) n9
def B_X6_isText_18  (Q : Int32 → Prop) (mt : (Nat → Int32)) (mw : (Nat → Int32)) (ml : (Nat → Int32)) (gn : Int32) (v1 : Int32) (s0 : Int32)  : Prop := (∃ n9 : Nat, L_X6_isText_21  Q mt mw ml gn n9 v1 s0 (0 : Int32))
def B_X6_isText_0  (Q : Int32 → Prop) (mt : (Nat → Int32)) (mw : (Nat → Int32)) (ml : (Nat → Int32)) (gn : Int32) (v1 : Int32)  : Prop := (vp_in v1 16 ∧ (((ml v1.toNatClampNeg) = gn → (B_X6_isText_18  Q mt mw ml gn v1 (1 : Int32))) ∧ (¬ (ml v1.toNatClampNeg) = gn → (B_X6_isText_18  Q mt mw ml gn v1 (0 : Int32)))))
def F_X6_isText (v1 : Int32) (mt : (Nat → Int32)) (mw : (Nat → Int32)) (ml : (Nat → Int32)) (gn : Int32)  (Q : Int32 → Prop) : Prop := B_X6_isText_0 Q mt mw ml gn v1 
theorem lkX6_isText_26 : Cond.fieldLink RX6 26 (TX6 5).1 (TX6 5).2.1 (TX6 5).2.2.1 ∈ wsX6_isText := by decide +kernel
theorem lkX6_isText_20 : Cond.fieldLink RX6 20 (TX6 3).1 (TX6 3).2.1 (TX6 3).2.2.1 ∈ wsX6_isText := by decide +kernel
theorem lkX6_isText_23 : Cond.fieldLink RX6 23 (TX6 4).1 (TX6 4).2.1 (TX6 4).2.2.1 ∈ wsX6_isText := by decide +kernel
theorem lkX6_isText_184 : Cond.fieldLink RX6 184 (TX6 16).1 (TX6 16).2.1 (TX6 16).2.2.1 ∈ wsX6_isText := by decide +kernel
theorem inX6_isText_6 : ∀ q ∈ u_ws RX6 TX6 18, q ∈ wsX6_isText := by decide +kernel
set_option maxHeartbeats 4000000 in
set_option maxRecDepth 100000 in
theorem t_B_X6_isText_65  {Q : Int32 → Prop} (C : CxX p s m args c D (tysX cA) RX6 cX6_isText 4 wsX6_isText) (hrt9 : meth.sig.returnType = (some .boolean)) (hlk : meth.locks = false) (v2 : Int32)   (h : B_X6_isText_65  Q mt mw ml gn v2) : GoX p l e rmX6_isText s m args below meth c D A 4 0 0 (QP_X6_isText D A ad cA ms mb my mt mw ml mo gm gs ga gg gb gu gh gk gl gn gt Q below args s) 65 [(2, .int v2)] [] (WM ad cA ms mb my mt mw ml mo gm gs ga gg gb gu gh gk gl gn gt) := by
  replace h : (isBo v2 ∧ (Q v2)) := h
  refine g_iload_n C 0 dX6_isText_65 rfl rfl ?_
  exact g_zret C hrt9 hlk h.1.n (u := ()) rfl h.2 dX6_isText_66
set_option maxHeartbeats 4000000 in
set_option maxRecDepth 100000 in
theorem t_B_X6_isText_58 {kh21 : Int32 → Int32 → Int32 → Prop} {Q : Int32 → Prop} (C : CxX p s m args c D (tysX cA) RX6 cX6_isText 4 wsX6_isText) (hrt9 : meth.sig.returnType = (some .boolean)) (hlk : meth.locks = false) (Hk21 : ∀ (v1q : Int32) (v2q : Int32) (v3q : Int32)  , kh21 v1q v2q v3q → GoX p l e rmX6_isText s m args below meth c D A 4 0 0 (QP_X6_isText D A ad cA ms mb my mt mw ml mo gm gs ga gg gb gu gh gk gl gn gt Q below args s) 21 [(0, .ref (ad 0)), (1, .int v1q), (2, .int v2q), (3, .int v3q)] [] (WM ad cA ms mb my mt mw ml mo gm gs ga gg gb gu gh gk gl gn gt)) (v1 : Int32) (v3 : Int32) (s0 : Int32)   (h : B_X6_isText_58 kh21 Q mt mw ml gn v1 v3 s0) : GoX p l e rmX6_isText s m args below meth c D A 4 0 0 (QP_X6_isText D A ad cA ms mb my mt mw ml mo gm gs ga gg gb gu gh gk gl gn gt Q below args s) 58 [(0, .ref (ad 0)), (1, .int v1), (3, .int v3)] [.int s0] (WM ad cA ms mb my mt mw ml mo gm gs ga gg gb gu gh gk gl gn gt) := by
  replace h : (kh21 v1 s0 (v3 + (1 : Int32))) := h
  refine g_istore_n C (lv2 := [(2, .int s0), (0, .ref (ad 0)), (1, .int v1), (3, .int v3)]) dX6_isText_58 rfl (by decide) rfl ?_
  refine g_iinc C (v := (v3 + (1 : Int32))) (lv2 := [(3, .int (v3 + (1 : Int32))), (2, .int s0), (0, .ref (ad 0)), (1, .int v1)]) 3 dX6_isText_59 rfl rfl (by decide) rfl ?_
  refine g_goto C 21 dX6_isText_62 (by decide) ?_
  exact g_sub [2, 3, 1, 0] rfl (Hk21 v1 s0 (v3 + (1 : Int32))  h)
set_option maxHeartbeats 4000000 in
set_option maxRecDepth 100000 in
theorem t_L_X6_isText_21  {Q : Int32 → Prop} (C : CxX p s m args c D (tysX cA) RX6 cX6_isText 4 wsX6_isText) (hrt9 : meth.sig.returnType = (some .boolean)) (hlk : meth.locks = false) (m9 : Nat) : ∀ (v1 : Int32) (v2 : Int32) (v3 : Int32)  , L_X6_isText_21  Q mt mw ml gn m9 v1 v2 v3 → GoX p l e rmX6_isText s m args below meth c D A 4 0 0 (QP_X6_isText D A ad cA ms mb my mt mw ml mo gm gs ga gg gb gu gh gk gl gn gt Q below args s) 21 [(0, .ref (ad 0)), (1, .int v1), (2, .int v2), (3, .int v3)] [] (WM ad cA ms mb my mt mw ml mo gm gs ga gg gb gu gh gk gl gn gt) := by
  induction m9 with
  | zero =>
    intro v1 v2 v3 h
    exact False.elim h
  | succ m9 Hk21 =>
    intro v1 v2 v3 h
    replace h : ((gn ≤ v3 → (B_X6_isText_65  Q mt mw ml gn v2)) ∧ (¬ gn ≤ v3 → ((v2 = 0 → (B_X6_isText_65  Q mt mw ml gn v2)) ∧ (¬ v2 = 0 → (vp_in (((10 : Int32) * v1) + v3) 160 ∧ (vp_in v3 20 ∧ (((mw (((10 : Int32) * v1) + v3).toNatClampNeg) = (mt v3.toNatClampNeg) → (B_X6_isText_58 (L_X6_isText_21  Q mt mw ml gn m9) Q mt mw ml gn v1 v3 (1 : Int32))) ∧ (¬ (mw (((10 : Int32) * v1) + v3).toNatClampNeg) = (mt v3.toNatClampNeg) → (B_X6_isText_58 (L_X6_isText_21  Q mt mw ml gn m9) Q mt mw ml gn v1 v3 (0 : Int32)))))))))) := h
    refine g_iload_n C 3 dX6_isText_21 rfl rfl ?_
    refine g_aload_n C 0 dX6_isText_22 rfl rfl ?_
    refine g_get C inX6_isText_6 0 WMg0 rfl 16 (by decide) lkX6_isText_184 rfl dX6_isText_23 ?_
    refine g_icmp_ge C 65 dX6_isText_26 (by decide) (fun c_1 => ?_) (fun c_1 => ?_)
    · replace h := h.1 c_1
      exact g_sub [2] rfl (t_B_X6_isText_65 C hrt9 hlk  v2  h)
    · replace h := h.2 c_1
      refine g_iload_n C 2 dX6_isText_29 rfl rfl ?_
      refine g_if_eq C 65 dX6_isText_30 (by decide) (fun c_2 => ?_) (fun c_2 => ?_)
      · replace h := h.1 c_2
        exact g_sub [2] rfl (t_B_X6_isText_65 C hrt9 hlk  v2  h)
      · replace h := h.2 c_2
        refine g_aload_n C 0 dX6_isText_33 rfl rfl ?_
        refine g_get C inX6_isText_6 0 WMg0 rfl 4 (by decide) lkX6_isText_23 rfl dX6_isText_34 ?_
        refine g_bipush C (10 : Int32) dX6_isText_37 (by decide) ?_
        refine g_iload_n C 1 dX6_isText_39 rfl rfl ?_
        refine g_imul C dX6_isText_40 ?_
        refine g_iload_n C 3 dX6_isText_41 rfl rfl ?_
        refine g_iadd C dX6_isText_42 ?_
        refine g_cald C 5 0 WMg5 rfl h.1 dX6_isText_43 ?_
        replace h := h.2
        refine g_aload_n C 0 dX6_isText_44 rfl rfl ?_
        refine g_get C inX6_isText_6 0 WMg0 rfl 3 (by decide) lkX6_isText_20 rfl dX6_isText_45 ?_
        refine g_iload_n C 3 dX6_isText_48 rfl rfl ?_
        refine g_cald C 4 0 WMg4 rfl h.1 dX6_isText_49 ?_
        replace h := h.2
        refine g_icmp_ne C 57 dX6_isText_50 (by decide) (fun c_3 => ?_) (fun c_3 => ?_)
        · replace h := h.2 c_3
          refine g_iconst C (0 : Int32) dX6_isText_57 (by decide) ?_
          exact g_sub [0, 1, 3] rfl (t_B_X6_isText_58 C hrt9 hlk Hk21 v1 v3 (0 : Int32)  h)
        · replace h := h.1 c_3
          refine g_iconst C (1 : Int32) dX6_isText_53 (by decide) ?_
          refine g_goto C 58 dX6_isText_54 (by decide) ?_
          exact g_sub [0, 1, 3] rfl (t_B_X6_isText_58 C hrt9 hlk Hk21 v1 v3 (1 : Int32)  h)
set_option maxHeartbeats 4000000 in
set_option maxRecDepth 100000 in
theorem t_B_X6_isText_18  {Q : Int32 → Prop} (C : CxX p s m args c D (tysX cA) RX6 cX6_isText 4 wsX6_isText) (hrt9 : meth.sig.returnType = (some .boolean)) (hlk : meth.locks = false) (v1 : Int32) (s0 : Int32)   (h : B_X6_isText_18  Q mt mw ml gn v1 s0) : GoX p l e rmX6_isText s m args below meth c D A 4 0 0 (QP_X6_isText D A ad cA ms mb my mt mw ml mo gm gs ga gg gb gu gh gk gl gn gt Q below args s) 18 [(0, .ref (ad 0)), (1, .int v1)] [.int s0] (WM ad cA ms mb my mt mw ml mo gm gs ga gg gb gu gh gk gl gn gt) := by
  replace h : (∃ n9 : Nat, L_X6_isText_21  Q mt mw ml gn n9 v1 s0 (0 : Int32)) := h
  refine g_istore_n C (lv2 := [(2, .int s0), (0, .ref (ad 0)), (1, .int v1)]) dX6_isText_18 rfl (by decide) rfl ?_
  refine g_iconst C (0 : Int32) dX6_isText_19 (by decide) ?_
  refine g_istore_n C (lv2 := [(3, .int (0 : Int32)), (2, .int s0), (0, .ref (ad 0)), (1, .int v1)]) dX6_isText_20 rfl (by decide) rfl ?_
  obtain ⟨n9, h⟩ := h
  exact g_sub [2, 3, 1, 0] rfl (t_L_X6_isText_21 C hrt9 hlk  n9 v1 s0 (0 : Int32)  h)
set_option maxHeartbeats 4000000 in
set_option maxRecDepth 100000 in
theorem t_B_X6_isText_0  {Q : Int32 → Prop} (C : CxX p s m args c D (tysX cA) RX6 cX6_isText 4 wsX6_isText) (hrt9 : meth.sig.returnType = (some .boolean)) (hlk : meth.locks = false) (v1 : Int32)   (h : B_X6_isText_0  Q mt mw ml gn v1) : GoX p l e rmX6_isText s m args below meth c D A 4 0 0 (QP_X6_isText D A ad cA ms mb my mt mw ml mo gm gs ga gg gb gu gh gk gl gn gt Q below args s) 0 [(0, .ref (ad 0)), (1, .int v1)] [] (WM ad cA ms mb my mt mw ml mo gm gs ga gg gb gu gh gk gl gn gt) := by
  replace h : (vp_in v1 16 ∧ (((ml v1.toNatClampNeg) = gn → (B_X6_isText_18  Q mt mw ml gn v1 (1 : Int32))) ∧ (¬ (ml v1.toNatClampNeg) = gn → (B_X6_isText_18  Q mt mw ml gn v1 (0 : Int32))))) := h
  refine g_aload_n C 0 dX6_isText_0 rfl rfl ?_
  refine g_get C inX6_isText_6 0 WMg0 rfl 5 (by decide) lkX6_isText_26 rfl dX6_isText_1 ?_
  refine g_iload_n C 1 dX6_isText_4 rfl rfl ?_
  refine g_iald C 6 1 WMg6 rfl h.1 dX6_isText_5 ?_
  replace h := h.2
  refine g_aload_n C 0 dX6_isText_6 rfl rfl ?_
  refine g_get C inX6_isText_6 0 WMg0 rfl 16 (by decide) lkX6_isText_184 rfl dX6_isText_7 ?_
  refine g_icmp_ne C 17 dX6_isText_10 (by decide) (fun c_4 => ?_) (fun c_4 => ?_)
  · replace h := h.2 c_4
    refine g_iconst C (0 : Int32) dX6_isText_17 (by decide) ?_
    exact g_sub [0, 1] rfl (t_B_X6_isText_18 C hrt9 hlk  v1 (0 : Int32)  h)
  · replace h := h.1 c_4
    refine g_iconst C (1 : Int32) dX6_isText_13 (by decide) ?_
    refine g_goto C 18 dX6_isText_14 (by decide) ?_
    exact g_sub [0, 1] rfl (t_B_X6_isText_18 C hrt9 hlk  v1 (1 : Int32)  h)
theorem c_X6_isText (l : Launch) (D : va_G) (A : Nat → Prop) (ad : Nat → Nat) (cA : Nat → ClassId) (v1 : Int32) {ms : (Nat → Int32)} {mb : (Nat → Int32)} {my : (Nat → Int32)} {mt : (Nat → Int32)} {mw : (Nat → Int32)} {ml : (Nat → Int32)} {mo : (Nat → Int32)} {gm : Int32} {gs : Int32} {ga : Int32} {gg : Int32} {gb : Int32} {gu : Int32} {gh : Int32} {gk : Int32} {gl : Int32} {gn : Int32} {gt : Int32}  (Q : Int32 → Prop) (h : F_X6_isText v1 mt mw ml gn Q) : Met l yX6_isText wsX6_isText rmX6_isText (va_Pc [.ref (ad 0), .int v1] (OKX D (tysX cA) (WM ad cA ms mb my mt mw ml mo gm gs ga gg gb gu gh gk gl gn gt) A)) (QC_X6_isText D A ad cA ms mb my mt mw ml mo gm gs ga gg gb gu gh gk gl gn gt Q) 0 0 A :=
  g_met (own := RX6) (by decide) rfl rfl (Nat.le_of_ble_eq_true rfl) (fun p e s m below meth c C hrt9 hlk _ => g_sub [0, 1] rfl (t_B_X6_isText_0 C hrt9 hlk v1   h))
theorem k_X6_isText {ws : List Cond} {own : String} {cc : ByteArray} {nL pc index : Nat} {lv : List (Nat × Value)} {st : List Value} {Q : State → Prop} {R : Room} {K : Int32 → Prop} {v1 : Int32} (C : CxX p s m args c D (tysX cA) own cc nL ws) (hT : GoodIn ws (wsV own index RX6 yX6_isText wsX6_isText)) (hR : rmX6_isText.frames + 1 ≤ R.frames ∧ 8 + (4 + 11) + rmX6_isText.locals ≤ R.locals) (hcat : (st.map fun v => v.category).sum ≤ 8) (hdg : decode cc pc = .ok (.invokevirtual index, 3))  (h : F_X6_isText v1 mt mw ml gn K) (kk : ∀ (r : Int32) , K r → GoX p l e R s m args below meth c D A nL 0 0 Q (pc + 3) lv (.int r :: st) (WM ad cA ms mb my mt mw ml mo gm gs ga gg gb gu gh gk gl gn gt)) : GoX p l e R s m args below meth c D A nL 0 0 Q pc lv (.int v1 :: .ref (ad 0) :: st) (WM ad cA ms mb my mt mw ml mo gm gs ga gg gb gu gh gk gl gn gt) :=
  g_callVi C (As := [.int v1]) 1 (c_X6_isText l D A ad cA v1  K h) hT rfl rfl rfl (by decide +kernel) hR 0 WMg0 rfl rfl rfl hcat hdg (fun r u hu => kk r  hu)
/-! X6_placeOfText -/
abbrev rmX6_placeOfText : Room := { frames := 10, cells := 0, slots := 0, locals := 210 }
abbrev QC_X6_placeOfText (D : va_G) (A : Nat → Prop) (ad : Nat → Nat) (cA : Nat → ClassId) (ms : (Nat → Int32)) (mb : (Nat → Int32)) (mt : (Nat → Int32)) (gn : Int32) (gt : Int32) (Q : Int32 → (Nat → Int32) → (Nat → Int32) → (Nat → Int32) → (Nat → Int32) → Int32 → Int32 → Int32 → Int32 → Int32 → Int32 → Int32 → Int32 → Int32 → Prop) : Array Value → State → Outcome → State → Prop := va_Qi (fun (r : Int32) (u : (Nat → Int32) × (Nat → Int32) × (Nat → Int32) × (Nat → Int32) × Int32 × Int32 × Int32 × Int32 × Int32 × Int32 × Int32 × Int32 × Int32) => Q r u.1 u.2.1 u.2.2.1 u.2.2.2.1 u.2.2.2.2.1 u.2.2.2.2.2.1 u.2.2.2.2.2.2.1 u.2.2.2.2.2.2.2.1 u.2.2.2.2.2.2.2.2.1 u.2.2.2.2.2.2.2.2.2.1 u.2.2.2.2.2.2.2.2.2.2.1 u.2.2.2.2.2.2.2.2.2.2.2.1 u.2.2.2.2.2.2.2.2.2.2.2.2) (fun u t => OKX D (tysX cA) ((fun u : (Nat → Int32) × (Nat → Int32) × (Nat → Int32) × (Nat → Int32) × Int32 × Int32 × Int32 × Int32 × Int32 × Int32 × Int32 × Int32 × Int32 => WM ad cA ms mb u.1 mt u.2.1 u.2.2.1 u.2.2.2.1 u.2.2.2.2.1 u.2.2.2.2.2.1 u.2.2.2.2.2.2.1 u.2.2.2.2.2.2.2.1 u.2.2.2.2.2.2.2.2.1 u.2.2.2.2.2.2.2.2.2.1 u.2.2.2.2.2.2.2.2.2.2.1 u.2.2.2.2.2.2.2.2.2.2.2.1 u.2.2.2.2.2.2.2.2.2.2.2.2 gn gt) u) A t) A
abbrev QP_X6_placeOfText (D : va_G) (A : Nat → Prop) (ad : Nat → Nat) (cA : Nat → ClassId) (ms : (Nat → Int32)) (mb : (Nat → Int32)) (mt : (Nat → Int32)) (gn : Int32) (gt : Int32) (Q : Int32 → (Nat → Int32) → (Nat → Int32) → (Nat → Int32) → (Nat → Int32) → Int32 → Int32 → Int32 → Int32 → Int32 → Int32 → Int32 → Int32 → Int32 → Prop) (below : List Frame) (args : Array Value) (s : State) : State → Prop := MQ below (QC_X6_placeOfText D A ad cA ms mb mt gn gt Q) args s 0 0 A
def B_X6_placeOfText_52 (kh26 : Int32 → Int32 → (Nat → Int32) → (Nat → Int32) → (Nat → Int32) → (Nat → Int32) → Int32 → Int32 → Int32 → Int32 → Int32 → Int32 → Int32 → Int32 → Int32 → Prop) (Q : Int32 → (Nat → Int32) → (Nat → Int32) → (Nat → Int32) → (Nat → Int32) → Int32 → Int32 → Int32 → Int32 → Int32 → Int32 → Int32 → Int32 → Int32 → Prop) (mt : (Nat → Int32)) (gn : Int32) (v2 : Int32) (s0 : Int32) (my : (Nat → Int32)) (mw : (Nat → Int32)) (ml : (Nat → Int32)) (mo : (Nat → Int32)) (gm : Int32) (gs : Int32) (ga : Int32) (gg : Int32) (gb : Int32) (gu : Int32) (gh : Int32) (gk : Int32) (gl : Int32) : Prop := (kh26 s0 (v2 + (1 : Int32)) my mw ml mo gm gs ga gg gb gu gh gk gl)
noncomputable def L_X6_placeOfText_26  (Q : Int32 → (Nat → Int32) → (Nat → Int32) → (Nat → Int32) → (Nat → Int32) → Int32 → Int32 → Int32 → Int32 → Int32 → Int32 → Int32 → Int32 → Int32 → Prop) (mt : (Nat → Int32)) (gn : Int32) (n9 : Nat) : Int32 → Int32 → (Nat → Int32) → (Nat → Int32) → (Nat → Int32) → (Nat → Int32) → Int32 → Int32 → Int32 → Int32 → Int32 → Int32 → Int32 → Int32 → Int32 → Prop := Nat.rec (motive := fun _ => Int32 → Int32 → (Nat → Int32) → (Nat → Int32) → (Nat → Int32) → (Nat → Int32) → Int32 → Int32 → Int32 → Int32 → Int32 → Int32 → Int32 → Int32 → Int32 → Prop) (fun _ _ _ _ _ _ _ _ _ _ _ _ _ _ _ => False) (fun _ kh26 => fun v1 v2 my mw ml mo gm gs ga gg gb gu gh gk gl => ((gm ≤ v2 → (Q v1 my mw ml mo gm gs ga gg gb gu gh gk gl)) ∧ (¬ gm ≤ v2 → (vp_in v2 16 ∧ (F_X6_isText (mo v2.toNatClampNeg) mt mw ml gn (fun r_2 => ((r_2 = 0 → (B_X6_placeOfText_52 kh26 Q mt gn v2 v1 my mw ml mo gm gs ga gg gb gu gh gk gl)) ∧ (¬ r_2 = 0 → (B_X6_placeOfText_52 kh26 Q mt gn v2 v2 my mw ml mo gm gs ga gg gb gu gh gk gl))))))))) n9
def B_X6_placeOfText_0  (Q : Int32 → (Nat → Int32) → (Nat → Int32) → (Nat → Int32) → (Nat → Int32) → Int32 → Int32 → Int32 → Int32 → Int32 → Int32 → Int32 → Int32 → Int32 → Prop) (mt : (Nat → Int32)) (gn : Int32)  (my : (Nat → Int32)) (mw : (Nat → Int32)) (ml : (Nat → Int32)) (mo : (Nat → Int32)) (gm : Int32) (gs : Int32) (ga : Int32) (gg : Int32) (gb : Int32) (gu : Int32) (gh : Int32) (gk : Int32) (gl : Int32) : Prop := (F_X6_textFault mt gn my gs ga gg gb gu gh gk gl (fun r_4 my_5 gs_6 ga_7 gg_8 gb_9 gu_10 gh_11 gk_12 gl_13 => ((r_4 < 0 → (F_X6_meaningBy (1 : Int32) (1 : Int32) (1 : Int32) gg_8 gb_9 gu_10 gh_11 gk_12 gl_13 (fun r_15 => (F_X6_makes r_15 mw ml mo gm (fun mw_16 ml_17 mo_18 gm_19 => (∃ n9 : Nat, L_X6_placeOfText_26  Q mt gn n9 (-5 : Int32) (0 : Int32) my_5 mw_16 ml_17 mo_18 gm_19 gs_6 ga_7 gg_8 gb_9 gu_10 gh_11 gk_12 gl_13)))))) ∧ (¬ r_4 < 0 → (Q (-3 : Int32) my_5 mw ml mo gm gs_6 ga_7 gg_8 gb_9 gu_10 gh_11 gk_12 gl_13)))))
def F_X6_placeOfText  (mt : (Nat → Int32)) (gn : Int32) (my : (Nat → Int32)) (mw : (Nat → Int32)) (ml : (Nat → Int32)) (mo : (Nat → Int32)) (gm : Int32) (gs : Int32) (ga : Int32) (gg : Int32) (gb : Int32) (gu : Int32) (gh : Int32) (gk : Int32) (gl : Int32) (Q : Int32 → (Nat → Int32) → (Nat → Int32) → (Nat → Int32) → (Nat → Int32) → Int32 → Int32 → Int32 → Int32 → Int32 → Int32 → Int32 → Int32 → Int32 → Prop) : Prop := B_X6_placeOfText_0 Q mt gn  my mw ml mo gm gs ga gg gb gu gh gk gl
theorem lkX6_placeOfText_29 : Cond.fieldLink RX6 29 (TX6 6).1 (TX6 6).2.1 (TX6 6).2.2.1 ∈ wsX6_placeOfText := by decide +kernel
theorem lkX6_placeOfText_107 : Cond.fieldLink RX6 107 (TX6 7).1 (TX6 7).2.1 (TX6 7).2.2.1 ∈ wsX6_placeOfText := by decide +kernel
theorem inX6_placeOfText_6 : ∀ q ∈ u_ws RX6 TX6 18, q ∈ wsX6_placeOfText := by decide +kernel
set_option maxHeartbeats 4000000 in
set_option maxRecDepth 100000 in
theorem t_B_X6_placeOfText_52 {kh26 : Int32 → Int32 → (Nat → Int32) → (Nat → Int32) → (Nat → Int32) → (Nat → Int32) → Int32 → Int32 → Int32 → Int32 → Int32 → Int32 → Int32 → Int32 → Int32 → Prop} {Q : Int32 → (Nat → Int32) → (Nat → Int32) → (Nat → Int32) → (Nat → Int32) → Int32 → Int32 → Int32 → Int32 → Int32 → Int32 → Int32 → Int32 → Int32 → Prop} (C : CxX p s m args c D (tysX cA) RX6 cX6_placeOfText 3 wsX6_placeOfText) (hrt9 : meth.sig.returnType = (some .int)) (hlk : meth.locks = false) (Hk26 : ∀ (v1q : Int32) (v2q : Int32) (myq : (Nat → Int32)) (mwq : (Nat → Int32)) (mlq : (Nat → Int32)) (moq : (Nat → Int32)) (gmq : Int32) (gsq : Int32) (gaq : Int32) (ggq : Int32) (gbq : Int32) (guq : Int32) (ghq : Int32) (gkq : Int32) (glq : Int32) , kh26 v1q v2q myq mwq mlq moq gmq gsq gaq ggq gbq guq ghq gkq glq → GoX p l e rmX6_placeOfText s m args below meth c D A 3 0 0 (QP_X6_placeOfText D A ad cA ms mb mt gn gt Q below args s) 26 [(0, .ref (ad 0)), (1, .int v1q), (2, .int v2q)] [] (WM ad cA ms mb myq mt mwq mlq moq gmq gsq gaq ggq gbq guq ghq gkq glq gn gt)) (v2 : Int32) (s0 : Int32) (my : (Nat → Int32)) (mw : (Nat → Int32)) (ml : (Nat → Int32)) (mo : (Nat → Int32)) (gm : Int32) (gs : Int32) (ga : Int32) (gg : Int32) (gb : Int32) (gu : Int32) (gh : Int32) (gk : Int32) (gl : Int32)  (h : B_X6_placeOfText_52 kh26 Q mt gn v2 s0 my mw ml mo gm gs ga gg gb gu gh gk gl) : GoX p l e rmX6_placeOfText s m args below meth c D A 3 0 0 (QP_X6_placeOfText D A ad cA ms mb mt gn gt Q below args s) 52 [(0, .ref (ad 0)), (2, .int v2)] [.int s0] (WM ad cA ms mb my mt mw ml mo gm gs ga gg gb gu gh gk gl gn gt) := by
  replace h : (kh26 s0 (v2 + (1 : Int32)) my mw ml mo gm gs ga gg gb gu gh gk gl) := h
  refine g_istore_n C (lv2 := [(1, .int s0), (0, .ref (ad 0)), (2, .int v2)]) dX6_placeOfText_52 rfl (by decide) rfl ?_
  refine g_iinc C (v := (v2 + (1 : Int32))) (lv2 := [(2, .int (v2 + (1 : Int32))), (1, .int s0), (0, .ref (ad 0))]) 2 dX6_placeOfText_53 rfl rfl (by decide) rfl ?_
  refine g_goto C 26 dX6_placeOfText_56 (by decide) ?_
  exact g_sub [2, 1, 0] rfl (Hk26 s0 (v2 + (1 : Int32)) my mw ml mo gm gs ga gg gb gu gh gk gl  h)
set_option maxHeartbeats 4000000 in
set_option maxRecDepth 100000 in
theorem t_L_X6_placeOfText_26  {Q : Int32 → (Nat → Int32) → (Nat → Int32) → (Nat → Int32) → (Nat → Int32) → Int32 → Int32 → Int32 → Int32 → Int32 → Int32 → Int32 → Int32 → Int32 → Prop} (C : CxX p s m args c D (tysX cA) RX6 cX6_placeOfText 3 wsX6_placeOfText) (hrt9 : meth.sig.returnType = (some .int)) (hlk : meth.locks = false) (m9 : Nat) : ∀ (v1 : Int32) (v2 : Int32) (my : (Nat → Int32)) (mw : (Nat → Int32)) (ml : (Nat → Int32)) (mo : (Nat → Int32)) (gm : Int32) (gs : Int32) (ga : Int32) (gg : Int32) (gb : Int32) (gu : Int32) (gh : Int32) (gk : Int32) (gl : Int32) , L_X6_placeOfText_26  Q mt gn m9 v1 v2 my mw ml mo gm gs ga gg gb gu gh gk gl → GoX p l e rmX6_placeOfText s m args below meth c D A 3 0 0 (QP_X6_placeOfText D A ad cA ms mb mt gn gt Q below args s) 26 [(0, .ref (ad 0)), (1, .int v1), (2, .int v2)] [] (WM ad cA ms mb my mt mw ml mo gm gs ga gg gb gu gh gk gl gn gt) := by
  induction m9 with
  | zero =>
    intro v1 v2 my mw ml mo gm gs ga gg gb gu gh gk gl h
    exact False.elim h
  | succ m9 Hk26 =>
    intro v1 v2 my mw ml mo gm gs ga gg gb gu gh gk gl h
    replace h : ((gm ≤ v2 → (Q v1 my mw ml mo gm gs ga gg gb gu gh gk gl)) ∧ (¬ gm ≤ v2 → (vp_in v2 16 ∧ (F_X6_isText (mo v2.toNatClampNeg) mt mw ml gn (fun r_2 => ((r_2 = 0 → (B_X6_placeOfText_52 (L_X6_placeOfText_26  Q mt gn m9) Q mt gn v2 v1 my mw ml mo gm gs ga gg gb gu gh gk gl)) ∧ (¬ r_2 = 0 → (B_X6_placeOfText_52 (L_X6_placeOfText_26  Q mt gn m9) Q mt gn v2 v2 my mw ml mo gm gs ga gg gb gu gh gk gl)))))))) := h
    refine g_iload_n C 2 dX6_placeOfText_26 rfl rfl ?_
    refine g_aload_n C 0 dX6_placeOfText_27 rfl rfl ?_
    refine g_get C inX6_placeOfText_6 0 WMg0 rfl 7 (by decide) lkX6_placeOfText_107 rfl dX6_placeOfText_28 ?_
    refine g_icmp_ge C 59 dX6_placeOfText_31 (by decide) (fun c_1 => ?_) (fun c_1 => ?_)
    · replace h := h.1 c_1
      refine g_iload_n C 1 dX6_placeOfText_59 rfl rfl ?_
      exact g_iret C hrt9 hlk (u := (my, mw, ml, mo, gm, gs, ga, gg, gb, gu, gh, gk, gl)) rfl h dX6_placeOfText_60
    · replace h := h.2 c_1
      refine g_aload_n C 0 dX6_placeOfText_34 rfl rfl ?_
      refine g_aload_n C 0 dX6_placeOfText_35 rfl rfl ?_
      refine g_get C inX6_placeOfText_6 0 WMg0 rfl 6 (by decide) lkX6_placeOfText_29 rfl dX6_placeOfText_36 ?_
      refine g_iload_n C 2 dX6_placeOfText_39 rfl rfl ?_
      refine g_iald C 7 1 WMg7 rfl h.1 dX6_placeOfText_40 ?_
      replace h := h.2
      refine k_X6_isText C gX6_placeOfText_X6_isText ⟨Nat.le_of_ble_eq_true rfl, Nat.le_of_ble_eq_true rfl⟩ (Nat.le_of_ble_eq_true rfl) dX6_placeOfText_41  h (fun r_2 h => ?_)
      refine g_if_eq C 51 dX6_placeOfText_44 (by decide) (fun c_3 => ?_) (fun c_3 => ?_)
      · replace h := h.1 c_3
        refine g_iload_n C 1 dX6_placeOfText_51 rfl rfl ?_
        exact g_sub [0, 2] rfl (t_B_X6_placeOfText_52 C hrt9 hlk Hk26 v2 v1 my mw ml mo gm gs ga gg gb gu gh gk gl  h)
      · replace h := h.2 c_3
        refine g_iload_n C 2 dX6_placeOfText_47 rfl rfl ?_
        refine g_goto C 52 dX6_placeOfText_48 (by decide) ?_
        exact g_sub [0, 2] rfl (t_B_X6_placeOfText_52 C hrt9 hlk Hk26 v2 v2 my mw ml mo gm gs ga gg gb gu gh gk gl  h)
set_option maxHeartbeats 4000000 in
set_option maxRecDepth 100000 in
theorem t_B_X6_placeOfText_0  {Q : Int32 → (Nat → Int32) → (Nat → Int32) → (Nat → Int32) → (Nat → Int32) → Int32 → Int32 → Int32 → Int32 → Int32 → Int32 → Int32 → Int32 → Int32 → Prop} (C : CxX p s m args c D (tysX cA) RX6 cX6_placeOfText 3 wsX6_placeOfText) (hrt9 : meth.sig.returnType = (some .int)) (hlk : meth.locks = false)  (my : (Nat → Int32)) (mw : (Nat → Int32)) (ml : (Nat → Int32)) (mo : (Nat → Int32)) (gm : Int32) (gs : Int32) (ga : Int32) (gg : Int32) (gb : Int32) (gu : Int32) (gh : Int32) (gk : Int32) (gl : Int32)  (h : B_X6_placeOfText_0  Q mt gn my mw ml mo gm gs ga gg gb gu gh gk gl) : GoX p l e rmX6_placeOfText s m args below meth c D A 3 0 0 (QP_X6_placeOfText D A ad cA ms mb mt gn gt Q below args s) 0 [(0, .ref (ad 0))] [] (WM ad cA ms mb my mt mw ml mo gm gs ga gg gb gu gh gk gl gn gt) := by
  replace h : (F_X6_textFault mt gn my gs ga gg gb gu gh gk gl (fun r_4 my_5 gs_6 ga_7 gg_8 gb_9 gu_10 gh_11 gk_12 gl_13 => ((r_4 < 0 → (F_X6_meaningBy (1 : Int32) (1 : Int32) (1 : Int32) gg_8 gb_9 gu_10 gh_11 gk_12 gl_13 (fun r_15 => (F_X6_makes r_15 mw ml mo gm (fun mw_16 ml_17 mo_18 gm_19 => (∃ n9 : Nat, L_X6_placeOfText_26  Q mt gn n9 (-5 : Int32) (0 : Int32) my_5 mw_16 ml_17 mo_18 gm_19 gs_6 ga_7 gg_8 gb_9 gu_10 gh_11 gk_12 gl_13)))))) ∧ (¬ r_4 < 0 → (Q (-3 : Int32) my_5 mw ml mo gm gs_6 ga_7 gg_8 gb_9 gu_10 gh_11 gk_12 gl_13))))) := h
  refine g_aload_n C 0 dX6_placeOfText_0 rfl rfl ?_
  refine k_X6_textFault C gX6_placeOfText_X6_textFault ⟨Nat.le_of_ble_eq_true rfl, Nat.le_of_ble_eq_true rfl⟩ (Nat.le_of_ble_eq_true rfl) dX6_placeOfText_1  h (fun r_4 my_5 gs_6 ga_7 gg_8 gb_9 gu_10 gh_11 gk_12 gl_13 h => ?_)
  refine g_if_lt C 10 dX6_placeOfText_4 (by decide) (fun c_14 => ?_) (fun c_14 => ?_)
  · replace h := h.1 c_14
    refine g_aload_n C 0 dX6_placeOfText_10 rfl rfl ?_
    refine g_aload_n C 0 dX6_placeOfText_11 rfl rfl ?_
    refine g_iconst C (1 : Int32) dX6_placeOfText_12 (by decide) ?_
    refine g_iconst C (1 : Int32) dX6_placeOfText_13 (by decide) ?_
    refine g_iconst C (1 : Int32) dX6_placeOfText_14 (by decide) ?_
    refine k_X6_meaningBy C gX6_placeOfText_X6_meaningBy ⟨Nat.le_of_ble_eq_true rfl, Nat.le_of_ble_eq_true rfl⟩ (Nat.le_of_ble_eq_true rfl) dX6_placeOfText_15  h (fun r_15 h => ?_)
    refine k_X6_makes C gX6_placeOfText_X6_makes ⟨Nat.le_of_ble_eq_true rfl, Nat.le_of_ble_eq_true rfl⟩ (Nat.le_of_ble_eq_true rfl) dX6_placeOfText_18  h (fun mw_16 ml_17 mo_18 gm_19 h => ?_)
    refine g_bipush C (-5 : Int32) dX6_placeOfText_21 (by decide) ?_
    refine g_istore_n C (lv2 := [(1, .int (-5 : Int32)), (0, .ref (ad 0))]) dX6_placeOfText_23 rfl (by decide) rfl ?_
    refine g_iconst C (0 : Int32) dX6_placeOfText_24 (by decide) ?_
    refine g_istore_n C (lv2 := [(2, .int (0 : Int32)), (1, .int (-5 : Int32)), (0, .ref (ad 0))]) dX6_placeOfText_25 rfl (by decide) rfl ?_
    obtain ⟨n9, h⟩ := h
    exact g_sub [2, 1, 0] rfl (t_L_X6_placeOfText_26 C hrt9 hlk  n9 (-5 : Int32) (0 : Int32) my_5 mw_16 ml_17 mo_18 gm_19 gs_6 ga_7 gg_8 gb_9 gu_10 gh_11 gk_12 gl_13  h)
  · replace h := h.2 c_14
    refine g_bipush C (-3 : Int32) dX6_placeOfText_7 (by decide) ?_
    exact g_iret C hrt9 hlk (u := (my_5, mw, ml, mo, gm, gs_6, ga_7, gg_8, gb_9, gu_10, gh_11, gk_12, gl_13)) rfl h dX6_placeOfText_9
theorem c_X6_placeOfText (l : Launch) (D : va_G) (A : Nat → Prop) (ad : Nat → Nat) (cA : Nat → ClassId)  {ms : (Nat → Int32)} {mb : (Nat → Int32)} {my : (Nat → Int32)} {mt : (Nat → Int32)} {mw : (Nat → Int32)} {ml : (Nat → Int32)} {mo : (Nat → Int32)} {gm : Int32} {gs : Int32} {ga : Int32} {gg : Int32} {gb : Int32} {gu : Int32} {gh : Int32} {gk : Int32} {gl : Int32} {gn : Int32} {gt : Int32}  (Q : Int32 → (Nat → Int32) → (Nat → Int32) → (Nat → Int32) → (Nat → Int32) → Int32 → Int32 → Int32 → Int32 → Int32 → Int32 → Int32 → Int32 → Int32 → Prop) (h : F_X6_placeOfText mt gn my mw ml mo gm gs ga gg gb gu gh gk gl Q) : Met l yX6_placeOfText wsX6_placeOfText rmX6_placeOfText (va_Pc [.ref (ad 0)] (OKX D (tysX cA) (WM ad cA ms mb my mt mw ml mo gm gs ga gg gb gu gh gk gl gn gt) A)) (QC_X6_placeOfText D A ad cA ms mb mt gn gt Q) 0 0 A :=
  g_met (own := RX6) (by decide) rfl rfl (Nat.le_of_ble_eq_true rfl) (fun p e s m below meth c C hrt9 hlk _ => g_sub [0] rfl (t_B_X6_placeOfText_0 C hrt9 hlk  my mw ml mo gm gs ga gg gb gu gh gk gl  h))
theorem k_X6_placeOfText {ws : List Cond} {own : String} {cc : ByteArray} {nL pc index : Nat} {lv : List (Nat × Value)} {st : List Value} {Q : State → Prop} {R : Room} {K : Int32 → (Nat → Int32) → (Nat → Int32) → (Nat → Int32) → (Nat → Int32) → Int32 → Int32 → Int32 → Int32 → Int32 → Int32 → Int32 → Int32 → Int32 → Prop}  (C : CxX p s m args c D (tysX cA) own cc nL ws) (hT : GoodIn ws (wsV own index RX6 yX6_placeOfText wsX6_placeOfText)) (hR : rmX6_placeOfText.frames + 1 ≤ R.frames ∧ 8 + (3 + 11) + rmX6_placeOfText.locals ≤ R.locals) (hcat : (st.map fun v => v.category).sum ≤ 8) (hdg : decode cc pc = .ok (.invokevirtual index, 3))  (h : F_X6_placeOfText mt gn my mw ml mo gm gs ga gg gb gu gh gk gl K) (kk : ∀ (r : Int32) (myq : (Nat → Int32)) (mwq : (Nat → Int32)) (mlq : (Nat → Int32)) (moq : (Nat → Int32)) (gmq : Int32) (gsq : Int32) (gaq : Int32) (ggq : Int32) (gbq : Int32) (guq : Int32) (ghq : Int32) (gkq : Int32) (glq : Int32), K r myq mwq mlq moq gmq gsq gaq ggq gbq guq ghq gkq glq → GoX p l e R s m args below meth c D A nL 0 0 Q (pc + 3) lv (.int r :: st) (WM ad cA ms mb myq mt mwq mlq moq gmq gsq gaq ggq gbq guq ghq gkq glq gn gt)) : GoX p l e R s m args below meth c D A nL 0 0 Q pc lv (.ref (ad 0) :: st) (WM ad cA ms mb my mt mw ml mo gm gs ga gg gb gu gh gk gl gn gt) :=
  g_callVi C (As := []) 0 (c_X6_placeOfText l D A ad cA   K h) hT rfl rfl rfl (by decide +kernel) hR 0 WMg0 rfl rfl rfl hcat hdg (fun r u hu => kk r u.1 u.2.1 u.2.2.1 u.2.2.2.1 u.2.2.2.2.1 u.2.2.2.2.2.1 u.2.2.2.2.2.2.1 u.2.2.2.2.2.2.2.1 u.2.2.2.2.2.2.2.2.1 u.2.2.2.2.2.2.2.2.2.1 u.2.2.2.2.2.2.2.2.2.2.1 u.2.2.2.2.2.2.2.2.2.2.2.1 u.2.2.2.2.2.2.2.2.2.2.2.2 hu)
/-! X6_hearer -/
abbrev rmX6_hearer : Room := { frames := 2, cells := 0, slots := 0, locals := 42 }
abbrev QC_X6_hearer (D : va_G) (A : Nat → Prop) (ad : Nat → Nat) (cA : Nat → ClassId) (ms : (Nat → Int32)) (mb : (Nat → Int32)) (my : (Nat → Int32)) (mt : (Nat → Int32)) (mw : (Nat → Int32)) (ml : (Nat → Int32)) (mo : (Nat → Int32)) (gm : Int32) (gs : Int32) (ga : Int32) (gg : Int32) (gb : Int32) (gu : Int32) (gh : Int32) (gk : Int32) (gl : Int32) (gn : Int32) (gt : Int32) (Q : Int32 → Prop) : Array Value → State → Outcome → State → Prop := va_Qi (fun (r : Int32) (u : Unit) => Q r ) (fun u t => OKX D (tysX cA) ((fun u : Unit => WM ad cA ms mb my mt mw ml mo gm gs ga gg gb gu gh gk gl gn gt) u) A t) A
abbrev QP_X6_hearer (D : va_G) (A : Nat → Prop) (ad : Nat → Nat) (cA : Nat → ClassId) (ms : (Nat → Int32)) (mb : (Nat → Int32)) (my : (Nat → Int32)) (mt : (Nat → Int32)) (mw : (Nat → Int32)) (ml : (Nat → Int32)) (mo : (Nat → Int32)) (gm : Int32) (gs : Int32) (ga : Int32) (gg : Int32) (gb : Int32) (gu : Int32) (gh : Int32) (gk : Int32) (gl : Int32) (gn : Int32) (gt : Int32) (Q : Int32 → Prop) (below : List Frame) (args : Array Value) (s : State) : State → Prop := MQ below (QC_X6_hearer D A ad cA ms mb my mt mw ml mo gm gs ga gg gb gu gh gk gl gn gt Q) args s 0 0 A
def B_X6_hearer_37  (Q : Int32 → Prop) (ms : (Nat → Int32)) (s0 : Int32)  : Prop := (Q s0)
def B_X6_hearer_0  (Q : Int32 → Prop) (ms : (Nat → Int32)) (v1 : Int32) (v2 : Int32)  : Prop := (F_X6_isHearer v1 (fun r_1 => ((r_1 = 0 → (B_X6_hearer_37  Q ms (-1 : Int32))) ∧ (¬ r_1 = 0 → (F_X6_in v2 (0 : Int32) (8 : Int32) (fun r_3 => ((r_3 = 0 → (B_X6_hearer_37  Q ms (-2 : Int32))) ∧ (¬ r_3 = 0 → (vp_in (((9 : Int32) * v1) + v2) 106 ∧ (B_X6_hearer_37  Q ms (ms (((9 : Int32) * v1) + v2).toNatClampNeg)))))))))))
def F_X6_hearer (v1 : Int32) (v2 : Int32) (ms : (Nat → Int32))  (Q : Int32 → Prop) : Prop := B_X6_hearer_0 Q ms v1 v2 
theorem lkX6_hearer_7 : Cond.fieldLink RX6 7 (TX6 0).1 (TX6 0).2.1 (TX6 0).2.2.1 ∈ wsX6_hearer := by decide +kernel
theorem inX6_hearer_6 : ∀ q ∈ u_ws RX6 TX6 18, q ∈ wsX6_hearer := by decide +kernel
set_option maxHeartbeats 4000000 in
set_option maxRecDepth 100000 in
theorem t_B_X6_hearer_37  {Q : Int32 → Prop} (C : CxX p s m args c D (tysX cA) RX6 cX6_hearer 3 wsX6_hearer) (hrt9 : meth.sig.returnType = (some .int)) (hlk : meth.locks = false) (s0 : Int32)   (h : B_X6_hearer_37  Q ms s0) : GoX p l e rmX6_hearer s m args below meth c D A 3 0 0 (QP_X6_hearer D A ad cA ms mb my mt mw ml mo gm gs ga gg gb gu gh gk gl gn gt Q below args s) 37 [] [.int s0] (WM ad cA ms mb my mt mw ml mo gm gs ga gg gb gu gh gk gl gn gt) := by
  replace h : (Q s0) := h
  exact g_iret C hrt9 hlk (u := ()) rfl h dX6_hearer_37
set_option maxHeartbeats 4000000 in
set_option maxRecDepth 100000 in
theorem t_B_X6_hearer_0  {Q : Int32 → Prop} (C : CxX p s m args c D (tysX cA) RX6 cX6_hearer 3 wsX6_hearer) (hrt9 : meth.sig.returnType = (some .int)) (hlk : meth.locks = false) (v1 : Int32) (v2 : Int32)   (h : B_X6_hearer_0  Q ms v1 v2) : GoX p l e rmX6_hearer s m args below meth c D A 3 0 0 (QP_X6_hearer D A ad cA ms mb my mt mw ml mo gm gs ga gg gb gu gh gk gl gn gt Q below args s) 0 [(0, .ref (ad 0)), (1, .int v1), (2, .int v2)] [] (WM ad cA ms mb my mt mw ml mo gm gs ga gg gb gu gh gk gl gn gt) := by
  replace h : (F_X6_isHearer v1 (fun r_1 => ((r_1 = 0 → (B_X6_hearer_37  Q ms (-1 : Int32))) ∧ (¬ r_1 = 0 → (F_X6_in v2 (0 : Int32) (8 : Int32) (fun r_3 => ((r_3 = 0 → (B_X6_hearer_37  Q ms (-2 : Int32))) ∧ (¬ r_3 = 0 → (vp_in (((9 : Int32) * v1) + v2) 106 ∧ (B_X6_hearer_37  Q ms (ms (((9 : Int32) * v1) + v2).toNatClampNeg))))))))))) := h
  refine g_iload_n C 1 dX6_hearer_0 rfl rfl ?_
  refine k_X6_isHearer C gX6_hearer_X6_isHearer ⟨Nat.le_of_ble_eq_true rfl, Nat.le_of_ble_eq_true rfl⟩ (Nat.le_of_ble_eq_true rfl) dX6_hearer_1  h (fun r_1 h => ?_)
  refine g_if_ne C 11 dX6_hearer_4 (by decide) (fun c_2 => ?_) (fun c_2 => ?_)
  · replace h := h.2 c_2
    refine g_iload_n C 2 dX6_hearer_11 rfl rfl ?_
    refine g_iconst C (0 : Int32) dX6_hearer_12 (by decide) ?_
    refine g_bipush C (8 : Int32) dX6_hearer_13 (by decide) ?_
    refine k_X6_in C gX6_hearer_X6_in ⟨Nat.le_of_ble_eq_true rfl, Nat.le_of_ble_eq_true rfl⟩ (Nat.le_of_ble_eq_true rfl) dX6_hearer_15  h (fun r_3 h => ?_)
    refine g_if_eq C 35 dX6_hearer_18 (by decide) (fun c_4 => ?_) (fun c_4 => ?_)
    · replace h := h.1 c_4
      refine g_bipush C (-2 : Int32) dX6_hearer_35 (by decide) ?_
      exact g_sub [] rfl (t_B_X6_hearer_37 C hrt9 hlk  (-2 : Int32)  h)
    · replace h := h.2 c_4
      refine g_aload_n C 0 dX6_hearer_21 rfl rfl ?_
      refine g_get C inX6_hearer_6 0 WMg0 rfl 0 (by decide) lkX6_hearer_7 rfl dX6_hearer_22 ?_
      refine g_bipush C (9 : Int32) dX6_hearer_25 (by decide) ?_
      refine g_iload_n C 1 dX6_hearer_27 rfl rfl ?_
      refine g_imul C dX6_hearer_28 ?_
      refine g_iload_n C 2 dX6_hearer_29 rfl rfl ?_
      refine g_iadd C dX6_hearer_30 ?_
      refine g_iald C 1 1 WMg1 rfl h.1 dX6_hearer_31 ?_
      replace h := h.2
      refine g_goto C 37 dX6_hearer_32 (by decide) ?_
      exact g_sub [] rfl (t_B_X6_hearer_37 C hrt9 hlk  (ms (((9 : Int32) * v1) + v2).toNatClampNeg)  h)
  · replace h := h.1 c_2
    refine g_iconst C (-1 : Int32) dX6_hearer_7 (by decide) ?_
    refine g_goto C 37 dX6_hearer_8 (by decide) ?_
    exact g_sub [] rfl (t_B_X6_hearer_37 C hrt9 hlk  (-1 : Int32)  h)
theorem c_X6_hearer (l : Launch) (D : va_G) (A : Nat → Prop) (ad : Nat → Nat) (cA : Nat → ClassId) (v1 : Int32) (v2 : Int32) {ms : (Nat → Int32)} {mb : (Nat → Int32)} {my : (Nat → Int32)} {mt : (Nat → Int32)} {mw : (Nat → Int32)} {ml : (Nat → Int32)} {mo : (Nat → Int32)} {gm : Int32} {gs : Int32} {ga : Int32} {gg : Int32} {gb : Int32} {gu : Int32} {gh : Int32} {gk : Int32} {gl : Int32} {gn : Int32} {gt : Int32}  (Q : Int32 → Prop) (h : F_X6_hearer v1 v2 ms Q) : Met l yX6_hearer wsX6_hearer rmX6_hearer (va_Pc [.ref (ad 0), .int v1, .int v2] (OKX D (tysX cA) (WM ad cA ms mb my mt mw ml mo gm gs ga gg gb gu gh gk gl gn gt) A)) (QC_X6_hearer D A ad cA ms mb my mt mw ml mo gm gs ga gg gb gu gh gk gl gn gt Q) 0 0 A :=
  g_met (own := RX6) (by decide) rfl rfl (Nat.le_of_ble_eq_true rfl) (fun p e s m below meth c C hrt9 hlk _ => g_sub [0, 1, 2] rfl (t_B_X6_hearer_0 C hrt9 hlk v1 v2   h))
theorem k_X6_hearer {ws : List Cond} {own : String} {cc : ByteArray} {nL pc index : Nat} {lv : List (Nat × Value)} {st : List Value} {Q : State → Prop} {R : Room} {K : Int32 → Prop} {v1 : Int32} {v2 : Int32} (C : CxX p s m args c D (tysX cA) own cc nL ws) (hT : GoodIn ws (wsV own index RX6 yX6_hearer wsX6_hearer)) (hR : rmX6_hearer.frames + 1 ≤ R.frames ∧ 8 + (3 + 11) + rmX6_hearer.locals ≤ R.locals) (hcat : (st.map fun v => v.category).sum ≤ 8) (hdg : decode cc pc = .ok (.invokevirtual index, 3))  (h : F_X6_hearer v1 v2 ms K) (kk : ∀ (r : Int32) , K r → GoX p l e R s m args below meth c D A nL 0 0 Q (pc + 3) lv (.int r :: st) (WM ad cA ms mb my mt mw ml mo gm gs ga gg gb gu gh gk gl gn gt)) : GoX p l e R s m args below meth c D A nL 0 0 Q pc lv (.int v2 :: .int v1 :: .ref (ad 0) :: st) (WM ad cA ms mb my mt mw ml mo gm gs ga gg gb gu gh gk gl gn gt) :=
  g_callVi C (As := [.int v1, .int v2]) 2 (c_X6_hearer l D A ad cA v1 v2  K h) hT rfl rfl rfl (by decide +kernel) hR 0 WMg0 rfl rfl rfl hcat hdg (fun r u hu => kk r  hu)
/-! X6_understood -/
abbrev rmX6_understood : Room := { frames := 10, cells := 0, slots := 0, locals := 213 }
abbrev QC_X6_understood (D : va_G) (A : Nat → Prop) (ad : Nat → Nat) (cA : Nat → ClassId) (ms : (Nat → Int32)) (mb : (Nat → Int32)) (mt : (Nat → Int32)) (gn : Int32) (gt : Int32) (Q : Int32 → (Nat → Int32) → (Nat → Int32) → (Nat → Int32) → (Nat → Int32) → Int32 → Int32 → Int32 → Int32 → Int32 → Int32 → Int32 → Int32 → Int32 → Prop) : Array Value → State → Outcome → State → Prop := va_Qi (fun (r : Int32) (u : (Nat → Int32) × (Nat → Int32) × (Nat → Int32) × (Nat → Int32) × Int32 × Int32 × Int32 × Int32 × Int32 × Int32 × Int32 × Int32 × Int32) => Q r u.1 u.2.1 u.2.2.1 u.2.2.2.1 u.2.2.2.2.1 u.2.2.2.2.2.1 u.2.2.2.2.2.2.1 u.2.2.2.2.2.2.2.1 u.2.2.2.2.2.2.2.2.1 u.2.2.2.2.2.2.2.2.2.1 u.2.2.2.2.2.2.2.2.2.2.1 u.2.2.2.2.2.2.2.2.2.2.2.1 u.2.2.2.2.2.2.2.2.2.2.2.2) (fun u t => OKX D (tysX cA) ((fun u : (Nat → Int32) × (Nat → Int32) × (Nat → Int32) × (Nat → Int32) × Int32 × Int32 × Int32 × Int32 × Int32 × Int32 × Int32 × Int32 × Int32 => WM ad cA ms mb u.1 mt u.2.1 u.2.2.1 u.2.2.2.1 u.2.2.2.2.1 u.2.2.2.2.2.1 u.2.2.2.2.2.2.1 u.2.2.2.2.2.2.2.1 u.2.2.2.2.2.2.2.2.1 u.2.2.2.2.2.2.2.2.2.1 u.2.2.2.2.2.2.2.2.2.2.1 u.2.2.2.2.2.2.2.2.2.2.2.1 u.2.2.2.2.2.2.2.2.2.2.2.2 gn gt) u) A t) A
abbrev QP_X6_understood (D : va_G) (A : Nat → Prop) (ad : Nat → Nat) (cA : Nat → ClassId) (ms : (Nat → Int32)) (mb : (Nat → Int32)) (mt : (Nat → Int32)) (gn : Int32) (gt : Int32) (Q : Int32 → (Nat → Int32) → (Nat → Int32) → (Nat → Int32) → (Nat → Int32) → Int32 → Int32 → Int32 → Int32 → Int32 → Int32 → Int32 → Int32 → Int32 → Prop) (below : List Frame) (args : Array Value) (s : State) : State → Prop := MQ below (QC_X6_understood D A ad cA ms mb mt gn gt Q) args s 0 0 A
def B_X6_understood_20  (Q : Int32 → (Nat → Int32) → (Nat → Int32) → (Nat → Int32) → (Nat → Int32) → Int32 → Int32 → Int32 → Int32 → Int32 → Int32 → Int32 → Int32 → Int32 → Prop) (ms : (Nat → Int32))  (my : (Nat → Int32)) (mw : (Nat → Int32)) (ml : (Nat → Int32)) (mo : (Nat → Int32)) (gm : Int32) (gs : Int32) (ga : Int32) (gg : Int32) (gb : Int32) (gu : Int32) (gh : Int32) (gk : Int32) (gl : Int32) : Prop := (Q (-2 : Int32) my mw ml mo gm gs ga gg gb gu gh gk gl)
def B_X6_understood_63  (Q : Int32 → (Nat → Int32) → (Nat → Int32) → (Nat → Int32) → (Nat → Int32) → Int32 → Int32 → Int32 → Int32 → Int32 → Int32 → Int32 → Int32 → Int32 → Prop) (ms : (Nat → Int32)) (s0 : Int32) (my : (Nat → Int32)) (mw : (Nat → Int32)) (ml : (Nat → Int32)) (mo : (Nat → Int32)) (gm : Int32) (gs : Int32) (ga : Int32) (gg : Int32) (gb : Int32) (gu : Int32) (gh : Int32) (gk : Int32) (gl : Int32) : Prop := (Q s0 my mw ml mo gm gs ga gg gb gu gh gk gl)
def B_X6_understood_0  (Q : Int32 → (Nat → Int32) → (Nat → Int32) → (Nat → Int32) → (Nat → Int32) → Int32 → Int32 → Int32 → Int32 → Int32 → Int32 → Int32 → Int32 → Int32 → Prop) (ms : (Nat → Int32)) (v1 : Int32) (v2 : Int32) (v3 : Int32) (my : (Nat → Int32)) (mw : (Nat → Int32)) (ml : (Nat → Int32)) (mo : (Nat → Int32)) (gm : Int32) (gs : Int32) (ga : Int32) (gg : Int32) (gb : Int32) (gu : Int32) (gh : Int32) (gk : Int32) (gl : Int32) : Prop := (F_X6_isHearer v1 (fun r_1 => ((r_1 = 0 → (Q (-1 : Int32) my mw ml mo gm gs ga gg gb gu gh gk gl)) ∧ (¬ r_1 = 0 → (F_X6_isNumber v2 (fun r_3 => ((r_3 = 0 → (B_X6_understood_20  Q ms my mw ml mo gm gs ga gg gb gu gh gk gl)) ∧ (¬ r_3 = 0 → ((0 ≤ v3 → (F_X6_makes v2 mw ml mo gm (fun mw_6 ml_7 mo_8 gm_9 => ((v3 < gm_9 → (F_X6_says v3 mw_6 ml_7 mo_8 my (fun r_11 my_12 => (F_X6_understands v1 r_11 ms my_12 gs ga gg gb gu gh gk gl (fun r_13 gs_14 ga_15 gg_16 gb_17 gu_18 gh_19 gk_20 gl_21 => ((r_13 = 0 → (B_X6_understood_63  Q ms (-5 : Int32) my_12 mw_6 ml_7 mo_8 gm_9 gs_14 ga_15 gg_16 gb_17 gu_18 gh_19 gk_20 gl_21)) ∧ (¬ r_13 = 0 → (B_X6_understood_63  Q ms r_13 my_12 mw_6 ml_7 mo_8 gm_9 gs_14 ga_15 gg_16 gb_17 gu_18 gh_19 gk_20 gl_21)))))))) ∧ (¬ v3 < gm_9 → (Q (-5 : Int32) my mw_6 ml_7 mo_8 gm_9 gs ga gg gb gu gh gk gl)))))) ∧ (¬ 0 ≤ v3 → (B_X6_understood_20  Q ms my mw ml mo gm gs ga gg gb gu gh gk gl)))))))))))
def F_X6_understood (v1 : Int32) (v2 : Int32) (v3 : Int32) (ms : (Nat → Int32)) (my : (Nat → Int32)) (mw : (Nat → Int32)) (ml : (Nat → Int32)) (mo : (Nat → Int32)) (gm : Int32) (gs : Int32) (ga : Int32) (gg : Int32) (gb : Int32) (gu : Int32) (gh : Int32) (gk : Int32) (gl : Int32) (Q : Int32 → (Nat → Int32) → (Nat → Int32) → (Nat → Int32) → (Nat → Int32) → Int32 → Int32 → Int32 → Int32 → Int32 → Int32 → Int32 → Int32 → Int32 → Prop) : Prop := B_X6_understood_0 Q ms v1 v2 v3 my mw ml mo gm gs ga gg gb gu gh gk gl
theorem lkX6_understood_107 : Cond.fieldLink RX6 107 (TX6 7).1 (TX6 7).2.1 (TX6 7).2.2.1 ∈ wsX6_understood := by decide +kernel
theorem inX6_understood_6 : ∀ q ∈ u_ws RX6 TX6 18, q ∈ wsX6_understood := by decide +kernel
set_option maxHeartbeats 4000000 in
set_option maxRecDepth 100000 in
theorem t_B_X6_understood_20  {Q : Int32 → (Nat → Int32) → (Nat → Int32) → (Nat → Int32) → (Nat → Int32) → Int32 → Int32 → Int32 → Int32 → Int32 → Int32 → Int32 → Int32 → Int32 → Prop} (C : CxX p s m args c D (tysX cA) RX6 cX6_understood 5 wsX6_understood) (hrt9 : meth.sig.returnType = (some .int)) (hlk : meth.locks = false)  (my : (Nat → Int32)) (mw : (Nat → Int32)) (ml : (Nat → Int32)) (mo : (Nat → Int32)) (gm : Int32) (gs : Int32) (ga : Int32) (gg : Int32) (gb : Int32) (gu : Int32) (gh : Int32) (gk : Int32) (gl : Int32)  (h : B_X6_understood_20  Q ms my mw ml mo gm gs ga gg gb gu gh gk gl) : GoX p l e rmX6_understood s m args below meth c D A 5 0 0 (QP_X6_understood D A ad cA ms mb mt gn gt Q below args s) 20 [] [] (WM ad cA ms mb my mt mw ml mo gm gs ga gg gb gu gh gk gl gn gt) := by
  replace h : (Q (-2 : Int32) my mw ml mo gm gs ga gg gb gu gh gk gl) := h
  refine g_bipush C (-2 : Int32) dX6_understood_20 (by decide) ?_
  exact g_iret C hrt9 hlk (u := (my, mw, ml, mo, gm, gs, ga, gg, gb, gu, gh, gk, gl)) rfl h dX6_understood_22
set_option maxHeartbeats 4000000 in
set_option maxRecDepth 100000 in
theorem t_B_X6_understood_63  {Q : Int32 → (Nat → Int32) → (Nat → Int32) → (Nat → Int32) → (Nat → Int32) → Int32 → Int32 → Int32 → Int32 → Int32 → Int32 → Int32 → Int32 → Int32 → Prop} (C : CxX p s m args c D (tysX cA) RX6 cX6_understood 5 wsX6_understood) (hrt9 : meth.sig.returnType = (some .int)) (hlk : meth.locks = false) (s0 : Int32) (my : (Nat → Int32)) (mw : (Nat → Int32)) (ml : (Nat → Int32)) (mo : (Nat → Int32)) (gm : Int32) (gs : Int32) (ga : Int32) (gg : Int32) (gb : Int32) (gu : Int32) (gh : Int32) (gk : Int32) (gl : Int32)  (h : B_X6_understood_63  Q ms s0 my mw ml mo gm gs ga gg gb gu gh gk gl) : GoX p l e rmX6_understood s m args below meth c D A 5 0 0 (QP_X6_understood D A ad cA ms mb mt gn gt Q below args s) 63 [] [.int s0] (WM ad cA ms mb my mt mw ml mo gm gs ga gg gb gu gh gk gl gn gt) := by
  replace h : (Q s0 my mw ml mo gm gs ga gg gb gu gh gk gl) := h
  exact g_iret C hrt9 hlk (u := (my, mw, ml, mo, gm, gs, ga, gg, gb, gu, gh, gk, gl)) rfl h dX6_understood_63
set_option maxHeartbeats 4000000 in
set_option maxRecDepth 100000 in
theorem t_B_X6_understood_0  {Q : Int32 → (Nat → Int32) → (Nat → Int32) → (Nat → Int32) → (Nat → Int32) → Int32 → Int32 → Int32 → Int32 → Int32 → Int32 → Int32 → Int32 → Int32 → Prop} (C : CxX p s m args c D (tysX cA) RX6 cX6_understood 5 wsX6_understood) (hrt9 : meth.sig.returnType = (some .int)) (hlk : meth.locks = false) (v1 : Int32) (v2 : Int32) (v3 : Int32) (my : (Nat → Int32)) (mw : (Nat → Int32)) (ml : (Nat → Int32)) (mo : (Nat → Int32)) (gm : Int32) (gs : Int32) (ga : Int32) (gg : Int32) (gb : Int32) (gu : Int32) (gh : Int32) (gk : Int32) (gl : Int32)  (h : B_X6_understood_0  Q ms v1 v2 v3 my mw ml mo gm gs ga gg gb gu gh gk gl) : GoX p l e rmX6_understood s m args below meth c D A 5 0 0 (QP_X6_understood D A ad cA ms mb mt gn gt Q below args s) 0 [(0, .ref (ad 0)), (1, .int v1), (2, .int v2), (3, .int v3)] [] (WM ad cA ms mb my mt mw ml mo gm gs ga gg gb gu gh gk gl gn gt) := by
  replace h : (F_X6_isHearer v1 (fun r_1 => ((r_1 = 0 → (Q (-1 : Int32) my mw ml mo gm gs ga gg gb gu gh gk gl)) ∧ (¬ r_1 = 0 → (F_X6_isNumber v2 (fun r_3 => ((r_3 = 0 → (B_X6_understood_20  Q ms my mw ml mo gm gs ga gg gb gu gh gk gl)) ∧ (¬ r_3 = 0 → ((0 ≤ v3 → (F_X6_makes v2 mw ml mo gm (fun mw_6 ml_7 mo_8 gm_9 => ((v3 < gm_9 → (F_X6_says v3 mw_6 ml_7 mo_8 my (fun r_11 my_12 => (F_X6_understands v1 r_11 ms my_12 gs ga gg gb gu gh gk gl (fun r_13 gs_14 ga_15 gg_16 gb_17 gu_18 gh_19 gk_20 gl_21 => ((r_13 = 0 → (B_X6_understood_63  Q ms (-5 : Int32) my_12 mw_6 ml_7 mo_8 gm_9 gs_14 ga_15 gg_16 gb_17 gu_18 gh_19 gk_20 gl_21)) ∧ (¬ r_13 = 0 → (B_X6_understood_63  Q ms r_13 my_12 mw_6 ml_7 mo_8 gm_9 gs_14 ga_15 gg_16 gb_17 gu_18 gh_19 gk_20 gl_21)))))))) ∧ (¬ v3 < gm_9 → (Q (-5 : Int32) my mw_6 ml_7 mo_8 gm_9 gs ga gg gb gu gh gk gl)))))) ∧ (¬ 0 ≤ v3 → (B_X6_understood_20  Q ms my mw ml mo gm gs ga gg gb gu gh gk gl))))))))))) := h
  refine g_iload_n C 1 dX6_understood_0 rfl rfl ?_
  refine k_X6_isHearer C gX6_understood_X6_isHearer ⟨Nat.le_of_ble_eq_true rfl, Nat.le_of_ble_eq_true rfl⟩ (Nat.le_of_ble_eq_true rfl) dX6_understood_1  h (fun r_1 h => ?_)
  refine g_if_ne C 9 dX6_understood_4 (by decide) (fun c_2 => ?_) (fun c_2 => ?_)
  · replace h := h.2 c_2
    refine g_iload_n C 2 dX6_understood_9 rfl rfl ?_
    refine k_X6_isNumber C gX6_understood_X6_isNumber ⟨Nat.le_of_ble_eq_true rfl, Nat.le_of_ble_eq_true rfl⟩ (Nat.le_of_ble_eq_true rfl) dX6_understood_10  h (fun r_3 h => ?_)
    refine g_if_eq C 20 dX6_understood_13 (by decide) (fun c_4 => ?_) (fun c_4 => ?_)
    · replace h := h.1 c_4
      exact g_sub [] rfl (t_B_X6_understood_20 C hrt9 hlk  my mw ml mo gm gs ga gg gb gu gh gk gl  h)
    · replace h := h.2 c_4
      refine g_iload_n C 3 dX6_understood_16 rfl rfl ?_
      refine g_if_ge C 23 dX6_understood_17 (by decide) (fun c_5 => ?_) (fun c_5 => ?_)
      · replace h := h.1 c_5
        refine g_aload_n C 0 dX6_understood_23 rfl rfl ?_
        refine g_iload_n C 2 dX6_understood_24 rfl rfl ?_
        refine k_X6_makes C gX6_understood_X6_makes ⟨Nat.le_of_ble_eq_true rfl, Nat.le_of_ble_eq_true rfl⟩ (Nat.le_of_ble_eq_true rfl) dX6_understood_25  h (fun mw_6 ml_7 mo_8 gm_9 h => ?_)
        refine g_iload_n C 3 dX6_understood_28 rfl rfl ?_
        refine g_aload_n C 0 dX6_understood_29 rfl rfl ?_
        refine g_get C inX6_understood_6 0 WMg0 rfl 7 (by decide) lkX6_understood_107 rfl dX6_understood_30 ?_
        refine g_icmp_lt C 39 dX6_understood_33 (by decide) (fun c_10 => ?_) (fun c_10 => ?_)
        · replace h := h.1 c_10
          refine g_aload_n C 0 dX6_understood_39 rfl rfl ?_
          refine g_iload_n C 1 dX6_understood_40 rfl rfl ?_
          refine g_aload_n C 0 dX6_understood_41 rfl rfl ?_
          refine g_iload_n C 3 dX6_understood_42 rfl rfl ?_
          refine k_X6_says C gX6_understood_X6_says ⟨Nat.le_of_ble_eq_true rfl, Nat.le_of_ble_eq_true rfl⟩ (Nat.le_of_ble_eq_true rfl) dX6_understood_43  h (fun r_11 my_12 h => ?_)
          refine k_X6_understands C gX6_understood_X6_understands ⟨Nat.le_of_ble_eq_true rfl, Nat.le_of_ble_eq_true rfl⟩ (Nat.le_of_ble_eq_true rfl) dX6_understood_46  h (fun r_13 gs_14 ga_15 gg_16 gb_17 gu_18 gh_19 gk_20 gl_21 h => ?_)
          refine g_istore C (lv2 := [(4, .int r_13), (0, .ref (ad 0)), (1, .int v1), (2, .int v2), (3, .int v3)]) dX6_understood_49 (by decide) rfl ?_
          refine g_iload C 0 dX6_understood_51 rfl ?_
          refine g_if_ne C 61 dX6_understood_53 (by decide) (fun c_22 => ?_) (fun c_22 => ?_)
          · replace h := h.2 c_22
            refine g_iload C 0 dX6_understood_61 rfl ?_
            exact g_sub [] rfl (t_B_X6_understood_63 C hrt9 hlk  r_13 my_12 mw_6 ml_7 mo_8 gm_9 gs_14 ga_15 gg_16 gb_17 gu_18 gh_19 gk_20 gl_21  h)
          · replace h := h.1 c_22
            refine g_bipush C (-5 : Int32) dX6_understood_56 (by decide) ?_
            refine g_goto C 63 dX6_understood_58 (by decide) ?_
            exact g_sub [] rfl (t_B_X6_understood_63 C hrt9 hlk  (-5 : Int32) my_12 mw_6 ml_7 mo_8 gm_9 gs_14 ga_15 gg_16 gb_17 gu_18 gh_19 gk_20 gl_21  h)
        · replace h := h.2 c_10
          refine g_bipush C (-5 : Int32) dX6_understood_36 (by decide) ?_
          exact g_iret C hrt9 hlk (u := (my, mw_6, ml_7, mo_8, gm_9, gs, ga, gg, gb, gu, gh, gk, gl)) rfl h dX6_understood_38
      · replace h := h.2 c_5
        exact g_sub [] rfl (t_B_X6_understood_20 C hrt9 hlk  my mw ml mo gm gs ga gg gb gu gh gk gl  h)
  · replace h := h.1 c_2
    refine g_iconst C (-1 : Int32) dX6_understood_7 (by decide) ?_
    exact g_iret C hrt9 hlk (u := (my, mw, ml, mo, gm, gs, ga, gg, gb, gu, gh, gk, gl)) rfl h dX6_understood_8
theorem c_X6_understood (l : Launch) (D : va_G) (A : Nat → Prop) (ad : Nat → Nat) (cA : Nat → ClassId) (v1 : Int32) (v2 : Int32) (v3 : Int32) {ms : (Nat → Int32)} {mb : (Nat → Int32)} {my : (Nat → Int32)} {mt : (Nat → Int32)} {mw : (Nat → Int32)} {ml : (Nat → Int32)} {mo : (Nat → Int32)} {gm : Int32} {gs : Int32} {ga : Int32} {gg : Int32} {gb : Int32} {gu : Int32} {gh : Int32} {gk : Int32} {gl : Int32} {gn : Int32} {gt : Int32}  (Q : Int32 → (Nat → Int32) → (Nat → Int32) → (Nat → Int32) → (Nat → Int32) → Int32 → Int32 → Int32 → Int32 → Int32 → Int32 → Int32 → Int32 → Int32 → Prop) (h : F_X6_understood v1 v2 v3 ms my mw ml mo gm gs ga gg gb gu gh gk gl Q) : Met l yX6_understood wsX6_understood rmX6_understood (va_Pc [.ref (ad 0), .int v1, .int v2, .int v3] (OKX D (tysX cA) (WM ad cA ms mb my mt mw ml mo gm gs ga gg gb gu gh gk gl gn gt) A)) (QC_X6_understood D A ad cA ms mb mt gn gt Q) 0 0 A :=
  g_met (own := RX6) (by decide) rfl rfl (Nat.le_of_ble_eq_true rfl) (fun p e s m below meth c C hrt9 hlk _ => g_sub [0, 1, 2, 3] rfl (t_B_X6_understood_0 C hrt9 hlk v1 v2 v3 my mw ml mo gm gs ga gg gb gu gh gk gl  h))
theorem k_X6_understood {ws : List Cond} {own : String} {cc : ByteArray} {nL pc index : Nat} {lv : List (Nat × Value)} {st : List Value} {Q : State → Prop} {R : Room} {K : Int32 → (Nat → Int32) → (Nat → Int32) → (Nat → Int32) → (Nat → Int32) → Int32 → Int32 → Int32 → Int32 → Int32 → Int32 → Int32 → Int32 → Int32 → Prop} {v1 : Int32} {v2 : Int32} {v3 : Int32} (C : CxX p s m args c D (tysX cA) own cc nL ws) (hT : GoodIn ws (wsV own index RX6 yX6_understood wsX6_understood)) (hR : rmX6_understood.frames + 1 ≤ R.frames ∧ 8 + (5 + 11) + rmX6_understood.locals ≤ R.locals) (hcat : (st.map fun v => v.category).sum ≤ 8) (hdg : decode cc pc = .ok (.invokevirtual index, 3))  (h : F_X6_understood v1 v2 v3 ms my mw ml mo gm gs ga gg gb gu gh gk gl K) (kk : ∀ (r : Int32) (myq : (Nat → Int32)) (mwq : (Nat → Int32)) (mlq : (Nat → Int32)) (moq : (Nat → Int32)) (gmq : Int32) (gsq : Int32) (gaq : Int32) (ggq : Int32) (gbq : Int32) (guq : Int32) (ghq : Int32) (gkq : Int32) (glq : Int32), K r myq mwq mlq moq gmq gsq gaq ggq gbq guq ghq gkq glq → GoX p l e R s m args below meth c D A nL 0 0 Q (pc + 3) lv (.int r :: st) (WM ad cA ms mb myq mt mwq mlq moq gmq gsq gaq ggq gbq guq ghq gkq glq gn gt)) : GoX p l e R s m args below meth c D A nL 0 0 Q pc lv (.int v3 :: .int v2 :: .int v1 :: .ref (ad 0) :: st) (WM ad cA ms mb my mt mw ml mo gm gs ga gg gb gu gh gk gl gn gt) :=
  g_callVi C (As := [.int v1, .int v2, .int v3]) 3 (c_X6_understood l D A ad cA v1 v2 v3  K h) hT rfl rfl rfl (by decide +kernel) hR 0 WMg0 rfl rfl rfl hcat hdg (fun r u hu => kk r u.1 u.2.1 u.2.2.1 u.2.2.2.1 u.2.2.2.2.1 u.2.2.2.2.2.1 u.2.2.2.2.2.2.1 u.2.2.2.2.2.2.2.1 u.2.2.2.2.2.2.2.2.1 u.2.2.2.2.2.2.2.2.2.1 u.2.2.2.2.2.2.2.2.2.2.1 u.2.2.2.2.2.2.2.2.2.2.2.1 u.2.2.2.2.2.2.2.2.2.2.2.2 hu)
/-! X6_understoodText -/
abbrev rmX6_understoodText : Room := { frames := 10, cells := 0, slots := 0, locals := 213 }
abbrev QC_X6_understoodText (D : va_G) (A : Nat → Prop) (ad : Nat → Nat) (cA : Nat → ClassId) (ms : (Nat → Int32)) (mb : (Nat → Int32)) (mt : (Nat → Int32)) (mw : (Nat → Int32)) (ml : (Nat → Int32)) (mo : (Nat → Int32)) (gm : Int32) (gn : Int32) (gt : Int32) (Q : Int32 → (Nat → Int32) → Int32 → Int32 → Int32 → Int32 → Int32 → Int32 → Int32 → Int32 → Prop) : Array Value → State → Outcome → State → Prop := va_Qi (fun (r : Int32) (u : (Nat → Int32) × Int32 × Int32 × Int32 × Int32 × Int32 × Int32 × Int32 × Int32) => Q r u.1 u.2.1 u.2.2.1 u.2.2.2.1 u.2.2.2.2.1 u.2.2.2.2.2.1 u.2.2.2.2.2.2.1 u.2.2.2.2.2.2.2.1 u.2.2.2.2.2.2.2.2) (fun u t => OKX D (tysX cA) ((fun u : (Nat → Int32) × Int32 × Int32 × Int32 × Int32 × Int32 × Int32 × Int32 × Int32 => WM ad cA ms mb u.1 mt mw ml mo gm u.2.1 u.2.2.1 u.2.2.2.1 u.2.2.2.2.1 u.2.2.2.2.2.1 u.2.2.2.2.2.2.1 u.2.2.2.2.2.2.2.1 u.2.2.2.2.2.2.2.2 gn gt) u) A t) A
abbrev QP_X6_understoodText (D : va_G) (A : Nat → Prop) (ad : Nat → Nat) (cA : Nat → ClassId) (ms : (Nat → Int32)) (mb : (Nat → Int32)) (mt : (Nat → Int32)) (mw : (Nat → Int32)) (ml : (Nat → Int32)) (mo : (Nat → Int32)) (gm : Int32) (gn : Int32) (gt : Int32) (Q : Int32 → (Nat → Int32) → Int32 → Int32 → Int32 → Int32 → Int32 → Int32 → Int32 → Int32 → Prop) (below : List Frame) (args : Array Value) (s : State) : State → Prop := MQ below (QC_X6_understoodText D A ad cA ms mb mt mw ml mo gm gn gt Q) args s 0 0 A
def B_X6_understoodText_39  (Q : Int32 → (Nat → Int32) → Int32 → Int32 → Int32 → Int32 → Int32 → Int32 → Int32 → Int32 → Prop) (ms : (Nat → Int32)) (mt : (Nat → Int32)) (gn : Int32) (s0 : Int32) (my : (Nat → Int32)) (gs : Int32) (ga : Int32) (gg : Int32) (gb : Int32) (gu : Int32) (gh : Int32) (gk : Int32) (gl : Int32) : Prop := (Q s0 my gs ga gg gb gu gh gk gl)
def B_X6_understoodText_0  (Q : Int32 → (Nat → Int32) → Int32 → Int32 → Int32 → Int32 → Int32 → Int32 → Int32 → Int32 → Prop) (ms : (Nat → Int32)) (mt : (Nat → Int32)) (gn : Int32) (v1 : Int32) (my : (Nat → Int32)) (gs : Int32) (ga : Int32) (gg : Int32) (gb : Int32) (gu : Int32) (gh : Int32) (gk : Int32) (gl : Int32) : Prop := (F_X6_isHearer v1 (fun r_1 => ((r_1 = 0 → (Q (-1 : Int32) my gs ga gg gb gu gh gk gl)) ∧ (¬ r_1 = 0 → (F_X6_textFault mt gn my gs ga gg gb gu gh gk gl (fun r_3 my_4 gs_5 ga_6 gg_7 gb_8 gu_9 gh_10 gk_11 gl_12 => ((r_3 < 0 → (F_X6_understands v1 gn ms my_4 gs_5 ga_6 gg_7 gb_8 gu_9 gh_10 gk_11 gl_12 (fun r_14 gs_15 ga_16 gg_17 gb_18 gu_19 gh_20 gk_21 gl_22 => ((r_14 = 0 → (B_X6_understoodText_39  Q ms mt gn (-5 : Int32) my_4 gs_15 ga_16 gg_17 gb_18 gu_19 gh_20 gk_21 gl_22)) ∧ (¬ r_14 = 0 → (B_X6_understoodText_39  Q ms mt gn r_14 my_4 gs_15 ga_16 gg_17 gb_18 gu_19 gh_20 gk_21 gl_22)))))) ∧ (¬ r_3 < 0 → (Q (-3 : Int32) my_4 gs_5 ga_6 gg_7 gb_8 gu_9 gh_10 gk_11 gl_12)))))))))
def F_X6_understoodText (v1 : Int32) (ms : (Nat → Int32)) (mt : (Nat → Int32)) (gn : Int32) (my : (Nat → Int32)) (gs : Int32) (ga : Int32) (gg : Int32) (gb : Int32) (gu : Int32) (gh : Int32) (gk : Int32) (gl : Int32) (Q : Int32 → (Nat → Int32) → Int32 → Int32 → Int32 → Int32 → Int32 → Int32 → Int32 → Int32 → Prop) : Prop := B_X6_understoodText_0 Q ms mt gn v1 my gs ga gg gb gu gh gk gl
theorem lkX6_understoodText_184 : Cond.fieldLink RX6 184 (TX6 16).1 (TX6 16).2.1 (TX6 16).2.2.1 ∈ wsX6_understoodText := by decide +kernel
theorem inX6_understoodText_6 : ∀ q ∈ u_ws RX6 TX6 18, q ∈ wsX6_understoodText := by decide +kernel
set_option maxHeartbeats 4000000 in
set_option maxRecDepth 100000 in
theorem t_B_X6_understoodText_39  {Q : Int32 → (Nat → Int32) → Int32 → Int32 → Int32 → Int32 → Int32 → Int32 → Int32 → Int32 → Prop} (C : CxX p s m args c D (tysX cA) RX6 cX6_understoodText 3 wsX6_understoodText) (hrt9 : meth.sig.returnType = (some .int)) (hlk : meth.locks = false) (s0 : Int32) (my : (Nat → Int32)) (gs : Int32) (ga : Int32) (gg : Int32) (gb : Int32) (gu : Int32) (gh : Int32) (gk : Int32) (gl : Int32)  (h : B_X6_understoodText_39  Q ms mt gn s0 my gs ga gg gb gu gh gk gl) : GoX p l e rmX6_understoodText s m args below meth c D A 3 0 0 (QP_X6_understoodText D A ad cA ms mb mt mw ml mo gm gn gt Q below args s) 39 [] [.int s0] (WM ad cA ms mb my mt mw ml mo gm gs ga gg gb gu gh gk gl gn gt) := by
  replace h : (Q s0 my gs ga gg gb gu gh gk gl) := h
  exact g_iret C hrt9 hlk (u := (my, gs, ga, gg, gb, gu, gh, gk, gl)) rfl h dX6_understoodText_39
set_option maxHeartbeats 4000000 in
set_option maxRecDepth 100000 in
theorem t_B_X6_understoodText_0  {Q : Int32 → (Nat → Int32) → Int32 → Int32 → Int32 → Int32 → Int32 → Int32 → Int32 → Int32 → Prop} (C : CxX p s m args c D (tysX cA) RX6 cX6_understoodText 3 wsX6_understoodText) (hrt9 : meth.sig.returnType = (some .int)) (hlk : meth.locks = false) (v1 : Int32) (my : (Nat → Int32)) (gs : Int32) (ga : Int32) (gg : Int32) (gb : Int32) (gu : Int32) (gh : Int32) (gk : Int32) (gl : Int32)  (h : B_X6_understoodText_0  Q ms mt gn v1 my gs ga gg gb gu gh gk gl) : GoX p l e rmX6_understoodText s m args below meth c D A 3 0 0 (QP_X6_understoodText D A ad cA ms mb mt mw ml mo gm gn gt Q below args s) 0 [(0, .ref (ad 0)), (1, .int v1)] [] (WM ad cA ms mb my mt mw ml mo gm gs ga gg gb gu gh gk gl gn gt) := by
  replace h : (F_X6_isHearer v1 (fun r_1 => ((r_1 = 0 → (Q (-1 : Int32) my gs ga gg gb gu gh gk gl)) ∧ (¬ r_1 = 0 → (F_X6_textFault mt gn my gs ga gg gb gu gh gk gl (fun r_3 my_4 gs_5 ga_6 gg_7 gb_8 gu_9 gh_10 gk_11 gl_12 => ((r_3 < 0 → (F_X6_understands v1 gn ms my_4 gs_5 ga_6 gg_7 gb_8 gu_9 gh_10 gk_11 gl_12 (fun r_14 gs_15 ga_16 gg_17 gb_18 gu_19 gh_20 gk_21 gl_22 => ((r_14 = 0 → (B_X6_understoodText_39  Q ms mt gn (-5 : Int32) my_4 gs_15 ga_16 gg_17 gb_18 gu_19 gh_20 gk_21 gl_22)) ∧ (¬ r_14 = 0 → (B_X6_understoodText_39  Q ms mt gn r_14 my_4 gs_15 ga_16 gg_17 gb_18 gu_19 gh_20 gk_21 gl_22)))))) ∧ (¬ r_3 < 0 → (Q (-3 : Int32) my_4 gs_5 ga_6 gg_7 gb_8 gu_9 gh_10 gk_11 gl_12))))))))) := h
  refine g_iload_n C 1 dX6_understoodText_0 rfl rfl ?_
  refine k_X6_isHearer C gX6_understoodText_X6_isHearer ⟨Nat.le_of_ble_eq_true rfl, Nat.le_of_ble_eq_true rfl⟩ (Nat.le_of_ble_eq_true rfl) dX6_understoodText_1  h (fun r_1 h => ?_)
  refine g_if_ne C 9 dX6_understoodText_4 (by decide) (fun c_2 => ?_) (fun c_2 => ?_)
  · replace h := h.2 c_2
    refine g_aload_n C 0 dX6_understoodText_9 rfl rfl ?_
    refine k_X6_textFault C gX6_understoodText_X6_textFault ⟨Nat.le_of_ble_eq_true rfl, Nat.le_of_ble_eq_true rfl⟩ (Nat.le_of_ble_eq_true rfl) dX6_understoodText_10  h (fun r_3 my_4 gs_5 ga_6 gg_7 gb_8 gu_9 gh_10 gk_11 gl_12 h => ?_)
    refine g_if_lt C 19 dX6_understoodText_13 (by decide) (fun c_13 => ?_) (fun c_13 => ?_)
    · replace h := h.1 c_13
      refine g_aload_n C 0 dX6_understoodText_19 rfl rfl ?_
      refine g_iload_n C 1 dX6_understoodText_20 rfl rfl ?_
      refine g_aload_n C 0 dX6_understoodText_21 rfl rfl ?_
      refine g_get C inX6_understoodText_6 0 WMg0 rfl 16 (by decide) lkX6_understoodText_184 rfl dX6_understoodText_22 ?_
      refine k_X6_understands C gX6_understoodText_X6_understands ⟨Nat.le_of_ble_eq_true rfl, Nat.le_of_ble_eq_true rfl⟩ (Nat.le_of_ble_eq_true rfl) dX6_understoodText_25  h (fun r_14 gs_15 ga_16 gg_17 gb_18 gu_19 gh_20 gk_21 gl_22 h => ?_)
      refine g_istore_n C (lv2 := [(2, .int r_14), (0, .ref (ad 0)), (1, .int v1)]) dX6_understoodText_28 rfl (by decide) rfl ?_
      refine g_iload_n C 0 dX6_understoodText_29 rfl rfl ?_
      refine g_if_ne C 38 dX6_understoodText_30 (by decide) (fun c_23 => ?_) (fun c_23 => ?_)
      · replace h := h.2 c_23
        refine g_iload_n C 0 dX6_understoodText_38 rfl rfl ?_
        exact g_sub [] rfl (t_B_X6_understoodText_39 C hrt9 hlk  r_14 my_4 gs_15 ga_16 gg_17 gb_18 gu_19 gh_20 gk_21 gl_22  h)
      · replace h := h.1 c_23
        refine g_bipush C (-5 : Int32) dX6_understoodText_33 (by decide) ?_
        refine g_goto C 39 dX6_understoodText_35 (by decide) ?_
        exact g_sub [] rfl (t_B_X6_understoodText_39 C hrt9 hlk  (-5 : Int32) my_4 gs_15 ga_16 gg_17 gb_18 gu_19 gh_20 gk_21 gl_22  h)
    · replace h := h.2 c_13
      refine g_bipush C (-3 : Int32) dX6_understoodText_16 (by decide) ?_
      exact g_iret C hrt9 hlk (u := (my_4, gs_5, ga_6, gg_7, gb_8, gu_9, gh_10, gk_11, gl_12)) rfl h dX6_understoodText_18
  · replace h := h.1 c_2
    refine g_iconst C (-1 : Int32) dX6_understoodText_7 (by decide) ?_
    exact g_iret C hrt9 hlk (u := (my, gs, ga, gg, gb, gu, gh, gk, gl)) rfl h dX6_understoodText_8
theorem c_X6_understoodText (l : Launch) (D : va_G) (A : Nat → Prop) (ad : Nat → Nat) (cA : Nat → ClassId) (v1 : Int32) {ms : (Nat → Int32)} {mb : (Nat → Int32)} {my : (Nat → Int32)} {mt : (Nat → Int32)} {mw : (Nat → Int32)} {ml : (Nat → Int32)} {mo : (Nat → Int32)} {gm : Int32} {gs : Int32} {ga : Int32} {gg : Int32} {gb : Int32} {gu : Int32} {gh : Int32} {gk : Int32} {gl : Int32} {gn : Int32} {gt : Int32}  (Q : Int32 → (Nat → Int32) → Int32 → Int32 → Int32 → Int32 → Int32 → Int32 → Int32 → Int32 → Prop) (h : F_X6_understoodText v1 ms mt gn my gs ga gg gb gu gh gk gl Q) : Met l yX6_understoodText wsX6_understoodText rmX6_understoodText (va_Pc [.ref (ad 0), .int v1] (OKX D (tysX cA) (WM ad cA ms mb my mt mw ml mo gm gs ga gg gb gu gh gk gl gn gt) A)) (QC_X6_understoodText D A ad cA ms mb mt mw ml mo gm gn gt Q) 0 0 A :=
  g_met (own := RX6) (by decide) rfl rfl (Nat.le_of_ble_eq_true rfl) (fun p e s m below meth c C hrt9 hlk _ => g_sub [0, 1] rfl (t_B_X6_understoodText_0 C hrt9 hlk v1 my gs ga gg gb gu gh gk gl  h))
theorem k_X6_understoodText {ws : List Cond} {own : String} {cc : ByteArray} {nL pc index : Nat} {lv : List (Nat × Value)} {st : List Value} {Q : State → Prop} {R : Room} {K : Int32 → (Nat → Int32) → Int32 → Int32 → Int32 → Int32 → Int32 → Int32 → Int32 → Int32 → Prop} {v1 : Int32} (C : CxX p s m args c D (tysX cA) own cc nL ws) (hT : GoodIn ws (wsV own index RX6 yX6_understoodText wsX6_understoodText)) (hR : rmX6_understoodText.frames + 1 ≤ R.frames ∧ 8 + (3 + 11) + rmX6_understoodText.locals ≤ R.locals) (hcat : (st.map fun v => v.category).sum ≤ 8) (hdg : decode cc pc = .ok (.invokevirtual index, 3))  (h : F_X6_understoodText v1 ms mt gn my gs ga gg gb gu gh gk gl K) (kk : ∀ (r : Int32) (myq : (Nat → Int32)) (gsq : Int32) (gaq : Int32) (ggq : Int32) (gbq : Int32) (guq : Int32) (ghq : Int32) (gkq : Int32) (glq : Int32), K r myq gsq gaq ggq gbq guq ghq gkq glq → GoX p l e R s m args below meth c D A nL 0 0 Q (pc + 3) lv (.int r :: st) (WM ad cA ms mb myq mt mw ml mo gm gsq gaq ggq gbq guq ghq gkq glq gn gt)) : GoX p l e R s m args below meth c D A nL 0 0 Q pc lv (.int v1 :: .ref (ad 0) :: st) (WM ad cA ms mb my mt mw ml mo gm gs ga gg gb gu gh gk gl gn gt) :=
  g_callVi C (As := [.int v1]) 1 (c_X6_understoodText l D A ad cA v1  K h) hT rfl rfl rfl (by decide +kernel) hR 0 WMg0 rfl rfl rfl hcat hdg (fun r u hu => kk r u.1 u.2.1 u.2.2.1 u.2.2.2.1 u.2.2.2.2.1 u.2.2.2.2.2.1 u.2.2.2.2.2.2.1 u.2.2.2.2.2.2.2.1 u.2.2.2.2.2.2.2.2 hu)
/-! X6_best -/
abbrev rmX6_best : Room := { frames := 10, cells := 0, slots := 0, locals := 213 }
abbrev QC_X6_best (D : va_G) (A : Nat → Prop) (ad : Nat → Nat) (cA : Nat → ClassId) (ms : (Nat → Int32)) (mb : (Nat → Int32)) (mt : (Nat → Int32)) (gn : Int32) (gt : Int32) (Q : Int32 → (Nat → Int32) → (Nat → Int32) → (Nat → Int32) → (Nat → Int32) → Int32 → Int32 → Int32 → Int32 → Int32 → Int32 → Int32 → Int32 → Int32 → Prop) : Array Value → State → Outcome → State → Prop := va_Qi (fun (r : Int32) (u : (Nat → Int32) × (Nat → Int32) × (Nat → Int32) × (Nat → Int32) × Int32 × Int32 × Int32 × Int32 × Int32 × Int32 × Int32 × Int32 × Int32) => Q r u.1 u.2.1 u.2.2.1 u.2.2.2.1 u.2.2.2.2.1 u.2.2.2.2.2.1 u.2.2.2.2.2.2.1 u.2.2.2.2.2.2.2.1 u.2.2.2.2.2.2.2.2.1 u.2.2.2.2.2.2.2.2.2.1 u.2.2.2.2.2.2.2.2.2.2.1 u.2.2.2.2.2.2.2.2.2.2.2.1 u.2.2.2.2.2.2.2.2.2.2.2.2) (fun u t => OKX D (tysX cA) ((fun u : (Nat → Int32) × (Nat → Int32) × (Nat → Int32) × (Nat → Int32) × Int32 × Int32 × Int32 × Int32 × Int32 × Int32 × Int32 × Int32 × Int32 => WM ad cA ms mb u.1 mt u.2.1 u.2.2.1 u.2.2.2.1 u.2.2.2.2.1 u.2.2.2.2.2.1 u.2.2.2.2.2.2.1 u.2.2.2.2.2.2.2.1 u.2.2.2.2.2.2.2.2.1 u.2.2.2.2.2.2.2.2.2.1 u.2.2.2.2.2.2.2.2.2.2.1 u.2.2.2.2.2.2.2.2.2.2.2.1 u.2.2.2.2.2.2.2.2.2.2.2.2 gn gt) u) A t) A
abbrev QP_X6_best (D : va_G) (A : Nat → Prop) (ad : Nat → Nat) (cA : Nat → ClassId) (ms : (Nat → Int32)) (mb : (Nat → Int32)) (mt : (Nat → Int32)) (gn : Int32) (gt : Int32) (Q : Int32 → (Nat → Int32) → (Nat → Int32) → (Nat → Int32) → (Nat → Int32) → Int32 → Int32 → Int32 → Int32 → Int32 → Int32 → Int32 → Int32 → Int32 → Prop) (below : List Frame) (args : Array Value) (s : State) : State → Prop := MQ below (QC_X6_best D A ad cA ms mb mt gn gt Q) args s 0 0 A
def B_X6_best_42 (kh16 : Int32 → Int32 → Int32 → Int32 → (Nat → Int32) → (Nat → Int32) → (Nat → Int32) → (Nat → Int32) → Int32 → Int32 → Int32 → Int32 → Int32 → Int32 → Int32 → Int32 → Int32 → Prop) (Q : Int32 → (Nat → Int32) → (Nat → Int32) → (Nat → Int32) → (Nat → Int32) → Int32 → Int32 → Int32 → Int32 → Int32 → Int32 → Int32 → Int32 → Int32 → Prop) (ms : (Nat → Int32)) (v1 : Int32) (v2 : Int32) (v4 : Int32) (s0 : Int32) (my : (Nat → Int32)) (mw : (Nat → Int32)) (ml : (Nat → Int32)) (mo : (Nat → Int32)) (gm : Int32) (gs : Int32) (ga : Int32) (gg : Int32) (gb : Int32) (gu : Int32) (gh : Int32) (gk : Int32) (gl : Int32) : Prop := (kh16 v1 v2 s0 (v4 + (-1 : Int32)) my mw ml mo gm gs ga gg gb gu gh gk gl)
noncomputable def L_X6_best_16  (Q : Int32 → (Nat → Int32) → (Nat → Int32) → (Nat → Int32) → (Nat → Int32) → Int32 → Int32 → Int32 → Int32 → Int32 → Int32 → Int32 → Int32 → Int32 → Prop) (ms : (Nat → Int32)) (n9 : Nat) : Int32 → Int32 → Int32 → Int32 → (Nat → Int32) → (Nat → Int32) → (Nat → Int32) → (Nat → Int32) → Int32 → Int32 → Int32 → Int32 → Int32 → Int32 → Int32 → Int32 → Int32 → Prop := Nat.rec (motive := fun _ => Int32 → Int32 → Int32 → Int32 → (Nat → Int32) → (Nat → Int32) → (Nat → Int32) → (Nat → Int32) → Int32 → Int32 → Int32 → Int32 → Int32 → Int32 → Int32 → Int32 → Int32 → Prop) (fun _ _ _ _ _ _ _ _ _ _ _ _ _ _ _ _ _ => False) (fun _ kh16 => fun v1 v2 v3 v4 my mw ml mo gm gs ga gg gb gu gh gk gl => ((v4 < 0 → (Q v3 my mw ml mo gm gs ga gg gb gu gh gk gl)) ∧ (¬ v4 < 0 → (F_X6_says v4 mw ml mo my (fun r_2 my_3 => (F_X6_understands v1 r_2 ms my_3 gs ga gg gb gu gh gk gl (fun r_4 gs_5 ga_6 gg_7 gb_8 gu_9 gh_10 gk_11 gl_12 => ((r_4 = v2 → (B_X6_best_42 kh16 Q ms v1 v2 v4 v4 my_3 mw ml mo gm gs_5 ga_6 gg_7 gb_8 gu_9 gh_10 gk_11 gl_12)) ∧ (¬ r_4 = v2 → (B_X6_best_42 kh16 Q ms v1 v2 v4 v3 my_3 mw ml mo gm gs_5 ga_6 gg_7 gb_8 gu_9 gh_10 gk_11 gl_12)))))))))) n9
def B_X6_best_0  (Q : Int32 → (Nat → Int32) → (Nat → Int32) → (Nat → Int32) → (Nat → Int32) → Int32 → Int32 → Int32 → Int32 → Int32 → Int32 → Int32 → Int32 → Int32 → Prop) (ms : (Nat → Int32)) (v1 : Int32) (v2 : Int32) (my : (Nat → Int32)) (mw : (Nat → Int32)) (ml : (Nat → Int32)) (mo : (Nat → Int32)) (gm : Int32) (gs : Int32) (ga : Int32) (gg : Int32) (gb : Int32) (gu : Int32) (gh : Int32) (gk : Int32) (gl : Int32) : Prop := (F_X6_makes v2 mw ml mo gm (fun mw_14 ml_15 mo_16 gm_17 => (∃ n9 : Nat, L_X6_best_16  Q ms n9 v1 v2 (-5 : Int32) (gm_17 - (1 : Int32)) my mw_14 ml_15 mo_16 gm_17 gs ga gg gb gu gh gk gl)))
def F_X6_best (v1 : Int32) (v2 : Int32) (ms : (Nat → Int32)) (my : (Nat → Int32)) (mw : (Nat → Int32)) (ml : (Nat → Int32)) (mo : (Nat → Int32)) (gm : Int32) (gs : Int32) (ga : Int32) (gg : Int32) (gb : Int32) (gu : Int32) (gh : Int32) (gk : Int32) (gl : Int32) (Q : Int32 → (Nat → Int32) → (Nat → Int32) → (Nat → Int32) → (Nat → Int32) → Int32 → Int32 → Int32 → Int32 → Int32 → Int32 → Int32 → Int32 → Int32 → Prop) : Prop := B_X6_best_0 Q ms v1 v2 my mw ml mo gm gs ga gg gb gu gh gk gl
theorem lkX6_best_107 : Cond.fieldLink RX6 107 (TX6 7).1 (TX6 7).2.1 (TX6 7).2.2.1 ∈ wsX6_best := by decide +kernel
theorem inX6_best_6 : ∀ q ∈ u_ws RX6 TX6 18, q ∈ wsX6_best := by decide +kernel
set_option maxHeartbeats 4000000 in
set_option maxRecDepth 100000 in
theorem t_B_X6_best_42 {kh16 : Int32 → Int32 → Int32 → Int32 → (Nat → Int32) → (Nat → Int32) → (Nat → Int32) → (Nat → Int32) → Int32 → Int32 → Int32 → Int32 → Int32 → Int32 → Int32 → Int32 → Int32 → Prop} {Q : Int32 → (Nat → Int32) → (Nat → Int32) → (Nat → Int32) → (Nat → Int32) → Int32 → Int32 → Int32 → Int32 → Int32 → Int32 → Int32 → Int32 → Int32 → Prop} (C : CxX p s m args c D (tysX cA) RX6 cX6_best 5 wsX6_best) (hrt9 : meth.sig.returnType = (some .int)) (hlk : meth.locks = false) (Hk16 : ∀ (v1q : Int32) (v2q : Int32) (v3q : Int32) (v4q : Int32) (myq : (Nat → Int32)) (mwq : (Nat → Int32)) (mlq : (Nat → Int32)) (moq : (Nat → Int32)) (gmq : Int32) (gsq : Int32) (gaq : Int32) (ggq : Int32) (gbq : Int32) (guq : Int32) (ghq : Int32) (gkq : Int32) (glq : Int32) , kh16 v1q v2q v3q v4q myq mwq mlq moq gmq gsq gaq ggq gbq guq ghq gkq glq → GoX p l e rmX6_best s m args below meth c D A 5 0 0 (QP_X6_best D A ad cA ms mb mt gn gt Q below args s) 16 [(0, .ref (ad 0)), (1, .int v1q), (2, .int v2q), (3, .int v3q), (4, .int v4q)] [] (WM ad cA ms mb myq mt mwq mlq moq gmq gsq gaq ggq gbq guq ghq gkq glq gn gt)) (v1 : Int32) (v2 : Int32) (v4 : Int32) (s0 : Int32) (my : (Nat → Int32)) (mw : (Nat → Int32)) (ml : (Nat → Int32)) (mo : (Nat → Int32)) (gm : Int32) (gs : Int32) (ga : Int32) (gg : Int32) (gb : Int32) (gu : Int32) (gh : Int32) (gk : Int32) (gl : Int32)  (h : B_X6_best_42 kh16 Q ms v1 v2 v4 s0 my mw ml mo gm gs ga gg gb gu gh gk gl) : GoX p l e rmX6_best s m args below meth c D A 5 0 0 (QP_X6_best D A ad cA ms mb mt gn gt Q below args s) 42 [(0, .ref (ad 0)), (1, .int v1), (2, .int v2), (4, .int v4)] [.int s0] (WM ad cA ms mb my mt mw ml mo gm gs ga gg gb gu gh gk gl gn gt) := by
  replace h : (kh16 v1 v2 s0 (v4 + (-1 : Int32)) my mw ml mo gm gs ga gg gb gu gh gk gl) := h
  refine g_istore_n C (lv2 := [(3, .int s0), (0, .ref (ad 0)), (1, .int v1), (2, .int v2), (4, .int v4)]) dX6_best_42 rfl (by decide) rfl ?_
  refine g_iinc C (v := (v4 + (-1 : Int32))) (lv2 := [(4, .int (v4 + (-1 : Int32))), (3, .int s0), (0, .ref (ad 0)), (1, .int v1), (2, .int v2)]) 4 dX6_best_43 rfl rfl (by decide) rfl ?_
  refine g_goto C 16 dX6_best_46 (by decide) ?_
  exact g_sub [2, 3, 4, 1, 0] rfl (Hk16 v1 v2 s0 (v4 + (-1 : Int32)) my mw ml mo gm gs ga gg gb gu gh gk gl  h)
set_option maxHeartbeats 4000000 in
set_option maxRecDepth 100000 in
theorem t_L_X6_best_16  {Q : Int32 → (Nat → Int32) → (Nat → Int32) → (Nat → Int32) → (Nat → Int32) → Int32 → Int32 → Int32 → Int32 → Int32 → Int32 → Int32 → Int32 → Int32 → Prop} (C : CxX p s m args c D (tysX cA) RX6 cX6_best 5 wsX6_best) (hrt9 : meth.sig.returnType = (some .int)) (hlk : meth.locks = false) (m9 : Nat) : ∀ (v1 : Int32) (v2 : Int32) (v3 : Int32) (v4 : Int32) (my : (Nat → Int32)) (mw : (Nat → Int32)) (ml : (Nat → Int32)) (mo : (Nat → Int32)) (gm : Int32) (gs : Int32) (ga : Int32) (gg : Int32) (gb : Int32) (gu : Int32) (gh : Int32) (gk : Int32) (gl : Int32) , L_X6_best_16  Q ms m9 v1 v2 v3 v4 my mw ml mo gm gs ga gg gb gu gh gk gl → GoX p l e rmX6_best s m args below meth c D A 5 0 0 (QP_X6_best D A ad cA ms mb mt gn gt Q below args s) 16 [(0, .ref (ad 0)), (1, .int v1), (2, .int v2), (3, .int v3), (4, .int v4)] [] (WM ad cA ms mb my mt mw ml mo gm gs ga gg gb gu gh gk gl gn gt) := by
  induction m9 with
  | zero =>
    intro v1 v2 v3 v4 my mw ml mo gm gs ga gg gb gu gh gk gl h
    exact False.elim h
  | succ m9 Hk16 =>
    intro v1 v2 v3 v4 my mw ml mo gm gs ga gg gb gu gh gk gl h
    replace h : ((v4 < 0 → (Q v3 my mw ml mo gm gs ga gg gb gu gh gk gl)) ∧ (¬ v4 < 0 → (F_X6_says v4 mw ml mo my (fun r_2 my_3 => (F_X6_understands v1 r_2 ms my_3 gs ga gg gb gu gh gk gl (fun r_4 gs_5 ga_6 gg_7 gb_8 gu_9 gh_10 gk_11 gl_12 => ((r_4 = v2 → (B_X6_best_42 (L_X6_best_16  Q ms m9) Q ms v1 v2 v4 v4 my_3 mw ml mo gm gs_5 ga_6 gg_7 gb_8 gu_9 gh_10 gk_11 gl_12)) ∧ (¬ r_4 = v2 → (B_X6_best_42 (L_X6_best_16  Q ms m9) Q ms v1 v2 v4 v3 my_3 mw ml mo gm gs_5 ga_6 gg_7 gb_8 gu_9 gh_10 gk_11 gl_12))))))))) := h
    refine g_iload C 4 dX6_best_16 rfl ?_
    refine g_if_lt C 49 dX6_best_18 (by decide) (fun c_1 => ?_) (fun c_1 => ?_)
    · replace h := h.1 c_1
      refine g_iload_n C 3 dX6_best_49 rfl rfl ?_
      exact g_iret C hrt9 hlk (u := (my, mw, ml, mo, gm, gs, ga, gg, gb, gu, gh, gk, gl)) rfl h dX6_best_50
    · replace h := h.2 c_1
      refine g_aload_n C 0 dX6_best_21 rfl rfl ?_
      refine g_iload_n C 1 dX6_best_22 rfl rfl ?_
      refine g_aload_n C 0 dX6_best_23 rfl rfl ?_
      refine g_iload C 4 dX6_best_24 rfl ?_
      refine k_X6_says C gX6_best_X6_says ⟨Nat.le_of_ble_eq_true rfl, Nat.le_of_ble_eq_true rfl⟩ (Nat.le_of_ble_eq_true rfl) dX6_best_26  h (fun r_2 my_3 h => ?_)
      refine k_X6_understands C gX6_best_X6_understands ⟨Nat.le_of_ble_eq_true rfl, Nat.le_of_ble_eq_true rfl⟩ (Nat.le_of_ble_eq_true rfl) dX6_best_29  h (fun r_4 gs_5 ga_6 gg_7 gb_8 gu_9 gh_10 gk_11 gl_12 h => ?_)
      refine g_iload_n C 2 dX6_best_32 rfl rfl ?_
      refine g_icmp_ne C 41 dX6_best_33 (by decide) (fun c_13 => ?_) (fun c_13 => ?_)
      · replace h := h.2 c_13
        refine g_iload_n C 3 dX6_best_41 rfl rfl ?_
        exact g_sub [0, 1, 2, 4] rfl (t_B_X6_best_42 C hrt9 hlk Hk16 v1 v2 v4 v3 my_3 mw ml mo gm gs_5 ga_6 gg_7 gb_8 gu_9 gh_10 gk_11 gl_12  h)
      · replace h := h.1 c_13
        refine g_iload C 4 dX6_best_36 rfl ?_
        refine g_goto C 42 dX6_best_38 (by decide) ?_
        exact g_sub [0, 1, 2, 4] rfl (t_B_X6_best_42 C hrt9 hlk Hk16 v1 v2 v4 v4 my_3 mw ml mo gm gs_5 ga_6 gg_7 gb_8 gu_9 gh_10 gk_11 gl_12  h)
set_option maxHeartbeats 4000000 in
set_option maxRecDepth 100000 in
theorem t_B_X6_best_0  {Q : Int32 → (Nat → Int32) → (Nat → Int32) → (Nat → Int32) → (Nat → Int32) → Int32 → Int32 → Int32 → Int32 → Int32 → Int32 → Int32 → Int32 → Int32 → Prop} (C : CxX p s m args c D (tysX cA) RX6 cX6_best 5 wsX6_best) (hrt9 : meth.sig.returnType = (some .int)) (hlk : meth.locks = false) (v1 : Int32) (v2 : Int32) (my : (Nat → Int32)) (mw : (Nat → Int32)) (ml : (Nat → Int32)) (mo : (Nat → Int32)) (gm : Int32) (gs : Int32) (ga : Int32) (gg : Int32) (gb : Int32) (gu : Int32) (gh : Int32) (gk : Int32) (gl : Int32)  (h : B_X6_best_0  Q ms v1 v2 my mw ml mo gm gs ga gg gb gu gh gk gl) : GoX p l e rmX6_best s m args below meth c D A 5 0 0 (QP_X6_best D A ad cA ms mb mt gn gt Q below args s) 0 [(0, .ref (ad 0)), (1, .int v1), (2, .int v2)] [] (WM ad cA ms mb my mt mw ml mo gm gs ga gg gb gu gh gk gl gn gt) := by
  replace h : (F_X6_makes v2 mw ml mo gm (fun mw_14 ml_15 mo_16 gm_17 => (∃ n9 : Nat, L_X6_best_16  Q ms n9 v1 v2 (-5 : Int32) (gm_17 - (1 : Int32)) my mw_14 ml_15 mo_16 gm_17 gs ga gg gb gu gh gk gl))) := h
  refine g_aload_n C 0 dX6_best_0 rfl rfl ?_
  refine g_iload_n C 2 dX6_best_1 rfl rfl ?_
  refine k_X6_makes C gX6_best_X6_makes ⟨Nat.le_of_ble_eq_true rfl, Nat.le_of_ble_eq_true rfl⟩ (Nat.le_of_ble_eq_true rfl) dX6_best_2  h (fun mw_14 ml_15 mo_16 gm_17 h => ?_)
  refine g_bipush C (-5 : Int32) dX6_best_5 (by decide) ?_
  refine g_istore_n C (lv2 := [(3, .int (-5 : Int32)), (0, .ref (ad 0)), (1, .int v1), (2, .int v2)]) dX6_best_7 rfl (by decide) rfl ?_
  refine g_aload_n C 1 dX6_best_8 rfl rfl ?_
  refine g_get C inX6_best_6 0 WMg0 rfl 7 (by decide) lkX6_best_107 rfl dX6_best_9 ?_
  refine g_iconst C (1 : Int32) dX6_best_12 (by decide) ?_
  refine g_isub C dX6_best_13 ?_
  refine g_istore C (lv2 := [(4, .int (gm_17 - (1 : Int32))), (3, .int (-5 : Int32)), (0, .ref (ad 0)), (1, .int v1), (2, .int v2)]) dX6_best_14 (by decide) rfl ?_
  obtain ⟨n9, h⟩ := h
  exact g_sub [2, 3, 4, 1, 0] rfl (t_L_X6_best_16 C hrt9 hlk  n9 v1 v2 (-5 : Int32) (gm_17 - (1 : Int32)) my mw_14 ml_15 mo_16 gm_17 gs ga gg gb gu gh gk gl  h)
theorem c_X6_best (l : Launch) (D : va_G) (A : Nat → Prop) (ad : Nat → Nat) (cA : Nat → ClassId) (v1 : Int32) (v2 : Int32) {ms : (Nat → Int32)} {mb : (Nat → Int32)} {my : (Nat → Int32)} {mt : (Nat → Int32)} {mw : (Nat → Int32)} {ml : (Nat → Int32)} {mo : (Nat → Int32)} {gm : Int32} {gs : Int32} {ga : Int32} {gg : Int32} {gb : Int32} {gu : Int32} {gh : Int32} {gk : Int32} {gl : Int32} {gn : Int32} {gt : Int32}  (Q : Int32 → (Nat → Int32) → (Nat → Int32) → (Nat → Int32) → (Nat → Int32) → Int32 → Int32 → Int32 → Int32 → Int32 → Int32 → Int32 → Int32 → Int32 → Prop) (h : F_X6_best v1 v2 ms my mw ml mo gm gs ga gg gb gu gh gk gl Q) : Met l yX6_best wsX6_best rmX6_best (va_Pc [.ref (ad 0), .int v1, .int v2] (OKX D (tysX cA) (WM ad cA ms mb my mt mw ml mo gm gs ga gg gb gu gh gk gl gn gt) A)) (QC_X6_best D A ad cA ms mb mt gn gt Q) 0 0 A :=
  g_met (own := RX6) (by decide) rfl rfl (Nat.le_of_ble_eq_true rfl) (fun p e s m below meth c C hrt9 hlk _ => g_sub [0, 1, 2] rfl (t_B_X6_best_0 C hrt9 hlk v1 v2 my mw ml mo gm gs ga gg gb gu gh gk gl  h))
theorem k_X6_best {ws : List Cond} {own : String} {cc : ByteArray} {nL pc index : Nat} {lv : List (Nat × Value)} {st : List Value} {Q : State → Prop} {R : Room} {K : Int32 → (Nat → Int32) → (Nat → Int32) → (Nat → Int32) → (Nat → Int32) → Int32 → Int32 → Int32 → Int32 → Int32 → Int32 → Int32 → Int32 → Int32 → Prop} {v1 : Int32} {v2 : Int32} (C : CxX p s m args c D (tysX cA) own cc nL ws) (hT : GoodIn ws (wsV own index RX6 yX6_best wsX6_best)) (hR : rmX6_best.frames + 1 ≤ R.frames ∧ 8 + (5 + 11) + rmX6_best.locals ≤ R.locals) (hcat : (st.map fun v => v.category).sum ≤ 8) (hdg : decode cc pc = .ok (.invokevirtual index, 3))  (h : F_X6_best v1 v2 ms my mw ml mo gm gs ga gg gb gu gh gk gl K) (kk : ∀ (r : Int32) (myq : (Nat → Int32)) (mwq : (Nat → Int32)) (mlq : (Nat → Int32)) (moq : (Nat → Int32)) (gmq : Int32) (gsq : Int32) (gaq : Int32) (ggq : Int32) (gbq : Int32) (guq : Int32) (ghq : Int32) (gkq : Int32) (glq : Int32), K r myq mwq mlq moq gmq gsq gaq ggq gbq guq ghq gkq glq → GoX p l e R s m args below meth c D A nL 0 0 Q (pc + 3) lv (.int r :: st) (WM ad cA ms mb myq mt mwq mlq moq gmq gsq gaq ggq gbq guq ghq gkq glq gn gt)) : GoX p l e R s m args below meth c D A nL 0 0 Q pc lv (.int v2 :: .int v1 :: .ref (ad 0) :: st) (WM ad cA ms mb my mt mw ml mo gm gs ga gg gb gu gh gk gl gn gt) :=
  g_callVi C (As := [.int v1, .int v2]) 2 (c_X6_best l D A ad cA v1 v2  K h) hT rfl rfl rfl (by decide +kernel) hR 0 WMg0 rfl rfl rfl hcat hdg (fun r u hu => kk r u.1 u.2.1 u.2.2.1 u.2.2.2.1 u.2.2.2.2.1 u.2.2.2.2.2.1 u.2.2.2.2.2.2.1 u.2.2.2.2.2.2.2.1 u.2.2.2.2.2.2.2.2.1 u.2.2.2.2.2.2.2.2.2.1 u.2.2.2.2.2.2.2.2.2.2.1 u.2.2.2.2.2.2.2.2.2.2.2.1 u.2.2.2.2.2.2.2.2.2.2.2.2 hu)
/-! X6_bestWay -/
abbrev rmX6_bestWay : Room := { frames := 11, cells := 0, slots := 0, locals := 237 }
abbrev QC_X6_bestWay (D : va_G) (A : Nat → Prop) (ad : Nat → Nat) (cA : Nat → ClassId) (ms : (Nat → Int32)) (mb : (Nat → Int32)) (mt : (Nat → Int32)) (gn : Int32) (gt : Int32) (Q : Int32 → (Nat → Int32) → (Nat → Int32) → (Nat → Int32) → (Nat → Int32) → Int32 → Int32 → Int32 → Int32 → Int32 → Int32 → Int32 → Int32 → Int32 → Prop) : Array Value → State → Outcome → State → Prop := va_Qi (fun (r : Int32) (u : (Nat → Int32) × (Nat → Int32) × (Nat → Int32) × (Nat → Int32) × Int32 × Int32 × Int32 × Int32 × Int32 × Int32 × Int32 × Int32 × Int32) => Q r u.1 u.2.1 u.2.2.1 u.2.2.2.1 u.2.2.2.2.1 u.2.2.2.2.2.1 u.2.2.2.2.2.2.1 u.2.2.2.2.2.2.2.1 u.2.2.2.2.2.2.2.2.1 u.2.2.2.2.2.2.2.2.2.1 u.2.2.2.2.2.2.2.2.2.2.1 u.2.2.2.2.2.2.2.2.2.2.2.1 u.2.2.2.2.2.2.2.2.2.2.2.2) (fun u t => OKX D (tysX cA) ((fun u : (Nat → Int32) × (Nat → Int32) × (Nat → Int32) × (Nat → Int32) × Int32 × Int32 × Int32 × Int32 × Int32 × Int32 × Int32 × Int32 × Int32 => WM ad cA ms mb u.1 mt u.2.1 u.2.2.1 u.2.2.2.1 u.2.2.2.2.1 u.2.2.2.2.2.1 u.2.2.2.2.2.2.1 u.2.2.2.2.2.2.2.1 u.2.2.2.2.2.2.2.2.1 u.2.2.2.2.2.2.2.2.2.1 u.2.2.2.2.2.2.2.2.2.2.1 u.2.2.2.2.2.2.2.2.2.2.2.1 u.2.2.2.2.2.2.2.2.2.2.2.2 gn gt) u) A t) A
abbrev QP_X6_bestWay (D : va_G) (A : Nat → Prop) (ad : Nat → Nat) (cA : Nat → ClassId) (ms : (Nat → Int32)) (mb : (Nat → Int32)) (mt : (Nat → Int32)) (gn : Int32) (gt : Int32) (Q : Int32 → (Nat → Int32) → (Nat → Int32) → (Nat → Int32) → (Nat → Int32) → Int32 → Int32 → Int32 → Int32 → Int32 → Int32 → Int32 → Int32 → Int32 → Prop) (below : List Frame) (args : Array Value) (s : State) : State → Prop := MQ below (QC_X6_bestWay D A ad cA ms mb mt gn gt Q) args s 0 0 A
def B_X6_bestWay_29  (Q : Int32 → (Nat → Int32) → (Nat → Int32) → (Nat → Int32) → (Nat → Int32) → Int32 → Int32 → Int32 → Int32 → Int32 → Int32 → Int32 → Int32 → Int32 → Prop) (ms : (Nat → Int32)) (s0 : Int32) (my : (Nat → Int32)) (mw : (Nat → Int32)) (ml : (Nat → Int32)) (mo : (Nat → Int32)) (gm : Int32) (gs : Int32) (ga : Int32) (gg : Int32) (gb : Int32) (gu : Int32) (gh : Int32) (gk : Int32) (gl : Int32) : Prop := (Q s0 my mw ml mo gm gs ga gg gb gu gh gk gl)
def B_X6_bestWay_0  (Q : Int32 → (Nat → Int32) → (Nat → Int32) → (Nat → Int32) → (Nat → Int32) → Int32 → Int32 → Int32 → Int32 → Int32 → Int32 → Int32 → Int32 → Int32 → Prop) (ms : (Nat → Int32)) (v1 : Int32) (v2 : Int32) (my : (Nat → Int32)) (mw : (Nat → Int32)) (ml : (Nat → Int32)) (mo : (Nat → Int32)) (gm : Int32) (gs : Int32) (ga : Int32) (gg : Int32) (gb : Int32) (gu : Int32) (gh : Int32) (gk : Int32) (gl : Int32) : Prop := (F_X6_isHearer v1 (fun r_1 => ((r_1 = 0 → (B_X6_bestWay_29  Q ms (-1 : Int32) my mw ml mo gm gs ga gg gb gu gh gk gl)) ∧ (¬ r_1 = 0 → (F_X6_isNumber v2 (fun r_3 => ((r_3 = 0 → (B_X6_bestWay_29  Q ms (-2 : Int32) my mw ml mo gm gs ga gg gb gu gh gk gl)) ∧ (¬ r_3 = 0 → (F_X6_best v1 v2 ms my mw ml mo gm gs ga gg gb gu gh gk gl (fun r_5 my_6 mw_7 ml_8 mo_9 gm_10 gs_11 ga_12 gg_13 gb_14 gu_15 gh_16 gk_17 gl_18 => (B_X6_bestWay_29  Q ms r_5 my_6 mw_7 ml_8 mo_9 gm_10 gs_11 ga_12 gg_13 gb_14 gu_15 gh_16 gk_17 gl_18)))))))))))
def F_X6_bestWay (v1 : Int32) (v2 : Int32) (ms : (Nat → Int32)) (my : (Nat → Int32)) (mw : (Nat → Int32)) (ml : (Nat → Int32)) (mo : (Nat → Int32)) (gm : Int32) (gs : Int32) (ga : Int32) (gg : Int32) (gb : Int32) (gu : Int32) (gh : Int32) (gk : Int32) (gl : Int32) (Q : Int32 → (Nat → Int32) → (Nat → Int32) → (Nat → Int32) → (Nat → Int32) → Int32 → Int32 → Int32 → Int32 → Int32 → Int32 → Int32 → Int32 → Int32 → Prop) : Prop := B_X6_bestWay_0 Q ms v1 v2 my mw ml mo gm gs ga gg gb gu gh gk gl
set_option maxHeartbeats 4000000 in
set_option maxRecDepth 100000 in
theorem t_B_X6_bestWay_29  {Q : Int32 → (Nat → Int32) → (Nat → Int32) → (Nat → Int32) → (Nat → Int32) → Int32 → Int32 → Int32 → Int32 → Int32 → Int32 → Int32 → Int32 → Int32 → Prop} (C : CxX p s m args c D (tysX cA) RX6 cX6_bestWay 3 wsX6_bestWay) (hrt9 : meth.sig.returnType = (some .int)) (hlk : meth.locks = false) (s0 : Int32) (my : (Nat → Int32)) (mw : (Nat → Int32)) (ml : (Nat → Int32)) (mo : (Nat → Int32)) (gm : Int32) (gs : Int32) (ga : Int32) (gg : Int32) (gb : Int32) (gu : Int32) (gh : Int32) (gk : Int32) (gl : Int32)  (h : B_X6_bestWay_29  Q ms s0 my mw ml mo gm gs ga gg gb gu gh gk gl) : GoX p l e rmX6_bestWay s m args below meth c D A 3 0 0 (QP_X6_bestWay D A ad cA ms mb mt gn gt Q below args s) 29 [] [.int s0] (WM ad cA ms mb my mt mw ml mo gm gs ga gg gb gu gh gk gl gn gt) := by
  replace h : (Q s0 my mw ml mo gm gs ga gg gb gu gh gk gl) := h
  exact g_iret C hrt9 hlk (u := (my, mw, ml, mo, gm, gs, ga, gg, gb, gu, gh, gk, gl)) rfl h dX6_bestWay_29
set_option maxHeartbeats 4000000 in
set_option maxRecDepth 100000 in
theorem t_B_X6_bestWay_0  {Q : Int32 → (Nat → Int32) → (Nat → Int32) → (Nat → Int32) → (Nat → Int32) → Int32 → Int32 → Int32 → Int32 → Int32 → Int32 → Int32 → Int32 → Int32 → Prop} (C : CxX p s m args c D (tysX cA) RX6 cX6_bestWay 3 wsX6_bestWay) (hrt9 : meth.sig.returnType = (some .int)) (hlk : meth.locks = false) (v1 : Int32) (v2 : Int32) (my : (Nat → Int32)) (mw : (Nat → Int32)) (ml : (Nat → Int32)) (mo : (Nat → Int32)) (gm : Int32) (gs : Int32) (ga : Int32) (gg : Int32) (gb : Int32) (gu : Int32) (gh : Int32) (gk : Int32) (gl : Int32)  (h : B_X6_bestWay_0  Q ms v1 v2 my mw ml mo gm gs ga gg gb gu gh gk gl) : GoX p l e rmX6_bestWay s m args below meth c D A 3 0 0 (QP_X6_bestWay D A ad cA ms mb mt gn gt Q below args s) 0 [(0, .ref (ad 0)), (1, .int v1), (2, .int v2)] [] (WM ad cA ms mb my mt mw ml mo gm gs ga gg gb gu gh gk gl gn gt) := by
  replace h : (F_X6_isHearer v1 (fun r_1 => ((r_1 = 0 → (B_X6_bestWay_29  Q ms (-1 : Int32) my mw ml mo gm gs ga gg gb gu gh gk gl)) ∧ (¬ r_1 = 0 → (F_X6_isNumber v2 (fun r_3 => ((r_3 = 0 → (B_X6_bestWay_29  Q ms (-2 : Int32) my mw ml mo gm gs ga gg gb gu gh gk gl)) ∧ (¬ r_3 = 0 → (F_X6_best v1 v2 ms my mw ml mo gm gs ga gg gb gu gh gk gl (fun r_5 my_6 mw_7 ml_8 mo_9 gm_10 gs_11 ga_12 gg_13 gb_14 gu_15 gh_16 gk_17 gl_18 => (B_X6_bestWay_29  Q ms r_5 my_6 mw_7 ml_8 mo_9 gm_10 gs_11 ga_12 gg_13 gb_14 gu_15 gh_16 gk_17 gl_18))))))))))) := h
  refine g_iload_n C 1 dX6_bestWay_0 rfl rfl ?_
  refine k_X6_isHearer C gX6_bestWay_X6_isHearer ⟨Nat.le_of_ble_eq_true rfl, Nat.le_of_ble_eq_true rfl⟩ (Nat.le_of_ble_eq_true rfl) dX6_bestWay_1  h (fun r_1 h => ?_)
  refine g_if_ne C 11 dX6_bestWay_4 (by decide) (fun c_2 => ?_) (fun c_2 => ?_)
  · replace h := h.2 c_2
    refine g_iload_n C 2 dX6_bestWay_11 rfl rfl ?_
    refine k_X6_isNumber C gX6_bestWay_X6_isNumber ⟨Nat.le_of_ble_eq_true rfl, Nat.le_of_ble_eq_true rfl⟩ (Nat.le_of_ble_eq_true rfl) dX6_bestWay_12  h (fun r_3 h => ?_)
    refine g_if_eq C 27 dX6_bestWay_15 (by decide) (fun c_4 => ?_) (fun c_4 => ?_)
    · replace h := h.1 c_4
      refine g_bipush C (-2 : Int32) dX6_bestWay_27 (by decide) ?_
      exact g_sub [] rfl (t_B_X6_bestWay_29 C hrt9 hlk  (-2 : Int32) my mw ml mo gm gs ga gg gb gu gh gk gl  h)
    · replace h := h.2 c_4
      refine g_aload_n C 0 dX6_bestWay_18 rfl rfl ?_
      refine g_iload_n C 1 dX6_bestWay_19 rfl rfl ?_
      refine g_iload_n C 2 dX6_bestWay_20 rfl rfl ?_
      refine k_X6_best C gX6_bestWay_X6_best ⟨Nat.le_of_ble_eq_true rfl, Nat.le_of_ble_eq_true rfl⟩ (Nat.le_of_ble_eq_true rfl) dX6_bestWay_21  h (fun r_5 my_6 mw_7 ml_8 mo_9 gm_10 gs_11 ga_12 gg_13 gb_14 gu_15 gh_16 gk_17 gl_18 h => ?_)
      refine g_goto C 29 dX6_bestWay_24 (by decide) ?_
      exact g_sub [] rfl (t_B_X6_bestWay_29 C hrt9 hlk  r_5 my_6 mw_7 ml_8 mo_9 gm_10 gs_11 ga_12 gg_13 gb_14 gu_15 gh_16 gk_17 gl_18  h)
  · replace h := h.1 c_2
    refine g_iconst C (-1 : Int32) dX6_bestWay_7 (by decide) ?_
    refine g_goto C 29 dX6_bestWay_8 (by decide) ?_
    exact g_sub [] rfl (t_B_X6_bestWay_29 C hrt9 hlk  (-1 : Int32) my mw ml mo gm gs ga gg gb gu gh gk gl  h)
theorem c_X6_bestWay (l : Launch) (D : va_G) (A : Nat → Prop) (ad : Nat → Nat) (cA : Nat → ClassId) (v1 : Int32) (v2 : Int32) {ms : (Nat → Int32)} {mb : (Nat → Int32)} {my : (Nat → Int32)} {mt : (Nat → Int32)} {mw : (Nat → Int32)} {ml : (Nat → Int32)} {mo : (Nat → Int32)} {gm : Int32} {gs : Int32} {ga : Int32} {gg : Int32} {gb : Int32} {gu : Int32} {gh : Int32} {gk : Int32} {gl : Int32} {gn : Int32} {gt : Int32}  (Q : Int32 → (Nat → Int32) → (Nat → Int32) → (Nat → Int32) → (Nat → Int32) → Int32 → Int32 → Int32 → Int32 → Int32 → Int32 → Int32 → Int32 → Int32 → Prop) (h : F_X6_bestWay v1 v2 ms my mw ml mo gm gs ga gg gb gu gh gk gl Q) : Met l yX6_bestWay wsX6_bestWay rmX6_bestWay (va_Pc [.ref (ad 0), .int v1, .int v2] (OKX D (tysX cA) (WM ad cA ms mb my mt mw ml mo gm gs ga gg gb gu gh gk gl gn gt) A)) (QC_X6_bestWay D A ad cA ms mb mt gn gt Q) 0 0 A :=
  g_met (own := RX6) (by decide) rfl rfl (Nat.le_of_ble_eq_true rfl) (fun p e s m below meth c C hrt9 hlk _ => g_sub [0, 1, 2] rfl (t_B_X6_bestWay_0 C hrt9 hlk v1 v2 my mw ml mo gm gs ga gg gb gu gh gk gl  h))
theorem k_X6_bestWay {ws : List Cond} {own : String} {cc : ByteArray} {nL pc index : Nat} {lv : List (Nat × Value)} {st : List Value} {Q : State → Prop} {R : Room} {K : Int32 → (Nat → Int32) → (Nat → Int32) → (Nat → Int32) → (Nat → Int32) → Int32 → Int32 → Int32 → Int32 → Int32 → Int32 → Int32 → Int32 → Int32 → Prop} {v1 : Int32} {v2 : Int32} (C : CxX p s m args c D (tysX cA) own cc nL ws) (hT : GoodIn ws (wsV own index RX6 yX6_bestWay wsX6_bestWay)) (hR : rmX6_bestWay.frames + 1 ≤ R.frames ∧ 8 + (3 + 11) + rmX6_bestWay.locals ≤ R.locals) (hcat : (st.map fun v => v.category).sum ≤ 8) (hdg : decode cc pc = .ok (.invokevirtual index, 3))  (h : F_X6_bestWay v1 v2 ms my mw ml mo gm gs ga gg gb gu gh gk gl K) (kk : ∀ (r : Int32) (myq : (Nat → Int32)) (mwq : (Nat → Int32)) (mlq : (Nat → Int32)) (moq : (Nat → Int32)) (gmq : Int32) (gsq : Int32) (gaq : Int32) (ggq : Int32) (gbq : Int32) (guq : Int32) (ghq : Int32) (gkq : Int32) (glq : Int32), K r myq mwq mlq moq gmq gsq gaq ggq gbq guq ghq gkq glq → GoX p l e R s m args below meth c D A nL 0 0 Q (pc + 3) lv (.int r :: st) (WM ad cA ms mb myq mt mwq mlq moq gmq gsq gaq ggq gbq guq ghq gkq glq gn gt)) : GoX p l e R s m args below meth c D A nL 0 0 Q pc lv (.int v2 :: .int v1 :: .ref (ad 0) :: st) (WM ad cA ms mb my mt mw ml mo gm gs ga gg gb gu gh gk gl gn gt) :=
  g_callVi C (As := [.int v1, .int v2]) 2 (c_X6_bestWay l D A ad cA v1 v2  K h) hT rfl rfl rfl (by decide +kernel) hR 0 WMg0 rfl rfl rfl hcat hdg (fun r u hu => kk r u.1 u.2.1 u.2.2.1 u.2.2.2.1 u.2.2.2.2.1 u.2.2.2.2.2.1 u.2.2.2.2.2.2.1 u.2.2.2.2.2.2.2.1 u.2.2.2.2.2.2.2.2.1 u.2.2.2.2.2.2.2.2.2.1 u.2.2.2.2.2.2.2.2.2.2.1 u.2.2.2.2.2.2.2.2.2.2.2.1 u.2.2.2.2.2.2.2.2.2.2.2.2 hu)
/-! X6_reached -/
abbrev rmX6_reached : Room := { frames := 10, cells := 0, slots := 0, locals := 213 }
abbrev QC_X6_reached (D : va_G) (A : Nat → Prop) (ad : Nat → Nat) (cA : Nat → ClassId) (ms : (Nat → Int32)) (mb : (Nat → Int32)) (mt : (Nat → Int32)) (mw : (Nat → Int32)) (ml : (Nat → Int32)) (mo : (Nat → Int32)) (gm : Int32) (gn : Int32) (gt : Int32) (Q : Int32 → (Nat → Int32) → Int32 → Int32 → Int32 → Int32 → Int32 → Int32 → Int32 → Int32 → Prop) : Array Value → State → Outcome → State → Prop := va_Qi (fun (r : Int32) (u : (Nat → Int32) × Int32 × Int32 × Int32 × Int32 × Int32 × Int32 × Int32 × Int32) => Q r u.1 u.2.1 u.2.2.1 u.2.2.2.1 u.2.2.2.2.1 u.2.2.2.2.2.1 u.2.2.2.2.2.2.1 u.2.2.2.2.2.2.2.1 u.2.2.2.2.2.2.2.2) (fun u t => OKX D (tysX cA) ((fun u : (Nat → Int32) × Int32 × Int32 × Int32 × Int32 × Int32 × Int32 × Int32 × Int32 => WM ad cA ms mb u.1 mt mw ml mo gm u.2.1 u.2.2.1 u.2.2.2.1 u.2.2.2.2.1 u.2.2.2.2.2.1 u.2.2.2.2.2.2.1 u.2.2.2.2.2.2.2.1 u.2.2.2.2.2.2.2.2 gn gt) u) A t) A
abbrev QP_X6_reached (D : va_G) (A : Nat → Prop) (ad : Nat → Nat) (cA : Nat → ClassId) (ms : (Nat → Int32)) (mb : (Nat → Int32)) (mt : (Nat → Int32)) (mw : (Nat → Int32)) (ml : (Nat → Int32)) (mo : (Nat → Int32)) (gm : Int32) (gn : Int32) (gt : Int32) (Q : Int32 → (Nat → Int32) → Int32 → Int32 → Int32 → Int32 → Int32 → Int32 → Int32 → Int32 → Prop) (below : List Frame) (args : Array Value) (s : State) : State → Prop := MQ below (QC_X6_reached D A ad cA ms mb mt mw ml mo gm gn gt Q) args s 0 0 A
def B_X6_reached_37 (kh12 : Int32 → Int32 → Int32 → Int32 → (Nat → Int32) → Int32 → Int32 → Int32 → Int32 → Int32 → Int32 → Int32 → Int32 → Prop) (Q : Int32 → (Nat → Int32) → Int32 → Int32 → Int32 → Int32 → Int32 → Int32 → Int32 → Int32 → Prop) (ms : (Nat → Int32)) (mw : (Nat → Int32)) (ml : (Nat → Int32)) (mo : (Nat → Int32)) (v2 : Int32) (v3 : Int32) (v5 : Int32) (s0 : Int32) (s1 : Int32) (my : (Nat → Int32)) (gs : Int32) (ga : Int32) (gg : Int32) (gb : Int32) (gu : Int32) (gh : Int32) (gk : Int32) (gl : Int32) : Prop := (kh12 v2 v3 (s0 + s1) (v5 + (1 : Int32)) my gs ga gg gb gu gh gk gl)
noncomputable def L_X6_reached_12  (Q : Int32 → (Nat → Int32) → Int32 → Int32 → Int32 → Int32 → Int32 → Int32 → Int32 → Int32 → Prop) (ms : (Nat → Int32)) (mw : (Nat → Int32)) (ml : (Nat → Int32)) (mo : (Nat → Int32)) (n9 : Nat) : Int32 → Int32 → Int32 → Int32 → (Nat → Int32) → Int32 → Int32 → Int32 → Int32 → Int32 → Int32 → Int32 → Int32 → Prop := Nat.rec (motive := fun _ => Int32 → Int32 → Int32 → Int32 → (Nat → Int32) → Int32 → Int32 → Int32 → Int32 → Int32 → Int32 → Int32 → Int32 → Prop) (fun _ _ _ _ _ _ _ _ _ _ _ _ _ => False) (fun _ kh12 => fun v2 v3 v4 v5 my gs ga gg gb gu gh gk gl => (((6 : Int32) ≤ v5 → (Q v4 my gs ga gg gb gu gh gk gl)) ∧ (¬ (6 : Int32) ≤ v5 → (F_X6_understands v5 v3 ms my gs ga gg gb gu gh gk gl (fun r_2 gs_3 ga_4 gg_5 gb_6 gu_7 gh_8 gk_9 gl_10 => ((r_2 = v2 → (B_X6_reached_37 kh12 Q ms mw ml mo v2 v3 v5 v4 (1 : Int32) my gs_3 ga_4 gg_5 gb_6 gu_7 gh_8 gk_9 gl_10)) ∧ (¬ r_2 = v2 → (B_X6_reached_37 kh12 Q ms mw ml mo v2 v3 v5 v4 (0 : Int32) my gs_3 ga_4 gg_5 gb_6 gu_7 gh_8 gk_9 gl_10)))))))) n9
def B_X6_reached_0  (Q : Int32 → (Nat → Int32) → Int32 → Int32 → Int32 → Int32 → Int32 → Int32 → Int32 → Int32 → Prop) (ms : (Nat → Int32)) (mw : (Nat → Int32)) (ml : (Nat → Int32)) (mo : (Nat → Int32)) (v1 : Int32) (v2 : Int32) (my : (Nat → Int32)) (gs : Int32) (ga : Int32) (gg : Int32) (gb : Int32) (gu : Int32) (gh : Int32) (gk : Int32) (gl : Int32) : Prop := (F_X6_says v1 mw ml mo my (fun r_12 my_13 => (∃ n9 : Nat, L_X6_reached_12  Q ms mw ml mo n9 v2 r_12 (0 : Int32) (0 : Int32) my_13 gs ga gg gb gu gh gk gl)))
def F_X6_reached (v1 : Int32) (v2 : Int32) (ms : (Nat → Int32)) (mw : (Nat → Int32)) (ml : (Nat → Int32)) (mo : (Nat → Int32)) (my : (Nat → Int32)) (gs : Int32) (ga : Int32) (gg : Int32) (gb : Int32) (gu : Int32) (gh : Int32) (gk : Int32) (gl : Int32) (Q : Int32 → (Nat → Int32) → Int32 → Int32 → Int32 → Int32 → Int32 → Int32 → Int32 → Int32 → Prop) : Prop := B_X6_reached_0 Q ms mw ml mo v1 v2 my gs ga gg gb gu gh gk gl
set_option maxHeartbeats 4000000 in
set_option maxRecDepth 100000 in
theorem t_B_X6_reached_37 {kh12 : Int32 → Int32 → Int32 → Int32 → (Nat → Int32) → Int32 → Int32 → Int32 → Int32 → Int32 → Int32 → Int32 → Int32 → Prop} {Q : Int32 → (Nat → Int32) → Int32 → Int32 → Int32 → Int32 → Int32 → Int32 → Int32 → Int32 → Prop} (C : CxX p s m args c D (tysX cA) RX6 cX6_reached 6 wsX6_reached) (hrt9 : meth.sig.returnType = (some .int)) (hlk : meth.locks = false) (Hk12 : ∀ (v2q : Int32) (v3q : Int32) (v4q : Int32) (v5q : Int32) (myq : (Nat → Int32)) (gsq : Int32) (gaq : Int32) (ggq : Int32) (gbq : Int32) (guq : Int32) (ghq : Int32) (gkq : Int32) (glq : Int32) , kh12 v2q v3q v4q v5q myq gsq gaq ggq gbq guq ghq gkq glq → GoX p l e rmX6_reached s m args below meth c D A 6 0 0 (QP_X6_reached D A ad cA ms mb mt mw ml mo gm gn gt Q below args s) 12 [(0, .ref (ad 0)), (2, .int v2q), (3, .int v3q), (4, .int v4q), (5, .int v5q)] [] (WM ad cA ms mb myq mt mw ml mo gm gsq gaq ggq gbq guq ghq gkq glq gn gt)) (v2 : Int32) (v3 : Int32) (v5 : Int32) (s0 : Int32) (s1 : Int32) (my : (Nat → Int32)) (gs : Int32) (ga : Int32) (gg : Int32) (gb : Int32) (gu : Int32) (gh : Int32) (gk : Int32) (gl : Int32)  (h : B_X6_reached_37 kh12 Q ms mw ml mo v2 v3 v5 s0 s1 my gs ga gg gb gu gh gk gl) : GoX p l e rmX6_reached s m args below meth c D A 6 0 0 (QP_X6_reached D A ad cA ms mb mt mw ml mo gm gn gt Q below args s) 37 [(0, .ref (ad 0)), (2, .int v2), (3, .int v3), (5, .int v5)] [.int s1, .int s0] (WM ad cA ms mb my mt mw ml mo gm gs ga gg gb gu gh gk gl gn gt) := by
  replace h : (kh12 v2 v3 (s0 + s1) (v5 + (1 : Int32)) my gs ga gg gb gu gh gk gl) := h
  refine g_iadd C dX6_reached_37 ?_
  refine g_istore C (lv2 := [(4, .int (s0 + s1)), (0, .ref (ad 0)), (2, .int v2), (3, .int v3), (5, .int v5)]) dX6_reached_38 (by decide) rfl ?_
  refine g_iinc C (v := (v5 + (1 : Int32))) (lv2 := [(5, .int (v5 + (1 : Int32))), (4, .int (s0 + s1)), (0, .ref (ad 0)), (2, .int v2), (3, .int v3)]) 4 dX6_reached_40 rfl rfl (by decide) rfl ?_
  refine g_goto C 12 dX6_reached_43 (by decide) ?_
  exact g_sub [2, 3, 4, 1, 0] rfl (Hk12 v2 v3 (s0 + s1) (v5 + (1 : Int32)) my gs ga gg gb gu gh gk gl  h)
set_option maxHeartbeats 4000000 in
set_option maxRecDepth 100000 in
theorem t_L_X6_reached_12  {Q : Int32 → (Nat → Int32) → Int32 → Int32 → Int32 → Int32 → Int32 → Int32 → Int32 → Int32 → Prop} (C : CxX p s m args c D (tysX cA) RX6 cX6_reached 6 wsX6_reached) (hrt9 : meth.sig.returnType = (some .int)) (hlk : meth.locks = false) (m9 : Nat) : ∀ (v2 : Int32) (v3 : Int32) (v4 : Int32) (v5 : Int32) (my : (Nat → Int32)) (gs : Int32) (ga : Int32) (gg : Int32) (gb : Int32) (gu : Int32) (gh : Int32) (gk : Int32) (gl : Int32) , L_X6_reached_12  Q ms mw ml mo m9 v2 v3 v4 v5 my gs ga gg gb gu gh gk gl → GoX p l e rmX6_reached s m args below meth c D A 6 0 0 (QP_X6_reached D A ad cA ms mb mt mw ml mo gm gn gt Q below args s) 12 [(0, .ref (ad 0)), (2, .int v2), (3, .int v3), (4, .int v4), (5, .int v5)] [] (WM ad cA ms mb my mt mw ml mo gm gs ga gg gb gu gh gk gl gn gt) := by
  induction m9 with
  | zero =>
    intro v2 v3 v4 v5 my gs ga gg gb gu gh gk gl h
    exact False.elim h
  | succ m9 Hk12 =>
    intro v2 v3 v4 v5 my gs ga gg gb gu gh gk gl h
    replace h : (((6 : Int32) ≤ v5 → (Q v4 my gs ga gg gb gu gh gk gl)) ∧ (¬ (6 : Int32) ≤ v5 → (F_X6_understands v5 v3 ms my gs ga gg gb gu gh gk gl (fun r_2 gs_3 ga_4 gg_5 gb_6 gu_7 gh_8 gk_9 gl_10 => ((r_2 = v2 → (B_X6_reached_37 (L_X6_reached_12  Q ms mw ml mo m9) Q ms mw ml mo v2 v3 v5 v4 (1 : Int32) my gs_3 ga_4 gg_5 gb_6 gu_7 gh_8 gk_9 gl_10)) ∧ (¬ r_2 = v2 → (B_X6_reached_37 (L_X6_reached_12  Q ms mw ml mo m9) Q ms mw ml mo v2 v3 v5 v4 (0 : Int32) my gs_3 ga_4 gg_5 gb_6 gu_7 gh_8 gk_9 gl_10))))))) := h
    refine g_iload C 4 dX6_reached_12 rfl ?_
    refine g_bipush C (6 : Int32) dX6_reached_14 (by decide) ?_
    refine g_icmp_ge C 46 dX6_reached_16 (by decide) (fun c_1 => ?_) (fun c_1 => ?_)
    · replace h := h.1 c_1
      refine g_iload C 3 dX6_reached_46 rfl ?_
      exact g_iret C hrt9 hlk (u := (my, gs, ga, gg, gb, gu, gh, gk, gl)) rfl h dX6_reached_48
    · replace h := h.2 c_1
      refine g_iload C 3 dX6_reached_19 rfl ?_
      refine g_aload_n C 0 dX6_reached_21 rfl rfl ?_
      refine g_iload C 4 dX6_reached_22 rfl ?_
      refine g_iload_n C 2 dX6_reached_24 rfl rfl ?_
      refine k_X6_understands C gX6_reached_X6_understands ⟨Nat.le_of_ble_eq_true rfl, Nat.le_of_ble_eq_true rfl⟩ (Nat.le_of_ble_eq_true rfl) dX6_reached_25  h (fun r_2 gs_3 ga_4 gg_5 gb_6 gu_7 gh_8 gk_9 gl_10 h => ?_)
      refine g_iload_n C 1 dX6_reached_28 rfl rfl ?_
      refine g_icmp_ne C 36 dX6_reached_29 (by decide) (fun c_11 => ?_) (fun c_11 => ?_)
      · replace h := h.2 c_11
        refine g_iconst C (0 : Int32) dX6_reached_36 (by decide) ?_
        exact g_sub [0, 1, 2, 4] rfl (t_B_X6_reached_37 C hrt9 hlk Hk12 v2 v3 v5 v4 (0 : Int32) my gs_3 ga_4 gg_5 gb_6 gu_7 gh_8 gk_9 gl_10  h)
      · replace h := h.1 c_11
        refine g_iconst C (1 : Int32) dX6_reached_32 (by decide) ?_
        refine g_goto C 37 dX6_reached_33 (by decide) ?_
        exact g_sub [0, 1, 2, 4] rfl (t_B_X6_reached_37 C hrt9 hlk Hk12 v2 v3 v5 v4 (1 : Int32) my gs_3 ga_4 gg_5 gb_6 gu_7 gh_8 gk_9 gl_10  h)
set_option maxHeartbeats 4000000 in
set_option maxRecDepth 100000 in
theorem t_B_X6_reached_0  {Q : Int32 → (Nat → Int32) → Int32 → Int32 → Int32 → Int32 → Int32 → Int32 → Int32 → Int32 → Prop} (C : CxX p s m args c D (tysX cA) RX6 cX6_reached 6 wsX6_reached) (hrt9 : meth.sig.returnType = (some .int)) (hlk : meth.locks = false) (v1 : Int32) (v2 : Int32) (my : (Nat → Int32)) (gs : Int32) (ga : Int32) (gg : Int32) (gb : Int32) (gu : Int32) (gh : Int32) (gk : Int32) (gl : Int32)  (h : B_X6_reached_0  Q ms mw ml mo v1 v2 my gs ga gg gb gu gh gk gl) : GoX p l e rmX6_reached s m args below meth c D A 6 0 0 (QP_X6_reached D A ad cA ms mb mt mw ml mo gm gn gt Q below args s) 0 [(0, .ref (ad 0)), (1, .int v1), (2, .int v2)] [] (WM ad cA ms mb my mt mw ml mo gm gs ga gg gb gu gh gk gl gn gt) := by
  replace h : (F_X6_says v1 mw ml mo my (fun r_12 my_13 => (∃ n9 : Nat, L_X6_reached_12  Q ms mw ml mo n9 v2 r_12 (0 : Int32) (0 : Int32) my_13 gs ga gg gb gu gh gk gl))) := h
  refine g_aload_n C 0 dX6_reached_0 rfl rfl ?_
  refine g_iload_n C 1 dX6_reached_1 rfl rfl ?_
  refine k_X6_says C gX6_reached_X6_says ⟨Nat.le_of_ble_eq_true rfl, Nat.le_of_ble_eq_true rfl⟩ (Nat.le_of_ble_eq_true rfl) dX6_reached_2  h (fun r_12 my_13 h => ?_)
  refine g_istore_n C (lv2 := [(3, .int r_12), (0, .ref (ad 0)), (1, .int v1), (2, .int v2)]) dX6_reached_5 rfl (by decide) rfl ?_
  refine g_iconst C (0 : Int32) dX6_reached_6 (by decide) ?_
  refine g_istore C (lv2 := [(4, .int (0 : Int32)), (3, .int r_12), (0, .ref (ad 0)), (1, .int v1), (2, .int v2)]) dX6_reached_7 (by decide) rfl ?_
  refine g_iconst C (0 : Int32) dX6_reached_9 (by decide) ?_
  refine g_istore C (lv2 := [(5, .int (0 : Int32)), (4, .int (0 : Int32)), (3, .int r_12), (0, .ref (ad 0)), (1, .int v1), (2, .int v2)]) dX6_reached_10 (by decide) rfl ?_
  obtain ⟨n9, h⟩ := h
  exact g_sub [3, 5, 2, 1, 0] rfl (t_L_X6_reached_12 C hrt9 hlk  n9 v2 r_12 (0 : Int32) (0 : Int32) my_13 gs ga gg gb gu gh gk gl  h)
theorem c_X6_reached (l : Launch) (D : va_G) (A : Nat → Prop) (ad : Nat → Nat) (cA : Nat → ClassId) (v1 : Int32) (v2 : Int32) {ms : (Nat → Int32)} {mb : (Nat → Int32)} {my : (Nat → Int32)} {mt : (Nat → Int32)} {mw : (Nat → Int32)} {ml : (Nat → Int32)} {mo : (Nat → Int32)} {gm : Int32} {gs : Int32} {ga : Int32} {gg : Int32} {gb : Int32} {gu : Int32} {gh : Int32} {gk : Int32} {gl : Int32} {gn : Int32} {gt : Int32}  (Q : Int32 → (Nat → Int32) → Int32 → Int32 → Int32 → Int32 → Int32 → Int32 → Int32 → Int32 → Prop) (h : F_X6_reached v1 v2 ms mw ml mo my gs ga gg gb gu gh gk gl Q) : Met l yX6_reached wsX6_reached rmX6_reached (va_Pc [.ref (ad 0), .int v1, .int v2] (OKX D (tysX cA) (WM ad cA ms mb my mt mw ml mo gm gs ga gg gb gu gh gk gl gn gt) A)) (QC_X6_reached D A ad cA ms mb mt mw ml mo gm gn gt Q) 0 0 A :=
  g_met (own := RX6) (by decide) rfl rfl (Nat.le_of_ble_eq_true rfl) (fun p e s m below meth c C hrt9 hlk _ => g_sub [0, 1, 2] rfl (t_B_X6_reached_0 C hrt9 hlk v1 v2 my gs ga gg gb gu gh gk gl  h))
theorem k_X6_reached {ws : List Cond} {own : String} {cc : ByteArray} {nL pc index : Nat} {lv : List (Nat × Value)} {st : List Value} {Q : State → Prop} {R : Room} {K : Int32 → (Nat → Int32) → Int32 → Int32 → Int32 → Int32 → Int32 → Int32 → Int32 → Int32 → Prop} {v1 : Int32} {v2 : Int32} (C : CxX p s m args c D (tysX cA) own cc nL ws) (hT : GoodIn ws (wsV own index RX6 yX6_reached wsX6_reached)) (hR : rmX6_reached.frames + 1 ≤ R.frames ∧ 8 + (6 + 11) + rmX6_reached.locals ≤ R.locals) (hcat : (st.map fun v => v.category).sum ≤ 8) (hdg : decode cc pc = .ok (.invokevirtual index, 3))  (h : F_X6_reached v1 v2 ms mw ml mo my gs ga gg gb gu gh gk gl K) (kk : ∀ (r : Int32) (myq : (Nat → Int32)) (gsq : Int32) (gaq : Int32) (ggq : Int32) (gbq : Int32) (guq : Int32) (ghq : Int32) (gkq : Int32) (glq : Int32), K r myq gsq gaq ggq gbq guq ghq gkq glq → GoX p l e R s m args below meth c D A nL 0 0 Q (pc + 3) lv (.int r :: st) (WM ad cA ms mb myq mt mw ml mo gm gsq gaq ggq gbq guq ghq gkq glq gn gt)) : GoX p l e R s m args below meth c D A nL 0 0 Q pc lv (.int v2 :: .int v1 :: .ref (ad 0) :: st) (WM ad cA ms mb my mt mw ml mo gm gs ga gg gb gu gh gk gl gn gt) :=
  g_callVi C (As := [.int v1, .int v2]) 2 (c_X6_reached l D A ad cA v1 v2  K h) hT rfl rfl rfl (by decide +kernel) hR 0 WMg0 rfl rfl rfl hcat hdg (fun r u hu => kk r u.1 u.2.1 u.2.2.1 u.2.2.2.1 u.2.2.2.2.1 u.2.2.2.2.2.1 u.2.2.2.2.2.2.1 u.2.2.2.2.2.2.2.1 u.2.2.2.2.2.2.2.2 hu)
/-! X6_commonWay -/
abbrev rmX6_commonWay : Room := { frames := 11, cells := 0, slots := 0, locals := 238 }
abbrev QC_X6_commonWay (D : va_G) (A : Nat → Prop) (ad : Nat → Nat) (cA : Nat → ClassId) (ms : (Nat → Int32)) (mb : (Nat → Int32)) (mt : (Nat → Int32)) (gn : Int32) (gt : Int32) (Q : Int32 → (Nat → Int32) → (Nat → Int32) → (Nat → Int32) → (Nat → Int32) → Int32 → Int32 → Int32 → Int32 → Int32 → Int32 → Int32 → Int32 → Int32 → Prop) : Array Value → State → Outcome → State → Prop := va_Qi (fun (r : Int32) (u : (Nat → Int32) × (Nat → Int32) × (Nat → Int32) × (Nat → Int32) × Int32 × Int32 × Int32 × Int32 × Int32 × Int32 × Int32 × Int32 × Int32) => Q r u.1 u.2.1 u.2.2.1 u.2.2.2.1 u.2.2.2.2.1 u.2.2.2.2.2.1 u.2.2.2.2.2.2.1 u.2.2.2.2.2.2.2.1 u.2.2.2.2.2.2.2.2.1 u.2.2.2.2.2.2.2.2.2.1 u.2.2.2.2.2.2.2.2.2.2.1 u.2.2.2.2.2.2.2.2.2.2.2.1 u.2.2.2.2.2.2.2.2.2.2.2.2) (fun u t => OKX D (tysX cA) ((fun u : (Nat → Int32) × (Nat → Int32) × (Nat → Int32) × (Nat → Int32) × Int32 × Int32 × Int32 × Int32 × Int32 × Int32 × Int32 × Int32 × Int32 => WM ad cA ms mb u.1 mt u.2.1 u.2.2.1 u.2.2.2.1 u.2.2.2.2.1 u.2.2.2.2.2.1 u.2.2.2.2.2.2.1 u.2.2.2.2.2.2.2.1 u.2.2.2.2.2.2.2.2.1 u.2.2.2.2.2.2.2.2.2.1 u.2.2.2.2.2.2.2.2.2.2.1 u.2.2.2.2.2.2.2.2.2.2.2.1 u.2.2.2.2.2.2.2.2.2.2.2.2 gn gt) u) A t) A
abbrev QP_X6_commonWay (D : va_G) (A : Nat → Prop) (ad : Nat → Nat) (cA : Nat → ClassId) (ms : (Nat → Int32)) (mb : (Nat → Int32)) (mt : (Nat → Int32)) (gn : Int32) (gt : Int32) (Q : Int32 → (Nat → Int32) → (Nat → Int32) → (Nat → Int32) → (Nat → Int32) → Int32 → Int32 → Int32 → Int32 → Int32 → Int32 → Int32 → Int32 → Int32 → Prop) (below : List Frame) (args : Array Value) (s : State) : State → Prop := MQ below (QC_X6_commonWay D A ad cA ms mb mt gn gt Q) args s 0 0 A
def B_X6_commonWay_65 (kh22 : Int32 → Int32 → Int32 → Int32 → (Nat → Int32) → (Nat → Int32) → (Nat → Int32) → (Nat → Int32) → Int32 → Int32 → Int32 → Int32 → Int32 → Int32 → Int32 → Int32 → Int32 → Prop) (Q : Int32 → (Nat → Int32) → (Nat → Int32) → (Nat → Int32) → (Nat → Int32) → Int32 → Int32 → Int32 → Int32 → Int32 → Int32 → Int32 → Int32 → Int32 → Prop) (ms : (Nat → Int32)) (v1 : Int32) (v2 : Int32) (v4 : Int32) (s0 : Int32) (my : (Nat → Int32)) (mw : (Nat → Int32)) (ml : (Nat → Int32)) (mo : (Nat → Int32)) (gm : Int32) (gs : Int32) (ga : Int32) (gg : Int32) (gb : Int32) (gu : Int32) (gh : Int32) (gk : Int32) (gl : Int32) : Prop := (kh22 v1 v2 s0 (v4 + (1 : Int32)) my mw ml mo gm gs ga gg gb gu gh gk gl)
def B_X6_commonWay_52 (kh22 : Int32 → Int32 → Int32 → Int32 → (Nat → Int32) → (Nat → Int32) → (Nat → Int32) → (Nat → Int32) → Int32 → Int32 → Int32 → Int32 → Int32 → Int32 → Int32 → Int32 → Int32 → Prop) (Q : Int32 → (Nat → Int32) → (Nat → Int32) → (Nat → Int32) → (Nat → Int32) → Int32 → Int32 → Int32 → Int32 → Int32 → Int32 → Int32 → Int32 → Int32 → Prop) (ms : (Nat → Int32)) (v1 : Int32) (v3 : Int32) (v4 : Int32) (v5 : Int32) (s0 : Int32) (my : (Nat → Int32)) (mw : (Nat → Int32)) (ml : (Nat → Int32)) (mo : (Nat → Int32)) (gm : Int32) (gs : Int32) (ga : Int32) (gg : Int32) (gb : Int32) (gu : Int32) (gh : Int32) (gk : Int32) (gl : Int32) : Prop := ((v5 ≤ v3 → (B_X6_commonWay_65 kh22 Q ms v1 s0 v4 v3 my mw ml mo gm gs ga gg gb gu gh gk gl)) ∧ (¬ v5 ≤ v3 → (B_X6_commonWay_65 kh22 Q ms v1 s0 v4 v5 my mw ml mo gm gs ga gg gb gu gh gk gl)))
noncomputable def L_X6_commonWay_22  (Q : Int32 → (Nat → Int32) → (Nat → Int32) → (Nat → Int32) → (Nat → Int32) → Int32 → Int32 → Int32 → Int32 → Int32 → Int32 → Int32 → Int32 → Int32 → Prop) (ms : (Nat → Int32)) (n9 : Nat) : Int32 → Int32 → Int32 → Int32 → (Nat → Int32) → (Nat → Int32) → (Nat → Int32) → (Nat → Int32) → Int32 → Int32 → Int32 → Int32 → Int32 → Int32 → Int32 → Int32 → Int32 → Prop := Nat.rec (motive := fun _ => Int32 → Int32 → Int32 → Int32 → (Nat → Int32) → (Nat → Int32) → (Nat → Int32) → (Nat → Int32) → Int32 → Int32 → Int32 → Int32 → Int32 → Int32 → Int32 → Int32 → Int32 → Prop) (fun _ _ _ _ _ _ _ _ _ _ _ _ _ _ _ _ _ => False) (fun _ kh22 => fun v1 v2 v3 v4 my mw ml mo gm gs ga gg gb gu gh gk gl => ((gm ≤ v4 → (Q v2 my mw ml mo gm gs ga gg gb gu gh gk gl)) ∧ (¬ gm ≤ v4 → (F_X6_reached v4 v1 ms mw ml mo my gs ga gg gb gu gh gk gl (fun r_3 my_4 gs_5 ga_6 gg_7 gb_8 gu_9 gh_10 gk_11 gl_12 => ((r_3 ≤ v3 → (B_X6_commonWay_52 kh22 Q ms v1 v3 v4 r_3 v2 my_4 mw ml mo gm gs_5 ga_6 gg_7 gb_8 gu_9 gh_10 gk_11 gl_12)) ∧ (¬ r_3 ≤ v3 → (B_X6_commonWay_52 kh22 Q ms v1 v3 v4 r_3 v4 my_4 mw ml mo gm gs_5 ga_6 gg_7 gb_8 gu_9 gh_10 gk_11 gl_12)))))))) n9
def B_X6_commonWay_0  (Q : Int32 → (Nat → Int32) → (Nat → Int32) → (Nat → Int32) → (Nat → Int32) → Int32 → Int32 → Int32 → Int32 → Int32 → Int32 → Int32 → Int32 → Int32 → Prop) (ms : (Nat → Int32)) (v1 : Int32) (my : (Nat → Int32)) (mw : (Nat → Int32)) (ml : (Nat → Int32)) (mo : (Nat → Int32)) (gm : Int32) (gs : Int32) (ga : Int32) (gg : Int32) (gb : Int32) (gu : Int32) (gh : Int32) (gk : Int32) (gl : Int32) : Prop := (F_X6_isNumber v1 (fun r_14 => ((r_14 = 0 → (Q (-2 : Int32) my mw ml mo gm gs ga gg gb gu gh gk gl)) ∧ (¬ r_14 = 0 → (F_X6_makes v1 mw ml mo gm (fun mw_16 ml_17 mo_18 gm_19 => (∃ n9 : Nat, L_X6_commonWay_22  Q ms n9 v1 (0 : Int32) (-1 : Int32) (0 : Int32) my mw_16 ml_17 mo_18 gm_19 gs ga gg gb gu gh gk gl)))))))
def F_X6_commonWay (v1 : Int32) (ms : (Nat → Int32)) (my : (Nat → Int32)) (mw : (Nat → Int32)) (ml : (Nat → Int32)) (mo : (Nat → Int32)) (gm : Int32) (gs : Int32) (ga : Int32) (gg : Int32) (gb : Int32) (gu : Int32) (gh : Int32) (gk : Int32) (gl : Int32) (Q : Int32 → (Nat → Int32) → (Nat → Int32) → (Nat → Int32) → (Nat → Int32) → Int32 → Int32 → Int32 → Int32 → Int32 → Int32 → Int32 → Int32 → Int32 → Prop) : Prop := B_X6_commonWay_0 Q ms v1 my mw ml mo gm gs ga gg gb gu gh gk gl
theorem lkX6_commonWay_107 : Cond.fieldLink RX6 107 (TX6 7).1 (TX6 7).2.1 (TX6 7).2.2.1 ∈ wsX6_commonWay := by decide +kernel
theorem inX6_commonWay_6 : ∀ q ∈ u_ws RX6 TX6 18, q ∈ wsX6_commonWay := by decide +kernel
set_option maxHeartbeats 4000000 in
set_option maxRecDepth 100000 in
theorem t_B_X6_commonWay_65 {kh22 : Int32 → Int32 → Int32 → Int32 → (Nat → Int32) → (Nat → Int32) → (Nat → Int32) → (Nat → Int32) → Int32 → Int32 → Int32 → Int32 → Int32 → Int32 → Int32 → Int32 → Int32 → Prop} {Q : Int32 → (Nat → Int32) → (Nat → Int32) → (Nat → Int32) → (Nat → Int32) → Int32 → Int32 → Int32 → Int32 → Int32 → Int32 → Int32 → Int32 → Int32 → Prop} (C : CxX p s m args c D (tysX cA) RX6 cX6_commonWay 6 wsX6_commonWay) (hrt9 : meth.sig.returnType = (some .int)) (hlk : meth.locks = false) (Hk22 : ∀ (v1q : Int32) (v2q : Int32) (v3q : Int32) (v4q : Int32) (myq : (Nat → Int32)) (mwq : (Nat → Int32)) (mlq : (Nat → Int32)) (moq : (Nat → Int32)) (gmq : Int32) (gsq : Int32) (gaq : Int32) (ggq : Int32) (gbq : Int32) (guq : Int32) (ghq : Int32) (gkq : Int32) (glq : Int32) , kh22 v1q v2q v3q v4q myq mwq mlq moq gmq gsq gaq ggq gbq guq ghq gkq glq → GoX p l e rmX6_commonWay s m args below meth c D A 6 0 0 (QP_X6_commonWay D A ad cA ms mb mt gn gt Q below args s) 22 [(0, .ref (ad 0)), (1, .int v1q), (2, .int v2q), (3, .int v3q), (4, .int v4q)] [] (WM ad cA ms mb myq mt mwq mlq moq gmq gsq gaq ggq gbq guq ghq gkq glq gn gt)) (v1 : Int32) (v2 : Int32) (v4 : Int32) (s0 : Int32) (my : (Nat → Int32)) (mw : (Nat → Int32)) (ml : (Nat → Int32)) (mo : (Nat → Int32)) (gm : Int32) (gs : Int32) (ga : Int32) (gg : Int32) (gb : Int32) (gu : Int32) (gh : Int32) (gk : Int32) (gl : Int32)  (h : B_X6_commonWay_65 kh22 Q ms v1 v2 v4 s0 my mw ml mo gm gs ga gg gb gu gh gk gl) : GoX p l e rmX6_commonWay s m args below meth c D A 6 0 0 (QP_X6_commonWay D A ad cA ms mb mt gn gt Q below args s) 65 [(0, .ref (ad 0)), (1, .int v1), (2, .int v2), (4, .int v4)] [.int s0] (WM ad cA ms mb my mt mw ml mo gm gs ga gg gb gu gh gk gl gn gt) := by
  replace h : (kh22 v1 v2 s0 (v4 + (1 : Int32)) my mw ml mo gm gs ga gg gb gu gh gk gl) := h
  refine g_istore_n C (lv2 := [(3, .int s0), (0, .ref (ad 0)), (1, .int v1), (2, .int v2), (4, .int v4)]) dX6_commonWay_65 rfl (by decide) rfl ?_
  refine g_iinc C (v := (v4 + (1 : Int32))) (lv2 := [(4, .int (v4 + (1 : Int32))), (3, .int s0), (0, .ref (ad 0)), (1, .int v1), (2, .int v2)]) 4 dX6_commonWay_66 rfl rfl (by decide) rfl ?_
  refine g_goto C 22 dX6_commonWay_69 (by decide) ?_
  exact g_sub [2, 3, 4, 1, 0] rfl (Hk22 v1 v2 s0 (v4 + (1 : Int32)) my mw ml mo gm gs ga gg gb gu gh gk gl  h)
set_option maxHeartbeats 4000000 in
set_option maxRecDepth 100000 in
theorem t_B_X6_commonWay_52 {kh22 : Int32 → Int32 → Int32 → Int32 → (Nat → Int32) → (Nat → Int32) → (Nat → Int32) → (Nat → Int32) → Int32 → Int32 → Int32 → Int32 → Int32 → Int32 → Int32 → Int32 → Int32 → Prop} {Q : Int32 → (Nat → Int32) → (Nat → Int32) → (Nat → Int32) → (Nat → Int32) → Int32 → Int32 → Int32 → Int32 → Int32 → Int32 → Int32 → Int32 → Int32 → Prop} (C : CxX p s m args c D (tysX cA) RX6 cX6_commonWay 6 wsX6_commonWay) (hrt9 : meth.sig.returnType = (some .int)) (hlk : meth.locks = false) (Hk22 : ∀ (v1q : Int32) (v2q : Int32) (v3q : Int32) (v4q : Int32) (myq : (Nat → Int32)) (mwq : (Nat → Int32)) (mlq : (Nat → Int32)) (moq : (Nat → Int32)) (gmq : Int32) (gsq : Int32) (gaq : Int32) (ggq : Int32) (gbq : Int32) (guq : Int32) (ghq : Int32) (gkq : Int32) (glq : Int32) , kh22 v1q v2q v3q v4q myq mwq mlq moq gmq gsq gaq ggq gbq guq ghq gkq glq → GoX p l e rmX6_commonWay s m args below meth c D A 6 0 0 (QP_X6_commonWay D A ad cA ms mb mt gn gt Q below args s) 22 [(0, .ref (ad 0)), (1, .int v1q), (2, .int v2q), (3, .int v3q), (4, .int v4q)] [] (WM ad cA ms mb myq mt mwq mlq moq gmq gsq gaq ggq gbq guq ghq gkq glq gn gt)) (v1 : Int32) (v3 : Int32) (v4 : Int32) (v5 : Int32) (s0 : Int32) (my : (Nat → Int32)) (mw : (Nat → Int32)) (ml : (Nat → Int32)) (mo : (Nat → Int32)) (gm : Int32) (gs : Int32) (ga : Int32) (gg : Int32) (gb : Int32) (gu : Int32) (gh : Int32) (gk : Int32) (gl : Int32)  (h : B_X6_commonWay_52 kh22 Q ms v1 v3 v4 v5 s0 my mw ml mo gm gs ga gg gb gu gh gk gl) : GoX p l e rmX6_commonWay s m args below meth c D A 6 0 0 (QP_X6_commonWay D A ad cA ms mb mt gn gt Q below args s) 52 [(0, .ref (ad 0)), (1, .int v1), (3, .int v3), (4, .int v4), (5, .int v5)] [.int s0] (WM ad cA ms mb my mt mw ml mo gm gs ga gg gb gu gh gk gl gn gt) := by
  replace h : ((v5 ≤ v3 → (B_X6_commonWay_65 kh22 Q ms v1 s0 v4 v3 my mw ml mo gm gs ga gg gb gu gh gk gl)) ∧ (¬ v5 ≤ v3 → (B_X6_commonWay_65 kh22 Q ms v1 s0 v4 v5 my mw ml mo gm gs ga gg gb gu gh gk gl))) := h
  refine g_istore_n C (lv2 := [(2, .int s0), (0, .ref (ad 0)), (1, .int v1), (3, .int v3), (4, .int v4), (5, .int v5)]) dX6_commonWay_52 rfl (by decide) rfl ?_
  refine g_iload C 5 dX6_commonWay_53 rfl ?_
  refine g_iload_n C 3 dX6_commonWay_55 rfl rfl ?_
  refine g_icmp_le C 64 dX6_commonWay_56 (by decide) (fun c_1 => ?_) (fun c_1 => ?_)
  · replace h := h.1 c_1
    refine g_iload_n C 3 dX6_commonWay_64 rfl rfl ?_
    exact g_sub [1, 2, 0, 4] rfl (t_B_X6_commonWay_65 C hrt9 hlk Hk22 v1 s0 v4 v3 my mw ml mo gm gs ga gg gb gu gh gk gl  h)
  · replace h := h.2 c_1
    refine g_iload C 5 dX6_commonWay_59 rfl ?_
    refine g_goto C 65 dX6_commonWay_61 (by decide) ?_
    exact g_sub [1, 2, 0, 4] rfl (t_B_X6_commonWay_65 C hrt9 hlk Hk22 v1 s0 v4 v5 my mw ml mo gm gs ga gg gb gu gh gk gl  h)
set_option maxHeartbeats 4000000 in
set_option maxRecDepth 100000 in
theorem t_L_X6_commonWay_22  {Q : Int32 → (Nat → Int32) → (Nat → Int32) → (Nat → Int32) → (Nat → Int32) → Int32 → Int32 → Int32 → Int32 → Int32 → Int32 → Int32 → Int32 → Int32 → Prop} (C : CxX p s m args c D (tysX cA) RX6 cX6_commonWay 6 wsX6_commonWay) (hrt9 : meth.sig.returnType = (some .int)) (hlk : meth.locks = false) (m9 : Nat) : ∀ (v1 : Int32) (v2 : Int32) (v3 : Int32) (v4 : Int32) (my : (Nat → Int32)) (mw : (Nat → Int32)) (ml : (Nat → Int32)) (mo : (Nat → Int32)) (gm : Int32) (gs : Int32) (ga : Int32) (gg : Int32) (gb : Int32) (gu : Int32) (gh : Int32) (gk : Int32) (gl : Int32) , L_X6_commonWay_22  Q ms m9 v1 v2 v3 v4 my mw ml mo gm gs ga gg gb gu gh gk gl → GoX p l e rmX6_commonWay s m args below meth c D A 6 0 0 (QP_X6_commonWay D A ad cA ms mb mt gn gt Q below args s) 22 [(0, .ref (ad 0)), (1, .int v1), (2, .int v2), (3, .int v3), (4, .int v4)] [] (WM ad cA ms mb my mt mw ml mo gm gs ga gg gb gu gh gk gl gn gt) := by
  induction m9 with
  | zero =>
    intro v1 v2 v3 v4 my mw ml mo gm gs ga gg gb gu gh gk gl h
    exact False.elim h
  | succ m9 Hk22 =>
    intro v1 v2 v3 v4 my mw ml mo gm gs ga gg gb gu gh gk gl h
    replace h : ((gm ≤ v4 → (Q v2 my mw ml mo gm gs ga gg gb gu gh gk gl)) ∧ (¬ gm ≤ v4 → (F_X6_reached v4 v1 ms mw ml mo my gs ga gg gb gu gh gk gl (fun r_3 my_4 gs_5 ga_6 gg_7 gb_8 gu_9 gh_10 gk_11 gl_12 => ((r_3 ≤ v3 → (B_X6_commonWay_52 (L_X6_commonWay_22  Q ms m9) Q ms v1 v3 v4 r_3 v2 my_4 mw ml mo gm gs_5 ga_6 gg_7 gb_8 gu_9 gh_10 gk_11 gl_12)) ∧ (¬ r_3 ≤ v3 → (B_X6_commonWay_52 (L_X6_commonWay_22  Q ms m9) Q ms v1 v3 v4 r_3 v4 my_4 mw ml mo gm gs_5 ga_6 gg_7 gb_8 gu_9 gh_10 gk_11 gl_12))))))) := h
    refine g_iload C 4 dX6_commonWay_22 rfl ?_
    refine g_aload_n C 0 dX6_commonWay_24 rfl rfl ?_
    refine g_get C inX6_commonWay_6 0 WMg0 rfl 7 (by decide) lkX6_commonWay_107 rfl dX6_commonWay_25 ?_
    refine g_icmp_ge C 72 dX6_commonWay_28 (by decide) (fun c_2 => ?_) (fun c_2 => ?_)
    · replace h := h.1 c_2
      refine g_iload_n C 2 dX6_commonWay_72 rfl rfl ?_
      exact g_iret C hrt9 hlk (u := (my, mw, ml, mo, gm, gs, ga, gg, gb, gu, gh, gk, gl)) rfl h dX6_commonWay_73
    · replace h := h.2 c_2
      refine g_aload_n C 0 dX6_commonWay_31 rfl rfl ?_
      refine g_iload C 4 dX6_commonWay_32 rfl ?_
      refine g_iload_n C 1 dX6_commonWay_34 rfl rfl ?_
      refine k_X6_reached C gX6_commonWay_X6_reached ⟨Nat.le_of_ble_eq_true rfl, Nat.le_of_ble_eq_true rfl⟩ (Nat.le_of_ble_eq_true rfl) dX6_commonWay_35  h (fun r_3 my_4 gs_5 ga_6 gg_7 gb_8 gu_9 gh_10 gk_11 gl_12 h => ?_)
      refine g_istore C (lv2 := [(5, .int r_3), (0, .ref (ad 0)), (1, .int v1), (2, .int v2), (3, .int v3), (4, .int v4)]) dX6_commonWay_38 (by decide) rfl ?_
      refine g_iload C 0 dX6_commonWay_40 rfl ?_
      refine g_iload_n C 4 dX6_commonWay_42 rfl rfl ?_
      refine g_icmp_le C 51 dX6_commonWay_43 (by decide) (fun c_13 => ?_) (fun c_13 => ?_)
      · replace h := h.1 c_13
        refine g_iload_n C 3 dX6_commonWay_51 rfl rfl ?_
        exact g_sub [1, 2, 4, 5, 0] rfl (t_B_X6_commonWay_52 C hrt9 hlk Hk22 v1 v3 v4 r_3 v2 my_4 mw ml mo gm gs_5 ga_6 gg_7 gb_8 gu_9 gh_10 gk_11 gl_12  h)
      · replace h := h.2 c_13
        refine g_iload C 5 dX6_commonWay_46 rfl ?_
        refine g_goto C 52 dX6_commonWay_48 (by decide) ?_
        exact g_sub [1, 2, 4, 5, 0] rfl (t_B_X6_commonWay_52 C hrt9 hlk Hk22 v1 v3 v4 r_3 v4 my_4 mw ml mo gm gs_5 ga_6 gg_7 gb_8 gu_9 gh_10 gk_11 gl_12  h)
set_option maxHeartbeats 4000000 in
set_option maxRecDepth 100000 in
theorem t_B_X6_commonWay_0  {Q : Int32 → (Nat → Int32) → (Nat → Int32) → (Nat → Int32) → (Nat → Int32) → Int32 → Int32 → Int32 → Int32 → Int32 → Int32 → Int32 → Int32 → Int32 → Prop} (C : CxX p s m args c D (tysX cA) RX6 cX6_commonWay 6 wsX6_commonWay) (hrt9 : meth.sig.returnType = (some .int)) (hlk : meth.locks = false) (v1 : Int32) (my : (Nat → Int32)) (mw : (Nat → Int32)) (ml : (Nat → Int32)) (mo : (Nat → Int32)) (gm : Int32) (gs : Int32) (ga : Int32) (gg : Int32) (gb : Int32) (gu : Int32) (gh : Int32) (gk : Int32) (gl : Int32)  (h : B_X6_commonWay_0  Q ms v1 my mw ml mo gm gs ga gg gb gu gh gk gl) : GoX p l e rmX6_commonWay s m args below meth c D A 6 0 0 (QP_X6_commonWay D A ad cA ms mb mt gn gt Q below args s) 0 [(0, .ref (ad 0)), (1, .int v1)] [] (WM ad cA ms mb my mt mw ml mo gm gs ga gg gb gu gh gk gl gn gt) := by
  replace h : (F_X6_isNumber v1 (fun r_14 => ((r_14 = 0 → (Q (-2 : Int32) my mw ml mo gm gs ga gg gb gu gh gk gl)) ∧ (¬ r_14 = 0 → (F_X6_makes v1 mw ml mo gm (fun mw_16 ml_17 mo_18 gm_19 => (∃ n9 : Nat, L_X6_commonWay_22  Q ms n9 v1 (0 : Int32) (-1 : Int32) (0 : Int32) my mw_16 ml_17 mo_18 gm_19 gs ga gg gb gu gh gk gl))))))) := h
  refine g_iload_n C 1 dX6_commonWay_0 rfl rfl ?_
  refine k_X6_isNumber C gX6_commonWay_X6_isNumber ⟨Nat.le_of_ble_eq_true rfl, Nat.le_of_ble_eq_true rfl⟩ (Nat.le_of_ble_eq_true rfl) dX6_commonWay_1  h (fun r_14 h => ?_)
  refine g_if_ne C 10 dX6_commonWay_4 (by decide) (fun c_15 => ?_) (fun c_15 => ?_)
  · replace h := h.2 c_15
    refine g_aload_n C 0 dX6_commonWay_10 rfl rfl ?_
    refine g_iload_n C 1 dX6_commonWay_11 rfl rfl ?_
    refine k_X6_makes C gX6_commonWay_X6_makes ⟨Nat.le_of_ble_eq_true rfl, Nat.le_of_ble_eq_true rfl⟩ (Nat.le_of_ble_eq_true rfl) dX6_commonWay_12  h (fun mw_16 ml_17 mo_18 gm_19 h => ?_)
    refine g_iconst C (0 : Int32) dX6_commonWay_15 (by decide) ?_
    refine g_istore_n C (lv2 := [(2, .int (0 : Int32)), (0, .ref (ad 0)), (1, .int v1)]) dX6_commonWay_16 rfl (by decide) rfl ?_
    refine g_iconst C (-1 : Int32) dX6_commonWay_17 (by decide) ?_
    refine g_istore_n C (lv2 := [(3, .int (-1 : Int32)), (2, .int (0 : Int32)), (0, .ref (ad 0)), (1, .int v1)]) dX6_commonWay_18 rfl (by decide) rfl ?_
    refine g_iconst C (0 : Int32) dX6_commonWay_19 (by decide) ?_
    refine g_istore C (lv2 := [(4, .int (0 : Int32)), (3, .int (-1 : Int32)), (2, .int (0 : Int32)), (0, .ref (ad 0)), (1, .int v1)]) dX6_commonWay_20 (by decide) rfl ?_
    obtain ⟨n9, h⟩ := h
    exact g_sub [3, 4, 2, 1, 0] rfl (t_L_X6_commonWay_22 C hrt9 hlk  n9 v1 (0 : Int32) (-1 : Int32) (0 : Int32) my mw_16 ml_17 mo_18 gm_19 gs ga gg gb gu gh gk gl  h)
  · replace h := h.1 c_15
    refine g_bipush C (-2 : Int32) dX6_commonWay_7 (by decide) ?_
    exact g_iret C hrt9 hlk (u := (my, mw, ml, mo, gm, gs, ga, gg, gb, gu, gh, gk, gl)) rfl h dX6_commonWay_9
theorem c_X6_commonWay (l : Launch) (D : va_G) (A : Nat → Prop) (ad : Nat → Nat) (cA : Nat → ClassId) (v1 : Int32) {ms : (Nat → Int32)} {mb : (Nat → Int32)} {my : (Nat → Int32)} {mt : (Nat → Int32)} {mw : (Nat → Int32)} {ml : (Nat → Int32)} {mo : (Nat → Int32)} {gm : Int32} {gs : Int32} {ga : Int32} {gg : Int32} {gb : Int32} {gu : Int32} {gh : Int32} {gk : Int32} {gl : Int32} {gn : Int32} {gt : Int32}  (Q : Int32 → (Nat → Int32) → (Nat → Int32) → (Nat → Int32) → (Nat → Int32) → Int32 → Int32 → Int32 → Int32 → Int32 → Int32 → Int32 → Int32 → Int32 → Prop) (h : F_X6_commonWay v1 ms my mw ml mo gm gs ga gg gb gu gh gk gl Q) : Met l yX6_commonWay wsX6_commonWay rmX6_commonWay (va_Pc [.ref (ad 0), .int v1] (OKX D (tysX cA) (WM ad cA ms mb my mt mw ml mo gm gs ga gg gb gu gh gk gl gn gt) A)) (QC_X6_commonWay D A ad cA ms mb mt gn gt Q) 0 0 A :=
  g_met (own := RX6) (by decide) rfl rfl (Nat.le_of_ble_eq_true rfl) (fun p e s m below meth c C hrt9 hlk _ => g_sub [0, 1] rfl (t_B_X6_commonWay_0 C hrt9 hlk v1 my mw ml mo gm gs ga gg gb gu gh gk gl  h))
theorem k_X6_commonWay {ws : List Cond} {own : String} {cc : ByteArray} {nL pc index : Nat} {lv : List (Nat × Value)} {st : List Value} {Q : State → Prop} {R : Room} {K : Int32 → (Nat → Int32) → (Nat → Int32) → (Nat → Int32) → (Nat → Int32) → Int32 → Int32 → Int32 → Int32 → Int32 → Int32 → Int32 → Int32 → Int32 → Prop} {v1 : Int32} (C : CxX p s m args c D (tysX cA) own cc nL ws) (hT : GoodIn ws (wsV own index RX6 yX6_commonWay wsX6_commonWay)) (hR : rmX6_commonWay.frames + 1 ≤ R.frames ∧ 8 + (6 + 11) + rmX6_commonWay.locals ≤ R.locals) (hcat : (st.map fun v => v.category).sum ≤ 8) (hdg : decode cc pc = .ok (.invokevirtual index, 3))  (h : F_X6_commonWay v1 ms my mw ml mo gm gs ga gg gb gu gh gk gl K) (kk : ∀ (r : Int32) (myq : (Nat → Int32)) (mwq : (Nat → Int32)) (mlq : (Nat → Int32)) (moq : (Nat → Int32)) (gmq : Int32) (gsq : Int32) (gaq : Int32) (ggq : Int32) (gbq : Int32) (guq : Int32) (ghq : Int32) (gkq : Int32) (glq : Int32), K r myq mwq mlq moq gmq gsq gaq ggq gbq guq ghq gkq glq → GoX p l e R s m args below meth c D A nL 0 0 Q (pc + 3) lv (.int r :: st) (WM ad cA ms mb myq mt mwq mlq moq gmq gsq gaq ggq gbq guq ghq gkq glq gn gt)) : GoX p l e R s m args below meth c D A nL 0 0 Q pc lv (.int v1 :: .ref (ad 0) :: st) (WM ad cA ms mb my mt mw ml mo gm gs ga gg gb gu gh gk gl gn gt) :=
  g_callVi C (As := [.int v1]) 1 (c_X6_commonWay l D A ad cA v1  K h) hT rfl rfl rfl (by decide +kernel) hR 0 WMg0 rfl rfl rfl hcat hdg (fun r u hu => kk r u.1 u.2.1 u.2.2.1 u.2.2.2.1 u.2.2.2.2.1 u.2.2.2.2.2.1 u.2.2.2.2.2.2.1 u.2.2.2.2.2.2.2.1 u.2.2.2.2.2.2.2.2.1 u.2.2.2.2.2.2.2.2.2.1 u.2.2.2.2.2.2.2.2.2.2.1 u.2.2.2.2.2.2.2.2.2.2.2.1 u.2.2.2.2.2.2.2.2.2.2.2.2 hu)
/-! X6_reach -/
abbrev rmX6_reach : Room := { frames := 11, cells := 0, slots := 0, locals := 238 }
abbrev QC_X6_reach (D : va_G) (A : Nat → Prop) (ad : Nat → Nat) (cA : Nat → ClassId) (ms : (Nat → Int32)) (mb : (Nat → Int32)) (mt : (Nat → Int32)) (gn : Int32) (gt : Int32) (Q : Int32 → (Nat → Int32) → (Nat → Int32) → (Nat → Int32) → (Nat → Int32) → Int32 → Int32 → Int32 → Int32 → Int32 → Int32 → Int32 → Int32 → Int32 → Prop) : Array Value → State → Outcome → State → Prop := va_Qi (fun (r : Int32) (u : (Nat → Int32) × (Nat → Int32) × (Nat → Int32) × (Nat → Int32) × Int32 × Int32 × Int32 × Int32 × Int32 × Int32 × Int32 × Int32 × Int32) => Q r u.1 u.2.1 u.2.2.1 u.2.2.2.1 u.2.2.2.2.1 u.2.2.2.2.2.1 u.2.2.2.2.2.2.1 u.2.2.2.2.2.2.2.1 u.2.2.2.2.2.2.2.2.1 u.2.2.2.2.2.2.2.2.2.1 u.2.2.2.2.2.2.2.2.2.2.1 u.2.2.2.2.2.2.2.2.2.2.2.1 u.2.2.2.2.2.2.2.2.2.2.2.2) (fun u t => OKX D (tysX cA) ((fun u : (Nat → Int32) × (Nat → Int32) × (Nat → Int32) × (Nat → Int32) × Int32 × Int32 × Int32 × Int32 × Int32 × Int32 × Int32 × Int32 × Int32 => WM ad cA ms mb u.1 mt u.2.1 u.2.2.1 u.2.2.2.1 u.2.2.2.2.1 u.2.2.2.2.2.1 u.2.2.2.2.2.2.1 u.2.2.2.2.2.2.2.1 u.2.2.2.2.2.2.2.2.1 u.2.2.2.2.2.2.2.2.2.1 u.2.2.2.2.2.2.2.2.2.2.1 u.2.2.2.2.2.2.2.2.2.2.2.1 u.2.2.2.2.2.2.2.2.2.2.2.2 gn gt) u) A t) A
abbrev QP_X6_reach (D : va_G) (A : Nat → Prop) (ad : Nat → Nat) (cA : Nat → ClassId) (ms : (Nat → Int32)) (mb : (Nat → Int32)) (mt : (Nat → Int32)) (gn : Int32) (gt : Int32) (Q : Int32 → (Nat → Int32) → (Nat → Int32) → (Nat → Int32) → (Nat → Int32) → Int32 → Int32 → Int32 → Int32 → Int32 → Int32 → Int32 → Int32 → Int32 → Prop) (below : List Frame) (args : Array Value) (s : State) : State → Prop := MQ below (QC_X6_reach D A ad cA ms mb mt gn gt Q) args s 0 0 A
def B_X6_reach_0  (Q : Int32 → (Nat → Int32) → (Nat → Int32) → (Nat → Int32) → (Nat → Int32) → Int32 → Int32 → Int32 → Int32 → Int32 → Int32 → Int32 → Int32 → Int32 → Prop) (ms : (Nat → Int32)) (v1 : Int32) (v2 : Int32) (my : (Nat → Int32)) (mw : (Nat → Int32)) (ml : (Nat → Int32)) (mo : (Nat → Int32)) (gm : Int32) (gs : Int32) (ga : Int32) (gg : Int32) (gb : Int32) (gu : Int32) (gh : Int32) (gk : Int32) (gl : Int32) : Prop := (F_X6_in v2 (0 : Int32) (3 : Int32) (fun r_1 => ((r_1 = 0 → (Q (-1 : Int32) my mw ml mo gm gs ga gg gb gu gh gk gl)) ∧ (¬ r_1 = 0 → (F_X6_isNumber v1 (fun r_3 => ((r_3 = 0 → (Q (-2 : Int32) my mw ml mo gm gs ga gg gb gu gh gk gl)) ∧ (¬ r_3 = 0 → (F_X6_makes v1 mw ml mo gm (fun mw_5 ml_6 mo_7 gm_8 => (F_X6_placeOf v2 mw_5 ml_6 mo_7 gm_8 (fun r_9 => (F_X6_reached r_9 v1 ms mw_5 ml_6 mo_7 my gs ga gg gb gu gh gk gl (fun r_10 my_11 gs_12 ga_13 gg_14 gb_15 gu_16 gh_17 gk_18 gl_19 => (Q r_10 my_11 mw_5 ml_6 mo_7 gm_8 gs_12 ga_13 gg_14 gb_15 gu_16 gh_17 gk_18 gl_19)))))))))))))))
def F_X6_reach (v1 : Int32) (v2 : Int32) (ms : (Nat → Int32)) (my : (Nat → Int32)) (mw : (Nat → Int32)) (ml : (Nat → Int32)) (mo : (Nat → Int32)) (gm : Int32) (gs : Int32) (ga : Int32) (gg : Int32) (gb : Int32) (gu : Int32) (gh : Int32) (gk : Int32) (gl : Int32) (Q : Int32 → (Nat → Int32) → (Nat → Int32) → (Nat → Int32) → (Nat → Int32) → Int32 → Int32 → Int32 → Int32 → Int32 → Int32 → Int32 → Int32 → Int32 → Prop) : Prop := B_X6_reach_0 Q ms v1 v2 my mw ml mo gm gs ga gg gb gu gh gk gl
set_option maxHeartbeats 4000000 in
set_option maxRecDepth 100000 in
theorem t_B_X6_reach_0  {Q : Int32 → (Nat → Int32) → (Nat → Int32) → (Nat → Int32) → (Nat → Int32) → Int32 → Int32 → Int32 → Int32 → Int32 → Int32 → Int32 → Int32 → Int32 → Prop} (C : CxX p s m args c D (tysX cA) RX6 cX6_reach 3 wsX6_reach) (hrt9 : meth.sig.returnType = (some .int)) (hlk : meth.locks = false) (v1 : Int32) (v2 : Int32) (my : (Nat → Int32)) (mw : (Nat → Int32)) (ml : (Nat → Int32)) (mo : (Nat → Int32)) (gm : Int32) (gs : Int32) (ga : Int32) (gg : Int32) (gb : Int32) (gu : Int32) (gh : Int32) (gk : Int32) (gl : Int32)  (h : B_X6_reach_0  Q ms v1 v2 my mw ml mo gm gs ga gg gb gu gh gk gl) : GoX p l e rmX6_reach s m args below meth c D A 3 0 0 (QP_X6_reach D A ad cA ms mb mt gn gt Q below args s) 0 [(0, .ref (ad 0)), (1, .int v1), (2, .int v2)] [] (WM ad cA ms mb my mt mw ml mo gm gs ga gg gb gu gh gk gl gn gt) := by
  replace h : (F_X6_in v2 (0 : Int32) (3 : Int32) (fun r_1 => ((r_1 = 0 → (Q (-1 : Int32) my mw ml mo gm gs ga gg gb gu gh gk gl)) ∧ (¬ r_1 = 0 → (F_X6_isNumber v1 (fun r_3 => ((r_3 = 0 → (Q (-2 : Int32) my mw ml mo gm gs ga gg gb gu gh gk gl)) ∧ (¬ r_3 = 0 → (F_X6_makes v1 mw ml mo gm (fun mw_5 ml_6 mo_7 gm_8 => (F_X6_placeOf v2 mw_5 ml_6 mo_7 gm_8 (fun r_9 => (F_X6_reached r_9 v1 ms mw_5 ml_6 mo_7 my gs ga gg gb gu gh gk gl (fun r_10 my_11 gs_12 ga_13 gg_14 gb_15 gu_16 gh_17 gk_18 gl_19 => (Q r_10 my_11 mw_5 ml_6 mo_7 gm_8 gs_12 ga_13 gg_14 gb_15 gu_16 gh_17 gk_18 gl_19))))))))))))))) := h
  refine g_iload_n C 2 dX6_reach_0 rfl rfl ?_
  refine g_iconst C (0 : Int32) dX6_reach_1 (by decide) ?_
  refine g_iconst C (3 : Int32) dX6_reach_2 (by decide) ?_
  refine k_X6_in C gX6_reach_X6_in ⟨Nat.le_of_ble_eq_true rfl, Nat.le_of_ble_eq_true rfl⟩ (Nat.le_of_ble_eq_true rfl) dX6_reach_3  h (fun r_1 h => ?_)
  refine g_if_ne C 11 dX6_reach_6 (by decide) (fun c_2 => ?_) (fun c_2 => ?_)
  · replace h := h.2 c_2
    refine g_iload_n C 1 dX6_reach_11 rfl rfl ?_
    refine k_X6_isNumber C gX6_reach_X6_isNumber ⟨Nat.le_of_ble_eq_true rfl, Nat.le_of_ble_eq_true rfl⟩ (Nat.le_of_ble_eq_true rfl) dX6_reach_12  h (fun r_3 h => ?_)
    refine g_if_ne C 21 dX6_reach_15 (by decide) (fun c_4 => ?_) (fun c_4 => ?_)
    · replace h := h.2 c_4
      refine g_aload_n C 0 dX6_reach_21 rfl rfl ?_
      refine g_iload_n C 1 dX6_reach_22 rfl rfl ?_
      refine k_X6_makes C gX6_reach_X6_makes ⟨Nat.le_of_ble_eq_true rfl, Nat.le_of_ble_eq_true rfl⟩ (Nat.le_of_ble_eq_true rfl) dX6_reach_23  h (fun mw_5 ml_6 mo_7 gm_8 h => ?_)
      refine g_aload_n C 0 dX6_reach_26 rfl rfl ?_
      refine g_aload_n C 0 dX6_reach_27 rfl rfl ?_
      refine g_iload_n C 2 dX6_reach_28 rfl rfl ?_
      refine k_X6_placeOf C gX6_reach_X6_placeOf ⟨Nat.le_of_ble_eq_true rfl, Nat.le_of_ble_eq_true rfl⟩ (Nat.le_of_ble_eq_true rfl) dX6_reach_29  h (fun r_9 h => ?_)
      refine g_iload_n C 1 dX6_reach_32 rfl rfl ?_
      refine k_X6_reached C gX6_reach_X6_reached ⟨Nat.le_of_ble_eq_true rfl, Nat.le_of_ble_eq_true rfl⟩ (Nat.le_of_ble_eq_true rfl) dX6_reach_33  h (fun r_10 my_11 gs_12 ga_13 gg_14 gb_15 gu_16 gh_17 gk_18 gl_19 h => ?_)
      exact g_iret C hrt9 hlk (u := (my_11, mw_5, ml_6, mo_7, gm_8, gs_12, ga_13, gg_14, gb_15, gu_16, gh_17, gk_18, gl_19)) rfl h dX6_reach_36
    · replace h := h.1 c_4
      refine g_bipush C (-2 : Int32) dX6_reach_18 (by decide) ?_
      exact g_iret C hrt9 hlk (u := (my, mw, ml, mo, gm, gs, ga, gg, gb, gu, gh, gk, gl)) rfl h dX6_reach_20
  · replace h := h.1 c_2
    refine g_iconst C (-1 : Int32) dX6_reach_9 (by decide) ?_
    exact g_iret C hrt9 hlk (u := (my, mw, ml, mo, gm, gs, ga, gg, gb, gu, gh, gk, gl)) rfl h dX6_reach_10
theorem c_X6_reach (l : Launch) (D : va_G) (A : Nat → Prop) (ad : Nat → Nat) (cA : Nat → ClassId) (v1 : Int32) (v2 : Int32) {ms : (Nat → Int32)} {mb : (Nat → Int32)} {my : (Nat → Int32)} {mt : (Nat → Int32)} {mw : (Nat → Int32)} {ml : (Nat → Int32)} {mo : (Nat → Int32)} {gm : Int32} {gs : Int32} {ga : Int32} {gg : Int32} {gb : Int32} {gu : Int32} {gh : Int32} {gk : Int32} {gl : Int32} {gn : Int32} {gt : Int32}  (Q : Int32 → (Nat → Int32) → (Nat → Int32) → (Nat → Int32) → (Nat → Int32) → Int32 → Int32 → Int32 → Int32 → Int32 → Int32 → Int32 → Int32 → Int32 → Prop) (h : F_X6_reach v1 v2 ms my mw ml mo gm gs ga gg gb gu gh gk gl Q) : Met l yX6_reach wsX6_reach rmX6_reach (va_Pc [.ref (ad 0), .int v1, .int v2] (OKX D (tysX cA) (WM ad cA ms mb my mt mw ml mo gm gs ga gg gb gu gh gk gl gn gt) A)) (QC_X6_reach D A ad cA ms mb mt gn gt Q) 0 0 A :=
  g_met (own := RX6) (by decide) rfl rfl (Nat.le_of_ble_eq_true rfl) (fun p e s m below meth c C hrt9 hlk _ => g_sub [0, 1, 2] rfl (t_B_X6_reach_0 C hrt9 hlk v1 v2 my mw ml mo gm gs ga gg gb gu gh gk gl  h))
theorem k_X6_reach {ws : List Cond} {own : String} {cc : ByteArray} {nL pc index : Nat} {lv : List (Nat × Value)} {st : List Value} {Q : State → Prop} {R : Room} {K : Int32 → (Nat → Int32) → (Nat → Int32) → (Nat → Int32) → (Nat → Int32) → Int32 → Int32 → Int32 → Int32 → Int32 → Int32 → Int32 → Int32 → Int32 → Prop} {v1 : Int32} {v2 : Int32} (C : CxX p s m args c D (tysX cA) own cc nL ws) (hT : GoodIn ws (wsV own index RX6 yX6_reach wsX6_reach)) (hR : rmX6_reach.frames + 1 ≤ R.frames ∧ 8 + (3 + 11) + rmX6_reach.locals ≤ R.locals) (hcat : (st.map fun v => v.category).sum ≤ 8) (hdg : decode cc pc = .ok (.invokevirtual index, 3))  (h : F_X6_reach v1 v2 ms my mw ml mo gm gs ga gg gb gu gh gk gl K) (kk : ∀ (r : Int32) (myq : (Nat → Int32)) (mwq : (Nat → Int32)) (mlq : (Nat → Int32)) (moq : (Nat → Int32)) (gmq : Int32) (gsq : Int32) (gaq : Int32) (ggq : Int32) (gbq : Int32) (guq : Int32) (ghq : Int32) (gkq : Int32) (glq : Int32), K r myq mwq mlq moq gmq gsq gaq ggq gbq guq ghq gkq glq → GoX p l e R s m args below meth c D A nL 0 0 Q (pc + 3) lv (.int r :: st) (WM ad cA ms mb myq mt mwq mlq moq gmq gsq gaq ggq gbq guq ghq gkq glq gn gt)) : GoX p l e R s m args below meth c D A nL 0 0 Q pc lv (.int v2 :: .int v1 :: .ref (ad 0) :: st) (WM ad cA ms mb my mt mw ml mo gm gs ga gg gb gu gh gk gl gn gt) :=
  g_callVi C (As := [.int v1, .int v2]) 2 (c_X6_reach l D A ad cA v1 v2  K h) hT rfl rfl rfl (by decide +kernel) hR 0 WMg0 rfl rfl rfl hcat hdg (fun r u hu => kk r u.1 u.2.1 u.2.2.1 u.2.2.2.1 u.2.2.2.2.1 u.2.2.2.2.2.1 u.2.2.2.2.2.2.1 u.2.2.2.2.2.2.2.1 u.2.2.2.2.2.2.2.2.1 u.2.2.2.2.2.2.2.2.2.1 u.2.2.2.2.2.2.2.2.2.2.1 u.2.2.2.2.2.2.2.2.2.2.2.1 u.2.2.2.2.2.2.2.2.2.2.2.2 hu)
/-! X6_untellable -/
abbrev rmX6_untellable : Room := { frames := 11, cells := 0, slots := 0, locals := 237 }
abbrev QC_X6_untellable (D : va_G) (A : Nat → Prop) (ad : Nat → Nat) (cA : Nat → ClassId) (ms : (Nat → Int32)) (mb : (Nat → Int32)) (mt : (Nat → Int32)) (gn : Int32) (gt : Int32) (Q : Int32 → (Nat → Int32) → (Nat → Int32) → (Nat → Int32) → (Nat → Int32) → Int32 → Int32 → Int32 → Int32 → Int32 → Int32 → Int32 → Int32 → Int32 → Prop) : Array Value → State → Outcome → State → Prop := va_Qi (fun (r : Int32) (u : (Nat → Int32) × (Nat → Int32) × (Nat → Int32) × (Nat → Int32) × Int32 × Int32 × Int32 × Int32 × Int32 × Int32 × Int32 × Int32 × Int32) => Q r u.1 u.2.1 u.2.2.1 u.2.2.2.1 u.2.2.2.2.1 u.2.2.2.2.2.1 u.2.2.2.2.2.2.1 u.2.2.2.2.2.2.2.1 u.2.2.2.2.2.2.2.2.1 u.2.2.2.2.2.2.2.2.2.1 u.2.2.2.2.2.2.2.2.2.2.1 u.2.2.2.2.2.2.2.2.2.2.2.1 u.2.2.2.2.2.2.2.2.2.2.2.2) (fun u t => OKX D (tysX cA) ((fun u : (Nat → Int32) × (Nat → Int32) × (Nat → Int32) × (Nat → Int32) × Int32 × Int32 × Int32 × Int32 × Int32 × Int32 × Int32 × Int32 × Int32 => WM ad cA ms mb u.1 mt u.2.1 u.2.2.1 u.2.2.2.1 u.2.2.2.2.1 u.2.2.2.2.2.1 u.2.2.2.2.2.2.1 u.2.2.2.2.2.2.2.1 u.2.2.2.2.2.2.2.2.1 u.2.2.2.2.2.2.2.2.2.1 u.2.2.2.2.2.2.2.2.2.2.1 u.2.2.2.2.2.2.2.2.2.2.2.1 u.2.2.2.2.2.2.2.2.2.2.2.2 gn gt) u) A t) A
abbrev QP_X6_untellable (D : va_G) (A : Nat → Prop) (ad : Nat → Nat) (cA : Nat → ClassId) (ms : (Nat → Int32)) (mb : (Nat → Int32)) (mt : (Nat → Int32)) (gn : Int32) (gt : Int32) (Q : Int32 → (Nat → Int32) → (Nat → Int32) → (Nat → Int32) → (Nat → Int32) → Int32 → Int32 → Int32 → Int32 → Int32 → Int32 → Int32 → Int32 → Int32 → Prop) (below : List Frame) (args : Array Value) (s : State) : State → Prop := MQ below (QC_X6_untellable D A ad cA ms mb mt gn gt Q) args s 0 0 A
def B_X6_untellable_26  (Q : Int32 → (Nat → Int32) → (Nat → Int32) → (Nat → Int32) → (Nat → Int32) → Int32 → Int32 → Int32 → Int32 → Int32 → Int32 → Int32 → Int32 → Int32 → Prop) (ms : (Nat → Int32))  (my : (Nat → Int32)) (mw : (Nat → Int32)) (ml : (Nat → Int32)) (mo : (Nat → Int32)) (gm : Int32) (gs : Int32) (ga : Int32) (gg : Int32) (gb : Int32) (gu : Int32) (gh : Int32) (gk : Int32) (gl : Int32) : Prop := (Q (-2 : Int32) my mw ml mo gm gs ga gg gb gu gh gk gl)
def B_X6_untellable_79  (Q : Int32 → (Nat → Int32) → (Nat → Int32) → (Nat → Int32) → (Nat → Int32) → Int32 → Int32 → Int32 → Int32 → Int32 → Int32 → Int32 → Int32 → Int32 → Prop) (ms : (Nat → Int32)) (v4 : Int32) (my : (Nat → Int32)) (mw : (Nat → Int32)) (ml : (Nat → Int32)) (mo : (Nat → Int32)) (gm : Int32) (gs : Int32) (ga : Int32) (gg : Int32) (gb : Int32) (gu : Int32) (gh : Int32) (gk : Int32) (gl : Int32) : Prop := (Q v4 my mw ml mo gm gs ga gg gb gu gh gk gl)
def B_X6_untellable_70 (kh35 : Int32 → Int32 → Int32 → Int32 → Int32 → (Nat → Int32) → (Nat → Int32) → (Nat → Int32) → (Nat → Int32) → Int32 → Int32 → Int32 → Int32 → Int32 → Int32 → Int32 → Int32 → Int32 → Prop) (Q : Int32 → (Nat → Int32) → (Nat → Int32) → (Nat → Int32) → (Nat → Int32) → Int32 → Int32 → Int32 → Int32 → Int32 → Int32 → Int32 → Int32 → Int32 → Prop) (ms : (Nat → Int32)) (v1 : Int32) (v2 : Int32) (v3 : Int32) (v5 : Int32) (s0 : Int32) (s1 : Int32) (my : (Nat → Int32)) (mw : (Nat → Int32)) (ml : (Nat → Int32)) (mo : (Nat → Int32)) (gm : Int32) (gs : Int32) (ga : Int32) (gg : Int32) (gb : Int32) (gu : Int32) (gh : Int32) (gk : Int32) (gl : Int32) : Prop := (kh35 v1 v2 v3 (s0 + s1) (v5 + (1 : Int32)) my mw ml mo gm gs ga gg gb gu gh gk gl)
noncomputable def L_X6_untellable_35  (Q : Int32 → (Nat → Int32) → (Nat → Int32) → (Nat → Int32) → (Nat → Int32) → Int32 → Int32 → Int32 → Int32 → Int32 → Int32 → Int32 → Int32 → Int32 → Prop) (ms : (Nat → Int32)) (n9 : Nat) : Int32 → Int32 → Int32 → Int32 → Int32 → (Nat → Int32) → (Nat → Int32) → (Nat → Int32) → (Nat → Int32) → Int32 → Int32 → Int32 → Int32 → Int32 → Int32 → Int32 → Int32 → Int32 → Prop := Nat.rec (motive := fun _ => Int32 → Int32 → Int32 → Int32 → Int32 → (Nat → Int32) → (Nat → Int32) → (Nat → Int32) → (Nat → Int32) → Int32 → Int32 → Int32 → Int32 → Int32 → Int32 → Int32 → Int32 → Int32 → Prop) (fun _ _ _ _ _ _ _ _ _ _ _ _ _ _ _ _ _ _ => False) (fun _ kh35 => fun v1 v2 v3 v4 v5 my mw ml mo gm gs ga gg gb gu gh gk gl => (((v2 + v3) ≤ v5 → (B_X6_untellable_79  Q ms v4 my mw ml mo gm gs ga gg gb gu gh gk gl)) ∧ (¬ (v2 + v3) ≤ v5 → (((8000 : Int32) ≤ v5 → (B_X6_untellable_79  Q ms v4 my mw ml mo gm gs ga gg gb gu gh gk gl)) ∧ (¬ (8000 : Int32) ≤ v5 → (F_X6_best v1 v5 ms my mw ml mo gm gs ga gg gb gu gh gk gl (fun r_3 my_4 mw_5 ml_6 mo_7 gm_8 gs_9 ga_10 gg_11 gb_12 gu_13 gh_14 gk_15 gl_16 => ((r_3 = (-5 : Int32) → (B_X6_untellable_70 kh35 Q ms v1 v2 v3 v5 v4 (1 : Int32) my_4 mw_5 ml_6 mo_7 gm_8 gs_9 ga_10 gg_11 gb_12 gu_13 gh_14 gk_15 gl_16)) ∧ (¬ r_3 = (-5 : Int32) → (B_X6_untellable_70 kh35 Q ms v1 v2 v3 v5 v4 (0 : Int32) my_4 mw_5 ml_6 mo_7 gm_8 gs_9 ga_10 gg_11 gb_12 gu_13 gh_14 gk_15 gl_16)))))))))) n9
def B_X6_untellable_0  (Q : Int32 → (Nat → Int32) → (Nat → Int32) → (Nat → Int32) → (Nat → Int32) → Int32 → Int32 → Int32 → Int32 → Int32 → Int32 → Int32 → Int32 → Int32 → Prop) (ms : (Nat → Int32)) (v1 : Int32) (v2 : Int32) (v3 : Int32) (my : (Nat → Int32)) (mw : (Nat → Int32)) (ml : (Nat → Int32)) (mo : (Nat → Int32)) (gm : Int32) (gs : Int32) (ga : Int32) (gg : Int32) (gb : Int32) (gu : Int32) (gh : Int32) (gk : Int32) (gl : Int32) : Prop := (F_X6_isHearer v1 (fun r_18 => ((r_18 = 0 → (Q (-1 : Int32) my mw ml mo gm gs ga gg gb gu gh gk gl)) ∧ (¬ r_18 = 0 → (F_X6_isNumber v2 (fun r_20 => ((r_20 = 0 → (B_X6_untellable_26  Q ms my mw ml mo gm gs ga gg gb gu gh gk gl)) ∧ (¬ r_20 = 0 → (F_X6_in v3 (1 : Int32) (40 : Int32) (fun r_22 => ((r_22 = 0 → (B_X6_untellable_26  Q ms my mw ml mo gm gs ga gg gb gu gh gk gl)) ∧ (¬ r_22 = 0 → (∃ n9 : Nat, L_X6_untellable_35  Q ms n9 v1 v2 v3 (0 : Int32) v2 my mw ml mo gm gs ga gg gb gu gh gk gl)))))))))))))
def F_X6_untellable (v1 : Int32) (v2 : Int32) (v3 : Int32) (ms : (Nat → Int32)) (my : (Nat → Int32)) (mw : (Nat → Int32)) (ml : (Nat → Int32)) (mo : (Nat → Int32)) (gm : Int32) (gs : Int32) (ga : Int32) (gg : Int32) (gb : Int32) (gu : Int32) (gh : Int32) (gk : Int32) (gl : Int32) (Q : Int32 → (Nat → Int32) → (Nat → Int32) → (Nat → Int32) → (Nat → Int32) → Int32 → Int32 → Int32 → Int32 → Int32 → Int32 → Int32 → Int32 → Int32 → Prop) : Prop := B_X6_untellable_0 Q ms v1 v2 v3 my mw ml mo gm gs ga gg gb gu gh gk gl
set_option maxHeartbeats 4000000 in
set_option maxRecDepth 100000 in
theorem t_B_X6_untellable_26  {Q : Int32 → (Nat → Int32) → (Nat → Int32) → (Nat → Int32) → (Nat → Int32) → Int32 → Int32 → Int32 → Int32 → Int32 → Int32 → Int32 → Int32 → Int32 → Prop} (C : CxX p s m args c D (tysX cA) RX6 cX6_untellable 6 wsX6_untellable) (hrt9 : meth.sig.returnType = (some .int)) (hlk : meth.locks = false)  (my : (Nat → Int32)) (mw : (Nat → Int32)) (ml : (Nat → Int32)) (mo : (Nat → Int32)) (gm : Int32) (gs : Int32) (ga : Int32) (gg : Int32) (gb : Int32) (gu : Int32) (gh : Int32) (gk : Int32) (gl : Int32)  (h : B_X6_untellable_26  Q ms my mw ml mo gm gs ga gg gb gu gh gk gl) : GoX p l e rmX6_untellable s m args below meth c D A 6 0 0 (QP_X6_untellable D A ad cA ms mb mt gn gt Q below args s) 26 [] [] (WM ad cA ms mb my mt mw ml mo gm gs ga gg gb gu gh gk gl gn gt) := by
  replace h : (Q (-2 : Int32) my mw ml mo gm gs ga gg gb gu gh gk gl) := h
  refine g_bipush C (-2 : Int32) dX6_untellable_26 (by decide) ?_
  exact g_iret C hrt9 hlk (u := (my, mw, ml, mo, gm, gs, ga, gg, gb, gu, gh, gk, gl)) rfl h dX6_untellable_28
set_option maxHeartbeats 4000000 in
set_option maxRecDepth 100000 in
theorem t_B_X6_untellable_79  {Q : Int32 → (Nat → Int32) → (Nat → Int32) → (Nat → Int32) → (Nat → Int32) → Int32 → Int32 → Int32 → Int32 → Int32 → Int32 → Int32 → Int32 → Int32 → Prop} (C : CxX p s m args c D (tysX cA) RX6 cX6_untellable 6 wsX6_untellable) (hrt9 : meth.sig.returnType = (some .int)) (hlk : meth.locks = false) (v4 : Int32) (my : (Nat → Int32)) (mw : (Nat → Int32)) (ml : (Nat → Int32)) (mo : (Nat → Int32)) (gm : Int32) (gs : Int32) (ga : Int32) (gg : Int32) (gb : Int32) (gu : Int32) (gh : Int32) (gk : Int32) (gl : Int32)  (h : B_X6_untellable_79  Q ms v4 my mw ml mo gm gs ga gg gb gu gh gk gl) : GoX p l e rmX6_untellable s m args below meth c D A 6 0 0 (QP_X6_untellable D A ad cA ms mb mt gn gt Q below args s) 79 [(4, .int v4)] [] (WM ad cA ms mb my mt mw ml mo gm gs ga gg gb gu gh gk gl gn gt) := by
  replace h : (Q v4 my mw ml mo gm gs ga gg gb gu gh gk gl) := h
  refine g_iload C 0 dX6_untellable_79 rfl ?_
  exact g_iret C hrt9 hlk (u := (my, mw, ml, mo, gm, gs, ga, gg, gb, gu, gh, gk, gl)) rfl h dX6_untellable_81
set_option maxHeartbeats 4000000 in
set_option maxRecDepth 100000 in
theorem t_B_X6_untellable_70 {kh35 : Int32 → Int32 → Int32 → Int32 → Int32 → (Nat → Int32) → (Nat → Int32) → (Nat → Int32) → (Nat → Int32) → Int32 → Int32 → Int32 → Int32 → Int32 → Int32 → Int32 → Int32 → Int32 → Prop} {Q : Int32 → (Nat → Int32) → (Nat → Int32) → (Nat → Int32) → (Nat → Int32) → Int32 → Int32 → Int32 → Int32 → Int32 → Int32 → Int32 → Int32 → Int32 → Prop} (C : CxX p s m args c D (tysX cA) RX6 cX6_untellable 6 wsX6_untellable) (hrt9 : meth.sig.returnType = (some .int)) (hlk : meth.locks = false) (Hk35 : ∀ (v1q : Int32) (v2q : Int32) (v3q : Int32) (v4q : Int32) (v5q : Int32) (myq : (Nat → Int32)) (mwq : (Nat → Int32)) (mlq : (Nat → Int32)) (moq : (Nat → Int32)) (gmq : Int32) (gsq : Int32) (gaq : Int32) (ggq : Int32) (gbq : Int32) (guq : Int32) (ghq : Int32) (gkq : Int32) (glq : Int32) , kh35 v1q v2q v3q v4q v5q myq mwq mlq moq gmq gsq gaq ggq gbq guq ghq gkq glq → GoX p l e rmX6_untellable s m args below meth c D A 6 0 0 (QP_X6_untellable D A ad cA ms mb mt gn gt Q below args s) 35 [(0, .ref (ad 0)), (1, .int v1q), (2, .int v2q), (3, .int v3q), (4, .int v4q), (5, .int v5q)] [] (WM ad cA ms mb myq mt mwq mlq moq gmq gsq gaq ggq gbq guq ghq gkq glq gn gt)) (v1 : Int32) (v2 : Int32) (v3 : Int32) (v5 : Int32) (s0 : Int32) (s1 : Int32) (my : (Nat → Int32)) (mw : (Nat → Int32)) (ml : (Nat → Int32)) (mo : (Nat → Int32)) (gm : Int32) (gs : Int32) (ga : Int32) (gg : Int32) (gb : Int32) (gu : Int32) (gh : Int32) (gk : Int32) (gl : Int32)  (h : B_X6_untellable_70 kh35 Q ms v1 v2 v3 v5 s0 s1 my mw ml mo gm gs ga gg gb gu gh gk gl) : GoX p l e rmX6_untellable s m args below meth c D A 6 0 0 (QP_X6_untellable D A ad cA ms mb mt gn gt Q below args s) 70 [(0, .ref (ad 0)), (1, .int v1), (2, .int v2), (3, .int v3), (5, .int v5)] [.int s1, .int s0] (WM ad cA ms mb my mt mw ml mo gm gs ga gg gb gu gh gk gl gn gt) := by
  replace h : (kh35 v1 v2 v3 (s0 + s1) (v5 + (1 : Int32)) my mw ml mo gm gs ga gg gb gu gh gk gl) := h
  refine g_iadd C dX6_untellable_70 ?_
  refine g_istore C (lv2 := [(4, .int (s0 + s1)), (0, .ref (ad 0)), (1, .int v1), (2, .int v2), (3, .int v3), (5, .int v5)]) dX6_untellable_71 (by decide) rfl ?_
  refine g_iinc C (v := (v5 + (1 : Int32))) (lv2 := [(5, .int (v5 + (1 : Int32))), (4, .int (s0 + s1)), (0, .ref (ad 0)), (1, .int v1), (2, .int v2), (3, .int v3)]) 5 dX6_untellable_73 rfl rfl (by decide) rfl ?_
  refine g_goto C 35 dX6_untellable_76 (by decide) ?_
  exact g_sub [2, 3, 4, 5, 1, 0] rfl (Hk35 v1 v2 v3 (s0 + s1) (v5 + (1 : Int32)) my mw ml mo gm gs ga gg gb gu gh gk gl  h)
set_option maxHeartbeats 4000000 in
set_option maxRecDepth 100000 in
theorem t_L_X6_untellable_35  {Q : Int32 → (Nat → Int32) → (Nat → Int32) → (Nat → Int32) → (Nat → Int32) → Int32 → Int32 → Int32 → Int32 → Int32 → Int32 → Int32 → Int32 → Int32 → Prop} (C : CxX p s m args c D (tysX cA) RX6 cX6_untellable 6 wsX6_untellable) (hrt9 : meth.sig.returnType = (some .int)) (hlk : meth.locks = false) (m9 : Nat) : ∀ (v1 : Int32) (v2 : Int32) (v3 : Int32) (v4 : Int32) (v5 : Int32) (my : (Nat → Int32)) (mw : (Nat → Int32)) (ml : (Nat → Int32)) (mo : (Nat → Int32)) (gm : Int32) (gs : Int32) (ga : Int32) (gg : Int32) (gb : Int32) (gu : Int32) (gh : Int32) (gk : Int32) (gl : Int32) , L_X6_untellable_35  Q ms m9 v1 v2 v3 v4 v5 my mw ml mo gm gs ga gg gb gu gh gk gl → GoX p l e rmX6_untellable s m args below meth c D A 6 0 0 (QP_X6_untellable D A ad cA ms mb mt gn gt Q below args s) 35 [(0, .ref (ad 0)), (1, .int v1), (2, .int v2), (3, .int v3), (4, .int v4), (5, .int v5)] [] (WM ad cA ms mb my mt mw ml mo gm gs ga gg gb gu gh gk gl gn gt) := by
  induction m9 with
  | zero =>
    intro v1 v2 v3 v4 v5 my mw ml mo gm gs ga gg gb gu gh gk gl h
    exact False.elim h
  | succ m9 Hk35 =>
    intro v1 v2 v3 v4 v5 my mw ml mo gm gs ga gg gb gu gh gk gl h
    replace h : (((v2 + v3) ≤ v5 → (B_X6_untellable_79  Q ms v4 my mw ml mo gm gs ga gg gb gu gh gk gl)) ∧ (¬ (v2 + v3) ≤ v5 → (((8000 : Int32) ≤ v5 → (B_X6_untellable_79  Q ms v4 my mw ml mo gm gs ga gg gb gu gh gk gl)) ∧ (¬ (8000 : Int32) ≤ v5 → (F_X6_best v1 v5 ms my mw ml mo gm gs ga gg gb gu gh gk gl (fun r_3 my_4 mw_5 ml_6 mo_7 gm_8 gs_9 ga_10 gg_11 gb_12 gu_13 gh_14 gk_15 gl_16 => ((r_3 = (-5 : Int32) → (B_X6_untellable_70 (L_X6_untellable_35  Q ms m9) Q ms v1 v2 v3 v5 v4 (1 : Int32) my_4 mw_5 ml_6 mo_7 gm_8 gs_9 ga_10 gg_11 gb_12 gu_13 gh_14 gk_15 gl_16)) ∧ (¬ r_3 = (-5 : Int32) → (B_X6_untellable_70 (L_X6_untellable_35  Q ms m9) Q ms v1 v2 v3 v5 v4 (0 : Int32) my_4 mw_5 ml_6 mo_7 gm_8 gs_9 ga_10 gg_11 gb_12 gu_13 gh_14 gk_15 gl_16))))))))) := h
    refine g_iload C 5 dX6_untellable_35 rfl ?_
    refine g_iload_n C 2 dX6_untellable_37 rfl rfl ?_
    refine g_iload_n C 3 dX6_untellable_38 rfl rfl ?_
    refine g_iadd C dX6_untellable_39 ?_
    refine g_icmp_ge C 79 dX6_untellable_40 (by decide) (fun c_1 => ?_) (fun c_1 => ?_)
    · replace h := h.1 c_1
      exact g_sub [4] rfl (t_B_X6_untellable_79 C hrt9 hlk  v4 my mw ml mo gm gs ga gg gb gu gh gk gl  h)
    · replace h := h.2 c_1
      refine g_iload C 5 dX6_untellable_43 rfl ?_
      refine g_sipush C (8000 : Int32) dX6_untellable_45 (by decide) ?_
      refine g_icmp_ge C 79 dX6_untellable_48 (by decide) (fun c_2 => ?_) (fun c_2 => ?_)
      · replace h := h.1 c_2
        exact g_sub [4] rfl (t_B_X6_untellable_79 C hrt9 hlk  v4 my mw ml mo gm gs ga gg gb gu gh gk gl  h)
      · replace h := h.2 c_2
        refine g_iload C 4 dX6_untellable_51 rfl ?_
        refine g_aload_n C 0 dX6_untellable_53 rfl rfl ?_
        refine g_iload_n C 1 dX6_untellable_54 rfl rfl ?_
        refine g_iload C 5 dX6_untellable_55 rfl ?_
        refine k_X6_best C gX6_untellable_X6_best ⟨Nat.le_of_ble_eq_true rfl, Nat.le_of_ble_eq_true rfl⟩ (Nat.le_of_ble_eq_true rfl) dX6_untellable_57  h (fun r_3 my_4 mw_5 ml_6 mo_7 gm_8 gs_9 ga_10 gg_11 gb_12 gu_13 gh_14 gk_15 gl_16 h => ?_)
        refine g_bipush C (-5 : Int32) dX6_untellable_60 (by decide) ?_
        refine g_icmp_ne C 69 dX6_untellable_62 (by decide) (fun c_17 => ?_) (fun c_17 => ?_)
        · replace h := h.2 c_17
          refine g_iconst C (0 : Int32) dX6_untellable_69 (by decide) ?_
          exact g_sub [0, 1, 2, 3, 5] rfl (t_B_X6_untellable_70 C hrt9 hlk Hk35 v1 v2 v3 v5 v4 (0 : Int32) my_4 mw_5 ml_6 mo_7 gm_8 gs_9 ga_10 gg_11 gb_12 gu_13 gh_14 gk_15 gl_16  h)
        · replace h := h.1 c_17
          refine g_iconst C (1 : Int32) dX6_untellable_65 (by decide) ?_
          refine g_goto C 70 dX6_untellable_66 (by decide) ?_
          exact g_sub [0, 1, 2, 3, 5] rfl (t_B_X6_untellable_70 C hrt9 hlk Hk35 v1 v2 v3 v5 v4 (1 : Int32) my_4 mw_5 ml_6 mo_7 gm_8 gs_9 ga_10 gg_11 gb_12 gu_13 gh_14 gk_15 gl_16  h)
set_option maxHeartbeats 4000000 in
set_option maxRecDepth 100000 in
theorem t_B_X6_untellable_0  {Q : Int32 → (Nat → Int32) → (Nat → Int32) → (Nat → Int32) → (Nat → Int32) → Int32 → Int32 → Int32 → Int32 → Int32 → Int32 → Int32 → Int32 → Int32 → Prop} (C : CxX p s m args c D (tysX cA) RX6 cX6_untellable 6 wsX6_untellable) (hrt9 : meth.sig.returnType = (some .int)) (hlk : meth.locks = false) (v1 : Int32) (v2 : Int32) (v3 : Int32) (my : (Nat → Int32)) (mw : (Nat → Int32)) (ml : (Nat → Int32)) (mo : (Nat → Int32)) (gm : Int32) (gs : Int32) (ga : Int32) (gg : Int32) (gb : Int32) (gu : Int32) (gh : Int32) (gk : Int32) (gl : Int32)  (h : B_X6_untellable_0  Q ms v1 v2 v3 my mw ml mo gm gs ga gg gb gu gh gk gl) : GoX p l e rmX6_untellable s m args below meth c D A 6 0 0 (QP_X6_untellable D A ad cA ms mb mt gn gt Q below args s) 0 [(0, .ref (ad 0)), (1, .int v1), (2, .int v2), (3, .int v3)] [] (WM ad cA ms mb my mt mw ml mo gm gs ga gg gb gu gh gk gl gn gt) := by
  replace h : (F_X6_isHearer v1 (fun r_18 => ((r_18 = 0 → (Q (-1 : Int32) my mw ml mo gm gs ga gg gb gu gh gk gl)) ∧ (¬ r_18 = 0 → (F_X6_isNumber v2 (fun r_20 => ((r_20 = 0 → (B_X6_untellable_26  Q ms my mw ml mo gm gs ga gg gb gu gh gk gl)) ∧ (¬ r_20 = 0 → (F_X6_in v3 (1 : Int32) (40 : Int32) (fun r_22 => ((r_22 = 0 → (B_X6_untellable_26  Q ms my mw ml mo gm gs ga gg gb gu gh gk gl)) ∧ (¬ r_22 = 0 → (∃ n9 : Nat, L_X6_untellable_35  Q ms n9 v1 v2 v3 (0 : Int32) v2 my mw ml mo gm gs ga gg gb gu gh gk gl))))))))))))) := h
  refine g_iload_n C 1 dX6_untellable_0 rfl rfl ?_
  refine k_X6_isHearer C gX6_untellable_X6_isHearer ⟨Nat.le_of_ble_eq_true rfl, Nat.le_of_ble_eq_true rfl⟩ (Nat.le_of_ble_eq_true rfl) dX6_untellable_1  h (fun r_18 h => ?_)
  refine g_if_ne C 9 dX6_untellable_4 (by decide) (fun c_19 => ?_) (fun c_19 => ?_)
  · replace h := h.2 c_19
    refine g_iload_n C 2 dX6_untellable_9 rfl rfl ?_
    refine k_X6_isNumber C gX6_untellable_X6_isNumber ⟨Nat.le_of_ble_eq_true rfl, Nat.le_of_ble_eq_true rfl⟩ (Nat.le_of_ble_eq_true rfl) dX6_untellable_10  h (fun r_20 h => ?_)
    refine g_if_eq C 26 dX6_untellable_13 (by decide) (fun c_21 => ?_) (fun c_21 => ?_)
    · replace h := h.1 c_21
      exact g_sub [] rfl (t_B_X6_untellable_26 C hrt9 hlk  my mw ml mo gm gs ga gg gb gu gh gk gl  h)
    · replace h := h.2 c_21
      refine g_iload_n C 3 dX6_untellable_16 rfl rfl ?_
      refine g_iconst C (1 : Int32) dX6_untellable_17 (by decide) ?_
      refine g_bipush C (40 : Int32) dX6_untellable_18 (by decide) ?_
      refine k_X6_in C gX6_untellable_X6_in ⟨Nat.le_of_ble_eq_true rfl, Nat.le_of_ble_eq_true rfl⟩ (Nat.le_of_ble_eq_true rfl) dX6_untellable_20  h (fun r_22 h => ?_)
      refine g_if_ne C 29 dX6_untellable_23 (by decide) (fun c_23 => ?_) (fun c_23 => ?_)
      · replace h := h.2 c_23
        refine g_iconst C (0 : Int32) dX6_untellable_29 (by decide) ?_
        refine g_istore C (lv2 := [(4, .int (0 : Int32)), (0, .ref (ad 0)), (1, .int v1), (2, .int v2), (3, .int v3)]) dX6_untellable_30 (by decide) rfl ?_
        refine g_iload_n C 3 dX6_untellable_32 rfl rfl ?_
        refine g_istore C (lv2 := [(5, .int v2), (4, .int (0 : Int32)), (0, .ref (ad 0)), (1, .int v1), (2, .int v2), (3, .int v3)]) dX6_untellable_33 (by decide) rfl ?_
        obtain ⟨n9, h⟩ := h
        exact g_sub [2, 3, 4, 5, 1, 0] rfl (t_L_X6_untellable_35 C hrt9 hlk  n9 v1 v2 v3 (0 : Int32) v2 my mw ml mo gm gs ga gg gb gu gh gk gl  h)
      · replace h := h.1 c_23
        exact g_sub [] rfl (t_B_X6_untellable_26 C hrt9 hlk  my mw ml mo gm gs ga gg gb gu gh gk gl  h)
  · replace h := h.1 c_19
    refine g_iconst C (-1 : Int32) dX6_untellable_7 (by decide) ?_
    exact g_iret C hrt9 hlk (u := (my, mw, ml, mo, gm, gs, ga, gg, gb, gu, gh, gk, gl)) rfl h dX6_untellable_8
theorem c_X6_untellable (l : Launch) (D : va_G) (A : Nat → Prop) (ad : Nat → Nat) (cA : Nat → ClassId) (v1 : Int32) (v2 : Int32) (v3 : Int32) {ms : (Nat → Int32)} {mb : (Nat → Int32)} {my : (Nat → Int32)} {mt : (Nat → Int32)} {mw : (Nat → Int32)} {ml : (Nat → Int32)} {mo : (Nat → Int32)} {gm : Int32} {gs : Int32} {ga : Int32} {gg : Int32} {gb : Int32} {gu : Int32} {gh : Int32} {gk : Int32} {gl : Int32} {gn : Int32} {gt : Int32}  (Q : Int32 → (Nat → Int32) → (Nat → Int32) → (Nat → Int32) → (Nat → Int32) → Int32 → Int32 → Int32 → Int32 → Int32 → Int32 → Int32 → Int32 → Int32 → Prop) (h : F_X6_untellable v1 v2 v3 ms my mw ml mo gm gs ga gg gb gu gh gk gl Q) : Met l yX6_untellable wsX6_untellable rmX6_untellable (va_Pc [.ref (ad 0), .int v1, .int v2, .int v3] (OKX D (tysX cA) (WM ad cA ms mb my mt mw ml mo gm gs ga gg gb gu gh gk gl gn gt) A)) (QC_X6_untellable D A ad cA ms mb mt gn gt Q) 0 0 A :=
  g_met (own := RX6) (by decide) rfl rfl (Nat.le_of_ble_eq_true rfl) (fun p e s m below meth c C hrt9 hlk _ => g_sub [0, 1, 2, 3] rfl (t_B_X6_untellable_0 C hrt9 hlk v1 v2 v3 my mw ml mo gm gs ga gg gb gu gh gk gl  h))
theorem k_X6_untellable {ws : List Cond} {own : String} {cc : ByteArray} {nL pc index : Nat} {lv : List (Nat × Value)} {st : List Value} {Q : State → Prop} {R : Room} {K : Int32 → (Nat → Int32) → (Nat → Int32) → (Nat → Int32) → (Nat → Int32) → Int32 → Int32 → Int32 → Int32 → Int32 → Int32 → Int32 → Int32 → Int32 → Prop} {v1 : Int32} {v2 : Int32} {v3 : Int32} (C : CxX p s m args c D (tysX cA) own cc nL ws) (hT : GoodIn ws (wsV own index RX6 yX6_untellable wsX6_untellable)) (hR : rmX6_untellable.frames + 1 ≤ R.frames ∧ 8 + (6 + 11) + rmX6_untellable.locals ≤ R.locals) (hcat : (st.map fun v => v.category).sum ≤ 8) (hdg : decode cc pc = .ok (.invokevirtual index, 3))  (h : F_X6_untellable v1 v2 v3 ms my mw ml mo gm gs ga gg gb gu gh gk gl K) (kk : ∀ (r : Int32) (myq : (Nat → Int32)) (mwq : (Nat → Int32)) (mlq : (Nat → Int32)) (moq : (Nat → Int32)) (gmq : Int32) (gsq : Int32) (gaq : Int32) (ggq : Int32) (gbq : Int32) (guq : Int32) (ghq : Int32) (gkq : Int32) (glq : Int32), K r myq mwq mlq moq gmq gsq gaq ggq gbq guq ghq gkq glq → GoX p l e R s m args below meth c D A nL 0 0 Q (pc + 3) lv (.int r :: st) (WM ad cA ms mb myq mt mwq mlq moq gmq gsq gaq ggq gbq guq ghq gkq glq gn gt)) : GoX p l e R s m args below meth c D A nL 0 0 Q pc lv (.int v3 :: .int v2 :: .int v1 :: .ref (ad 0) :: st) (WM ad cA ms mb my mt mw ml mo gm gs ga gg gb gu gh gk gl gn gt) :=
  g_callVi C (As := [.int v1, .int v2, .int v3]) 3 (c_X6_untellable l D A ad cA v1 v2 v3  K h) hT rfl rfl rfl (by decide +kernel) hR 0 WMg0 rfl rfl rfl hcat hdg (fun r u hu => kk r u.1 u.2.1 u.2.2.1 u.2.2.2.1 u.2.2.2.2.1 u.2.2.2.2.2.1 u.2.2.2.2.2.2.1 u.2.2.2.2.2.2.2.1 u.2.2.2.2.2.2.2.2.1 u.2.2.2.2.2.2.2.2.2.1 u.2.2.2.2.2.2.2.2.2.2.1 u.2.2.2.2.2.2.2.2.2.2.2.1 u.2.2.2.2.2.2.2.2.2.2.2.2 hu)
/-! X6_log -/
abbrev rmX6_log : Room := { frames := 1, cells := 0, slots := 0, locals := 22 }
abbrev QC_X6_log (D : va_G) (A : Nat → Prop) (ad : Nat → Nat) (cA : Nat → ClassId) (ms : (Nat → Int32)) (mb : (Nat → Int32)) (my : (Nat → Int32)) (mt : (Nat → Int32)) (mw : (Nat → Int32)) (ml : (Nat → Int32)) (mo : (Nat → Int32)) (gm : Int32) (gs : Int32) (ga : Int32) (gg : Int32) (gb : Int32) (gu : Int32) (gh : Int32) (gk : Int32) (gl : Int32) (gn : Int32) (gt : Int32) (Q : Int32 → Prop) : Array Value → State → Outcome → State → Prop := va_Qi (fun (r : Int32) (u : Unit) => Q r ) (fun u t => OKX D (tysX cA) ((fun u : Unit => WM ad cA ms mb my mt mw ml mo gm gs ga gg gb gu gh gk gl gn gt) u) A t) A
abbrev QP_X6_log (D : va_G) (A : Nat → Prop) (ad : Nat → Nat) (cA : Nat → ClassId) (ms : (Nat → Int32)) (mb : (Nat → Int32)) (my : (Nat → Int32)) (mt : (Nat → Int32)) (mw : (Nat → Int32)) (ml : (Nat → Int32)) (mo : (Nat → Int32)) (gm : Int32) (gs : Int32) (ga : Int32) (gg : Int32) (gb : Int32) (gu : Int32) (gh : Int32) (gk : Int32) (gl : Int32) (gn : Int32) (gt : Int32) (Q : Int32 → Prop) (below : List Frame) (args : Array Value) (s : State) : State → Prop := MQ below (QC_X6_log D A ad cA ms mb my mt mw ml mo gm gs ga gg gb gu gh gk gl gn gt Q) args s 0 0 A
def B_X6_log_13  (Q : Int32 → Prop) (ms : (Nat → Int32))   : Prop := (Q (-2 : Int32))
def B_X6_log_55  (Q : Int32 → Prop) (ms : (Nat → Int32)) (s0 : Int32)  : Prop := (Q s0)
def B_X6_log_0  (Q : Int32 → Prop) (ms : (Nat → Int32)) (v1 : Int32) (v2 : Int32)  : Prop := ((v1 < 0 → (B_X6_log_13  Q ms )) ∧ (¬ v1 < 0 → (F_X6_in v2 (0 : Int32) (4 : Int32) (fun r_2 => ((r_2 = 0 → (B_X6_log_13  Q ms )) ∧ (¬ r_2 = 0 → (vp_in (55 : Int32) 106 ∧ (((ms (55 : Int32).toNatClampNeg) ≤ v1 → (B_X6_log_55  Q ms (-5 : Int32))) ∧ (¬ (ms (55 : Int32).toNatClampNeg) ≤ v1 → (vp_in (55 : Int32) 106 ∧ (vp_in (((56 : Int32) + ((5 : Int32) * (((ms (55 : Int32).toNatClampNeg) - (1 : Int32)) - v1))) + v2) 106 ∧ (B_X6_log_55  Q ms (ms (((56 : Int32) + ((5 : Int32) * (((ms (55 : Int32).toNatClampNeg) - (1 : Int32)) - v1))) + v2).toNatClampNeg)))))))))))))
def F_X6_log (v1 : Int32) (v2 : Int32) (ms : (Nat → Int32))  (Q : Int32 → Prop) : Prop := B_X6_log_0 Q ms v1 v2 
theorem lkX6_log_7 : Cond.fieldLink RX6 7 (TX6 0).1 (TX6 0).2.1 (TX6 0).2.2.1 ∈ wsX6_log := by decide +kernel
theorem inX6_log_6 : ∀ q ∈ u_ws RX6 TX6 18, q ∈ wsX6_log := by decide +kernel
set_option maxHeartbeats 4000000 in
set_option maxRecDepth 100000 in
theorem t_B_X6_log_13  {Q : Int32 → Prop} (C : CxX p s m args c D (tysX cA) RX6 cX6_log 3 wsX6_log) (hrt9 : meth.sig.returnType = (some .int)) (hlk : meth.locks = false)    (h : B_X6_log_13  Q ms ) : GoX p l e rmX6_log s m args below meth c D A 3 0 0 (QP_X6_log D A ad cA ms mb my mt mw ml mo gm gs ga gg gb gu gh gk gl gn gt Q below args s) 13 [] [] (WM ad cA ms mb my mt mw ml mo gm gs ga gg gb gu gh gk gl gn gt) := by
  replace h : (Q (-2 : Int32)) := h
  refine g_bipush C (-2 : Int32) dX6_log_13 (by decide) ?_
  exact g_iret C hrt9 hlk (u := ()) rfl h dX6_log_15
set_option maxHeartbeats 4000000 in
set_option maxRecDepth 100000 in
theorem t_B_X6_log_55  {Q : Int32 → Prop} (C : CxX p s m args c D (tysX cA) RX6 cX6_log 3 wsX6_log) (hrt9 : meth.sig.returnType = (some .int)) (hlk : meth.locks = false) (s0 : Int32)   (h : B_X6_log_55  Q ms s0) : GoX p l e rmX6_log s m args below meth c D A 3 0 0 (QP_X6_log D A ad cA ms mb my mt mw ml mo gm gs ga gg gb gu gh gk gl gn gt Q below args s) 55 [] [.int s0] (WM ad cA ms mb my mt mw ml mo gm gs ga gg gb gu gh gk gl gn gt) := by
  replace h : (Q s0) := h
  exact g_iret C hrt9 hlk (u := ()) rfl h dX6_log_55
set_option maxHeartbeats 4000000 in
set_option maxRecDepth 100000 in
theorem t_B_X6_log_0  {Q : Int32 → Prop} (C : CxX p s m args c D (tysX cA) RX6 cX6_log 3 wsX6_log) (hrt9 : meth.sig.returnType = (some .int)) (hlk : meth.locks = false) (v1 : Int32) (v2 : Int32)   (h : B_X6_log_0  Q ms v1 v2) : GoX p l e rmX6_log s m args below meth c D A 3 0 0 (QP_X6_log D A ad cA ms mb my mt mw ml mo gm gs ga gg gb gu gh gk gl gn gt Q below args s) 0 [(0, .ref (ad 0)), (1, .int v1), (2, .int v2)] [] (WM ad cA ms mb my mt mw ml mo gm gs ga gg gb gu gh gk gl gn gt) := by
  replace h : ((v1 < 0 → (B_X6_log_13  Q ms )) ∧ (¬ v1 < 0 → (F_X6_in v2 (0 : Int32) (4 : Int32) (fun r_2 => ((r_2 = 0 → (B_X6_log_13  Q ms )) ∧ (¬ r_2 = 0 → (vp_in (55 : Int32) 106 ∧ (((ms (55 : Int32).toNatClampNeg) ≤ v1 → (B_X6_log_55  Q ms (-5 : Int32))) ∧ (¬ (ms (55 : Int32).toNatClampNeg) ≤ v1 → (vp_in (55 : Int32) 106 ∧ (vp_in (((56 : Int32) + ((5 : Int32) * (((ms (55 : Int32).toNatClampNeg) - (1 : Int32)) - v1))) + v2) 106 ∧ (B_X6_log_55  Q ms (ms (((56 : Int32) + ((5 : Int32) * (((ms (55 : Int32).toNatClampNeg) - (1 : Int32)) - v1))) + v2).toNatClampNeg))))))))))))) := h
  refine g_iload_n C 1 dX6_log_0 rfl rfl ?_
  refine g_if_lt C 13 dX6_log_1 (by decide) (fun c_1 => ?_) (fun c_1 => ?_)
  · replace h := h.1 c_1
    exact g_sub [] rfl (t_B_X6_log_13 C hrt9 hlk    h)
  · replace h := h.2 c_1
    refine g_iload_n C 2 dX6_log_4 rfl rfl ?_
    refine g_iconst C (0 : Int32) dX6_log_5 (by decide) ?_
    refine g_iconst C (4 : Int32) dX6_log_6 (by decide) ?_
    refine k_X6_in C gX6_log_X6_in ⟨Nat.le_of_ble_eq_true rfl, Nat.le_of_ble_eq_true rfl⟩ (Nat.le_of_ble_eq_true rfl) dX6_log_7  h (fun r_2 h => ?_)
    refine g_if_ne C 16 dX6_log_10 (by decide) (fun c_3 => ?_) (fun c_3 => ?_)
    · replace h := h.2 c_3
      refine g_iload_n C 1 dX6_log_16 rfl rfl ?_
      refine g_aload_n C 0 dX6_log_17 rfl rfl ?_
      refine g_get C inX6_log_6 0 WMg0 rfl 0 (by decide) lkX6_log_7 rfl dX6_log_18 ?_
      refine g_bipush C (55 : Int32) dX6_log_21 (by decide) ?_
      refine g_iald C 1 1 WMg1 rfl h.1 dX6_log_23 ?_
      replace h := h.2
      refine g_icmp_ge C 53 dX6_log_24 (by decide) (fun c_4 => ?_) (fun c_4 => ?_)
      · replace h := h.1 c_4
        refine g_bipush C (-5 : Int32) dX6_log_53 (by decide) ?_
        exact g_sub [] rfl (t_B_X6_log_55 C hrt9 hlk  (-5 : Int32)  h)
      · replace h := h.2 c_4
        refine g_aload_n C 0 dX6_log_27 rfl rfl ?_
        refine g_get C inX6_log_6 0 WMg0 rfl 0 (by decide) lkX6_log_7 rfl dX6_log_28 ?_
        refine g_bipush C (56 : Int32) dX6_log_31 (by decide) ?_
        refine g_iconst C (5 : Int32) dX6_log_33 (by decide) ?_
        refine g_aload_n C 0 dX6_log_34 rfl rfl ?_
        refine g_get C inX6_log_6 0 WMg0 rfl 0 (by decide) lkX6_log_7 rfl dX6_log_35 ?_
        refine g_bipush C (55 : Int32) dX6_log_38 (by decide) ?_
        refine g_iald C 1 1 WMg1 rfl h.1 dX6_log_40 ?_
        replace h := h.2
        refine g_iconst C (1 : Int32) dX6_log_41 (by decide) ?_
        refine g_isub C dX6_log_42 ?_
        refine g_iload_n C 1 dX6_log_43 rfl rfl ?_
        refine g_isub C dX6_log_44 ?_
        refine g_imul C dX6_log_45 ?_
        refine g_iadd C dX6_log_46 ?_
        refine g_iload_n C 2 dX6_log_47 rfl rfl ?_
        refine g_iadd C dX6_log_48 ?_
        refine g_iald C 1 1 WMg1 rfl h.1 dX6_log_49 ?_
        replace h := h.2
        refine g_goto C 55 dX6_log_50 (by decide) ?_
        exact g_sub [] rfl (t_B_X6_log_55 C hrt9 hlk  (ms (((56 : Int32) + ((5 : Int32) * (((ms (55 : Int32).toNatClampNeg) - (1 : Int32)) - v1))) + v2).toNatClampNeg)  h)
    · replace h := h.1 c_3
      exact g_sub [] rfl (t_B_X6_log_13 C hrt9 hlk    h)
theorem c_X6_log (l : Launch) (D : va_G) (A : Nat → Prop) (ad : Nat → Nat) (cA : Nat → ClassId) (v1 : Int32) (v2 : Int32) {ms : (Nat → Int32)} {mb : (Nat → Int32)} {my : (Nat → Int32)} {mt : (Nat → Int32)} {mw : (Nat → Int32)} {ml : (Nat → Int32)} {mo : (Nat → Int32)} {gm : Int32} {gs : Int32} {ga : Int32} {gg : Int32} {gb : Int32} {gu : Int32} {gh : Int32} {gk : Int32} {gl : Int32} {gn : Int32} {gt : Int32}  (Q : Int32 → Prop) (h : F_X6_log v1 v2 ms Q) : Met l yX6_log wsX6_log rmX6_log (va_Pc [.ref (ad 0), .int v1, .int v2] (OKX D (tysX cA) (WM ad cA ms mb my mt mw ml mo gm gs ga gg gb gu gh gk gl gn gt) A)) (QC_X6_log D A ad cA ms mb my mt mw ml mo gm gs ga gg gb gu gh gk gl gn gt Q) 0 0 A :=
  g_met (own := RX6) (by decide) rfl rfl (Nat.le_of_ble_eq_true rfl) (fun p e s m below meth c C hrt9 hlk _ => g_sub [0, 1, 2] rfl (t_B_X6_log_0 C hrt9 hlk v1 v2   h))
theorem k_X6_log {ws : List Cond} {own : String} {cc : ByteArray} {nL pc index : Nat} {lv : List (Nat × Value)} {st : List Value} {Q : State → Prop} {R : Room} {K : Int32 → Prop} {v1 : Int32} {v2 : Int32} (C : CxX p s m args c D (tysX cA) own cc nL ws) (hT : GoodIn ws (wsV own index RX6 yX6_log wsX6_log)) (hR : rmX6_log.frames + 1 ≤ R.frames ∧ 8 + (3 + 11) + rmX6_log.locals ≤ R.locals) (hcat : (st.map fun v => v.category).sum ≤ 8) (hdg : decode cc pc = .ok (.invokevirtual index, 3))  (h : F_X6_log v1 v2 ms K) (kk : ∀ (r : Int32) , K r → GoX p l e R s m args below meth c D A nL 0 0 Q (pc + 3) lv (.int r :: st) (WM ad cA ms mb my mt mw ml mo gm gs ga gg gb gu gh gk gl gn gt)) : GoX p l e R s m args below meth c D A nL 0 0 Q pc lv (.int v2 :: .int v1 :: .ref (ad 0) :: st) (WM ad cA ms mb my mt mw ml mo gm gs ga gg gb gu gh gk gl gn gt) :=
  g_callVi C (As := [.int v1, .int v2]) 2 (c_X6_log l D A ad cA v1 v2  K h) hT rfl rfl rfl (by decide +kernel) hR 0 WMg0 rfl rfl rfl hcat hdg (fun r u hu => kk r  hu)
/-! X6_sumOf -/
abbrev rmX6_sumOf : Room := { frames := 1, cells := 0, slots := 0, locals := 22 }
abbrev QC_X6_sumOf (D : va_G) (A : Nat → Prop) (ad : Nat → Nat) (cA : Nat → ClassId) (ms : (Nat → Int32)) (mb : (Nat → Int32)) (my : (Nat → Int32)) (mt : (Nat → Int32)) (mw : (Nat → Int32)) (ml : (Nat → Int32)) (mo : (Nat → Int32)) (gm : Int32) (gs : Int32) (ga : Int32) (gg : Int32) (gb : Int32) (gu : Int32) (gh : Int32) (gk : Int32) (gl : Int32) (gn : Int32) (gt : Int32) (Q : Int32 → Prop) : Array Value → State → Outcome → State → Prop := va_Qi (fun (r : Int32) (u : Unit) => Q r ) (fun u t => OKX D (tysX cA) ((fun u : Unit => WM ad cA ms mb my mt mw ml mo gm gs ga gg gb gu gh gk gl gn gt) u) A t) A
abbrev QP_X6_sumOf (D : va_G) (A : Nat → Prop) (ad : Nat → Nat) (cA : Nat → ClassId) (ms : (Nat → Int32)) (mb : (Nat → Int32)) (my : (Nat → Int32)) (mt : (Nat → Int32)) (mw : (Nat → Int32)) (ml : (Nat → Int32)) (mo : (Nat → Int32)) (gm : Int32) (gs : Int32) (ga : Int32) (gg : Int32) (gb : Int32) (gu : Int32) (gh : Int32) (gk : Int32) (gl : Int32) (gn : Int32) (gt : Int32) (Q : Int32 → Prop) (below : List Frame) (args : Array Value) (s : State) : State → Prop := MQ below (QC_X6_sumOf D A ad cA ms mb my mt mw ml mo gm gs ga gg gb gu gh gk gl gn gt Q) args s 0 0 A
def B_X6_sumOf_98 (kh4 : Int32 → Int32 → Int32 → Prop) (Q : Int32 → Prop) (ms : (Nat → Int32)) (v1 : Int32) (v3 : Int32) (s0 : Int32) (s1 : Int32)  : Prop := (kh4 v1 (s0 + s1) (v3 + (1 : Int32)))
noncomputable def L_X6_sumOf_4  (Q : Int32 → Prop) (ms : (Nat → Int32)) (n9 : Nat) : Int32 → Int32 → Int32 → Prop := Nat.rec (motive := fun _ => Int32 → Int32 → Int32 → Prop) (fun _ _ _ => False) (fun _ kh4 => fun v1 v2 v3 => (((6 : Int32) ≤ v3 → (Q v2)) ∧ (¬ (6 : Int32) ≤ v3 → ((v1 = 0 → (vp_in (((9 : Int32) * v3) + (7 : Int32)) 106 ∧ (B_X6_sumOf_98 kh4 Q ms v1 v3 v2 (ms (((9 : Int32) * v3) + (7 : Int32)).toNatClampNeg)))) ∧ (¬ v1 = 0 → ((v1 = (1 : Int32) → (vp_in (((9 : Int32) * v3) + (8 : Int32)) 106 ∧ (B_X6_sumOf_98 kh4 Q ms v1 v3 v2 (ms (((9 : Int32) * v3) + (8 : Int32)).toNatClampNeg)))) ∧ (¬ v1 = (1 : Int32) → ((v1 = (2 : Int32) → (F_X6_known v3 ms (fun r_5 => (B_X6_sumOf_98 kh4 Q ms v1 v3 v2 r_5)))) ∧ (¬ v1 = (2 : Int32) → (vp_in (((9 : Int32) * v3) + (3 : Int32)) 106 ∧ (vp_in ((((9 : Int32) * v3) + (3 : Int32)) + (1 : Int32)) 106 ∧ (vp_in ((((9 : Int32) * v3) + (3 : Int32)) + (2 : Int32)) 106 ∧ (B_X6_sumOf_98 kh4 Q ms v1 v3 v2 (((ms (((9 : Int32) * v3) + (3 : Int32)).toNatClampNeg) + (ms ((((9 : Int32) * v3) + (3 : Int32)) + (1 : Int32)).toNatClampNeg)) + (ms ((((9 : Int32) * v3) + (3 : Int32)) + (2 : Int32)).toNatClampNeg))))))))))))))) n9
def B_X6_sumOf_0  (Q : Int32 → Prop) (ms : (Nat → Int32)) (v1 : Int32)  : Prop := (∃ n9 : Nat, L_X6_sumOf_4  Q ms n9 v1 (0 : Int32) (0 : Int32))
def F_X6_sumOf (v1 : Int32) (ms : (Nat → Int32))  (Q : Int32 → Prop) : Prop := B_X6_sumOf_0 Q ms v1 
theorem lkX6_sumOf_7 : Cond.fieldLink RX6 7 (TX6 0).1 (TX6 0).2.1 (TX6 0).2.2.1 ∈ wsX6_sumOf := by decide +kernel
theorem inX6_sumOf_6 : ∀ q ∈ u_ws RX6 TX6 18, q ∈ wsX6_sumOf := by decide +kernel
set_option maxHeartbeats 4000000 in
set_option maxRecDepth 100000 in
theorem t_B_X6_sumOf_98 {kh4 : Int32 → Int32 → Int32 → Prop} {Q : Int32 → Prop} (C : CxX p s m args c D (tysX cA) RX6 cX6_sumOf 5 wsX6_sumOf) (hrt9 : meth.sig.returnType = (some .int)) (hlk : meth.locks = false) (Hk4 : ∀ (v1q : Int32) (v2q : Int32) (v3q : Int32)  , kh4 v1q v2q v3q → GoX p l e rmX6_sumOf s m args below meth c D A 5 0 0 (QP_X6_sumOf D A ad cA ms mb my mt mw ml mo gm gs ga gg gb gu gh gk gl gn gt Q below args s) 4 [(0, .ref (ad 0)), (1, .int v1q), (2, .int v2q), (3, .int v3q)] [] (WM ad cA ms mb my mt mw ml mo gm gs ga gg gb gu gh gk gl gn gt)) (v1 : Int32) (v3 : Int32) (s0 : Int32) (s1 : Int32)   (h : B_X6_sumOf_98 kh4 Q ms v1 v3 s0 s1) : GoX p l e rmX6_sumOf s m args below meth c D A 5 0 0 (QP_X6_sumOf D A ad cA ms mb my mt mw ml mo gm gs ga gg gb gu gh gk gl gn gt Q below args s) 98 [(0, .ref (ad 0)), (1, .int v1), (3, .int v3)] [.int s1, .int s0] (WM ad cA ms mb my mt mw ml mo gm gs ga gg gb gu gh gk gl gn gt) := by
  replace h : (kh4 v1 (s0 + s1) (v3 + (1 : Int32))) := h
  refine g_iadd C dX6_sumOf_98 ?_
  refine g_istore_n C (lv2 := [(2, .int (s0 + s1)), (0, .ref (ad 0)), (1, .int v1), (3, .int v3)]) dX6_sumOf_99 rfl (by decide) rfl ?_
  refine g_iinc C (v := (v3 + (1 : Int32))) (lv2 := [(3, .int (v3 + (1 : Int32))), (2, .int (s0 + s1)), (0, .ref (ad 0)), (1, .int v1)]) 3 dX6_sumOf_100 rfl rfl (by decide) rfl ?_
  refine g_goto C 4 dX6_sumOf_103 (by decide) ?_
  exact g_sub [2, 3, 1, 0] rfl (Hk4 v1 (s0 + s1) (v3 + (1 : Int32))  h)
set_option maxHeartbeats 4000000 in
set_option maxRecDepth 100000 in
theorem t_L_X6_sumOf_4  {Q : Int32 → Prop} (C : CxX p s m args c D (tysX cA) RX6 cX6_sumOf 5 wsX6_sumOf) (hrt9 : meth.sig.returnType = (some .int)) (hlk : meth.locks = false) (m9 : Nat) : ∀ (v1 : Int32) (v2 : Int32) (v3 : Int32)  , L_X6_sumOf_4  Q ms m9 v1 v2 v3 → GoX p l e rmX6_sumOf s m args below meth c D A 5 0 0 (QP_X6_sumOf D A ad cA ms mb my mt mw ml mo gm gs ga gg gb gu gh gk gl gn gt Q below args s) 4 [(0, .ref (ad 0)), (1, .int v1), (2, .int v2), (3, .int v3)] [] (WM ad cA ms mb my mt mw ml mo gm gs ga gg gb gu gh gk gl gn gt) := by
  induction m9 with
  | zero =>
    intro v1 v2 v3 h
    exact False.elim h
  | succ m9 Hk4 =>
    intro v1 v2 v3 h
    replace h : (((6 : Int32) ≤ v3 → (Q v2)) ∧ (¬ (6 : Int32) ≤ v3 → ((v1 = 0 → (vp_in (((9 : Int32) * v3) + (7 : Int32)) 106 ∧ (B_X6_sumOf_98 (L_X6_sumOf_4  Q ms m9) Q ms v1 v3 v2 (ms (((9 : Int32) * v3) + (7 : Int32)).toNatClampNeg)))) ∧ (¬ v1 = 0 → ((v1 = (1 : Int32) → (vp_in (((9 : Int32) * v3) + (8 : Int32)) 106 ∧ (B_X6_sumOf_98 (L_X6_sumOf_4  Q ms m9) Q ms v1 v3 v2 (ms (((9 : Int32) * v3) + (8 : Int32)).toNatClampNeg)))) ∧ (¬ v1 = (1 : Int32) → ((v1 = (2 : Int32) → (F_X6_known v3 ms (fun r_5 => (B_X6_sumOf_98 (L_X6_sumOf_4  Q ms m9) Q ms v1 v3 v2 r_5)))) ∧ (¬ v1 = (2 : Int32) → (vp_in (((9 : Int32) * v3) + (3 : Int32)) 106 ∧ (vp_in ((((9 : Int32) * v3) + (3 : Int32)) + (1 : Int32)) 106 ∧ (vp_in ((((9 : Int32) * v3) + (3 : Int32)) + (2 : Int32)) 106 ∧ (B_X6_sumOf_98 (L_X6_sumOf_4  Q ms m9) Q ms v1 v3 v2 (((ms (((9 : Int32) * v3) + (3 : Int32)).toNatClampNeg) + (ms ((((9 : Int32) * v3) + (3 : Int32)) + (1 : Int32)).toNatClampNeg)) + (ms ((((9 : Int32) * v3) + (3 : Int32)) + (2 : Int32)).toNatClampNeg)))))))))))))) := h
    refine g_iload_n C 3 dX6_sumOf_4 rfl rfl ?_
    refine g_bipush C (6 : Int32) dX6_sumOf_5 (by decide) ?_
    refine g_icmp_ge C 106 dX6_sumOf_7 (by decide) (fun c_1 => ?_) (fun c_1 => ?_)
    · replace h := h.1 c_1
      refine g_iload_n C 2 dX6_sumOf_106 rfl rfl ?_
      exact g_iret C hrt9 hlk (u := ()) rfl h dX6_sumOf_107
    · replace h := h.2 c_1
      refine g_bipush C (9 : Int32) dX6_sumOf_10 (by decide) ?_
      refine g_iload_n C 3 dX6_sumOf_12 rfl rfl ?_
      refine g_imul C dX6_sumOf_13 ?_
      refine g_istore C (lv2 := [(4, .int ((9 : Int32) * v3)), (0, .ref (ad 0)), (1, .int v1), (2, .int v2), (3, .int v3)]) dX6_sumOf_14 (by decide) rfl ?_
      refine g_iload_n C 3 dX6_sumOf_16 rfl rfl ?_
      refine g_iload_n C 2 dX6_sumOf_17 rfl rfl ?_
      refine g_if_ne C 34 dX6_sumOf_18 (by decide) (fun c_2 => ?_) (fun c_2 => ?_)
      · replace h := h.2 c_2
        refine g_iload_n C 2 dX6_sumOf_34 rfl rfl ?_
        refine g_iconst C (1 : Int32) dX6_sumOf_35 (by decide) ?_
        refine g_icmp_ne C 52 dX6_sumOf_36 (by decide) (fun c_3 => ?_) (fun c_3 => ?_)
        · replace h := h.2 c_3
          refine g_iload_n C 2 dX6_sumOf_52 rfl rfl ?_
          refine g_iconst C (2 : Int32) dX6_sumOf_53 (by decide) ?_
          refine g_icmp_ne C 65 dX6_sumOf_54 (by decide) (fun c_4 => ?_) (fun c_4 => ?_)
          · replace h := h.2 c_4
            refine g_aload_n C 1 dX6_sumOf_65 rfl rfl ?_
            refine g_get C inX6_sumOf_6 0 WMg0 rfl 0 (by decide) lkX6_sumOf_7 rfl dX6_sumOf_66 ?_
            refine g_iload C 0 dX6_sumOf_69 rfl ?_
            refine g_iconst C (3 : Int32) dX6_sumOf_71 (by decide) ?_
            refine g_iadd C dX6_sumOf_72 ?_
            refine g_iald C 1 1 WMg1 rfl h.1 dX6_sumOf_73 ?_
            replace h := h.2
            refine g_aload_n C 1 dX6_sumOf_74 rfl rfl ?_
            refine g_get C inX6_sumOf_6 0 WMg0 rfl 0 (by decide) lkX6_sumOf_7 rfl dX6_sumOf_75 ?_
            refine g_iload C 0 dX6_sumOf_78 rfl ?_
            refine g_iconst C (3 : Int32) dX6_sumOf_80 (by decide) ?_
            refine g_iadd C dX6_sumOf_81 ?_
            refine g_iconst C (1 : Int32) dX6_sumOf_82 (by decide) ?_
            refine g_iadd C dX6_sumOf_83 ?_
            refine g_iald C 1 1 WMg1 rfl h.1 dX6_sumOf_84 ?_
            replace h := h.2
            refine g_iadd C dX6_sumOf_85 ?_
            refine g_aload_n C 1 dX6_sumOf_86 rfl rfl ?_
            refine g_get C inX6_sumOf_6 0 WMg0 rfl 0 (by decide) lkX6_sumOf_7 rfl dX6_sumOf_87 ?_
            refine g_iload C 0 dX6_sumOf_90 rfl ?_
            refine g_iconst C (3 : Int32) dX6_sumOf_92 (by decide) ?_
            refine g_iadd C dX6_sumOf_93 ?_
            refine g_iconst C (2 : Int32) dX6_sumOf_94 (by decide) ?_
            refine g_iadd C dX6_sumOf_95 ?_
            refine g_iald C 1 1 WMg1 rfl h.1 dX6_sumOf_96 ?_
            replace h := h.2
            refine g_iadd C dX6_sumOf_97 ?_
            exact g_sub [1, 2, 4] rfl (t_B_X6_sumOf_98 C hrt9 hlk Hk4 v1 v3 v2 (((ms (((9 : Int32) * v3) + (3 : Int32)).toNatClampNeg) + (ms ((((9 : Int32) * v3) + (3 : Int32)) + (1 : Int32)).toNatClampNeg)) + (ms ((((9 : Int32) * v3) + (3 : Int32)) + (2 : Int32)).toNatClampNeg))  h)
          · replace h := h.1 c_4
            refine g_aload_n C 1 dX6_sumOf_57 rfl rfl ?_
            refine g_iload_n C 4 dX6_sumOf_58 rfl rfl ?_
            refine k_X6_known C gX6_sumOf_X6_known ⟨Nat.le_of_ble_eq_true rfl, Nat.le_of_ble_eq_true rfl⟩ (Nat.le_of_ble_eq_true rfl) dX6_sumOf_59  h (fun r_5 h => ?_)
            refine g_goto C 98 dX6_sumOf_62 (by decide) ?_
            exact g_sub [1, 2, 4] rfl (t_B_X6_sumOf_98 C hrt9 hlk Hk4 v1 v3 v2 r_5  h)
        · replace h := h.1 c_3
          refine g_aload_n C 1 dX6_sumOf_39 rfl rfl ?_
          refine g_get C inX6_sumOf_6 0 WMg0 rfl 0 (by decide) lkX6_sumOf_7 rfl dX6_sumOf_40 ?_
          refine g_iload C 0 dX6_sumOf_43 rfl ?_
          refine g_bipush C (8 : Int32) dX6_sumOf_45 (by decide) ?_
          refine g_iadd C dX6_sumOf_47 ?_
          refine g_iald C 1 1 WMg1 rfl h.1 dX6_sumOf_48 ?_
          replace h := h.2
          refine g_goto C 98 dX6_sumOf_49 (by decide) ?_
          exact g_sub [1, 2, 4] rfl (t_B_X6_sumOf_98 C hrt9 hlk Hk4 v1 v3 v2 (ms (((9 : Int32) * v3) + (8 : Int32)).toNatClampNeg)  h)
      · replace h := h.1 c_2
        refine g_aload_n C 1 dX6_sumOf_21 rfl rfl ?_
        refine g_get C inX6_sumOf_6 0 WMg0 rfl 0 (by decide) lkX6_sumOf_7 rfl dX6_sumOf_22 ?_
        refine g_iload C 0 dX6_sumOf_25 rfl ?_
        refine g_bipush C (7 : Int32) dX6_sumOf_27 (by decide) ?_
        refine g_iadd C dX6_sumOf_29 ?_
        refine g_iald C 1 1 WMg1 rfl h.1 dX6_sumOf_30 ?_
        replace h := h.2
        refine g_goto C 98 dX6_sumOf_31 (by decide) ?_
        exact g_sub [1, 2, 4] rfl (t_B_X6_sumOf_98 C hrt9 hlk Hk4 v1 v3 v2 (ms (((9 : Int32) * v3) + (7 : Int32)).toNatClampNeg)  h)
set_option maxHeartbeats 4000000 in
set_option maxRecDepth 100000 in
theorem t_B_X6_sumOf_0  {Q : Int32 → Prop} (C : CxX p s m args c D (tysX cA) RX6 cX6_sumOf 5 wsX6_sumOf) (hrt9 : meth.sig.returnType = (some .int)) (hlk : meth.locks = false) (v1 : Int32)   (h : B_X6_sumOf_0  Q ms v1) : GoX p l e rmX6_sumOf s m args below meth c D A 5 0 0 (QP_X6_sumOf D A ad cA ms mb my mt mw ml mo gm gs ga gg gb gu gh gk gl gn gt Q below args s) 0 [(0, .ref (ad 0)), (1, .int v1)] [] (WM ad cA ms mb my mt mw ml mo gm gs ga gg gb gu gh gk gl gn gt) := by
  replace h : (∃ n9 : Nat, L_X6_sumOf_4  Q ms n9 v1 (0 : Int32) (0 : Int32)) := h
  refine g_iconst C (0 : Int32) dX6_sumOf_0 (by decide) ?_
  refine g_istore_n C (lv2 := [(2, .int (0 : Int32)), (0, .ref (ad 0)), (1, .int v1)]) dX6_sumOf_1 rfl (by decide) rfl ?_
  refine g_iconst C (0 : Int32) dX6_sumOf_2 (by decide) ?_
  refine g_istore_n C (lv2 := [(3, .int (0 : Int32)), (2, .int (0 : Int32)), (0, .ref (ad 0)), (1, .int v1)]) dX6_sumOf_3 rfl (by decide) rfl ?_
  obtain ⟨n9, h⟩ := h
  exact g_sub [2, 3, 1, 0] rfl (t_L_X6_sumOf_4 C hrt9 hlk  n9 v1 (0 : Int32) (0 : Int32)  h)
theorem c_X6_sumOf (l : Launch) (D : va_G) (A : Nat → Prop) (ad : Nat → Nat) (cA : Nat → ClassId) (v1 : Int32) {ms : (Nat → Int32)} {mb : (Nat → Int32)} {my : (Nat → Int32)} {mt : (Nat → Int32)} {mw : (Nat → Int32)} {ml : (Nat → Int32)} {mo : (Nat → Int32)} {gm : Int32} {gs : Int32} {ga : Int32} {gg : Int32} {gb : Int32} {gu : Int32} {gh : Int32} {gk : Int32} {gl : Int32} {gn : Int32} {gt : Int32}  (Q : Int32 → Prop) (h : F_X6_sumOf v1 ms Q) : Met l yX6_sumOf wsX6_sumOf rmX6_sumOf (va_Pc [.ref (ad 0), .int v1] (OKX D (tysX cA) (WM ad cA ms mb my mt mw ml mo gm gs ga gg gb gu gh gk gl gn gt) A)) (QC_X6_sumOf D A ad cA ms mb my mt mw ml mo gm gs ga gg gb gu gh gk gl gn gt Q) 0 0 A :=
  g_met (own := RX6) (by decide) rfl rfl (Nat.le_of_ble_eq_true rfl) (fun p e s m below meth c C hrt9 hlk _ => g_sub [0, 1] rfl (t_B_X6_sumOf_0 C hrt9 hlk v1   h))
theorem k_X6_sumOf {ws : List Cond} {own : String} {cc : ByteArray} {nL pc index : Nat} {lv : List (Nat × Value)} {st : List Value} {Q : State → Prop} {R : Room} {K : Int32 → Prop} {v1 : Int32} (C : CxX p s m args c D (tysX cA) own cc nL ws) (hT : GoodIn ws (wsV own index RX6 yX6_sumOf wsX6_sumOf)) (hR : rmX6_sumOf.frames + 1 ≤ R.frames ∧ 8 + (5 + 11) + rmX6_sumOf.locals ≤ R.locals) (hcat : (st.map fun v => v.category).sum ≤ 8) (hdg : decode cc pc = .ok (.invokevirtual index, 3))  (h : F_X6_sumOf v1 ms K) (kk : ∀ (r : Int32) , K r → GoX p l e R s m args below meth c D A nL 0 0 Q (pc + 3) lv (.int r :: st) (WM ad cA ms mb my mt mw ml mo gm gs ga gg gb gu gh gk gl gn gt)) : GoX p l e R s m args below meth c D A nL 0 0 Q pc lv (.int v1 :: .ref (ad 0) :: st) (WM ad cA ms mb my mt mw ml mo gm gs ga gg gb gu gh gk gl gn gt) :=
  g_callVi C (As := [.int v1]) 1 (c_X6_sumOf l D A ad cA v1  K h) hT rfl rfl rfl (by decide +kernel) hR 0 WMg0 rfl rfl rfl hcat hdg (fun r u hu => kk r  hu)
/-! X6_sum -/
abbrev rmX6_sum : Room := { frames := 2, cells := 0, slots := 0, locals := 46 }
abbrev QC_X6_sum (D : va_G) (A : Nat → Prop) (ad : Nat → Nat) (cA : Nat → ClassId) (ms : (Nat → Int32)) (mb : (Nat → Int32)) (my : (Nat → Int32)) (mt : (Nat → Int32)) (mw : (Nat → Int32)) (ml : (Nat → Int32)) (mo : (Nat → Int32)) (gm : Int32) (gs : Int32) (ga : Int32) (gg : Int32) (gb : Int32) (gu : Int32) (gh : Int32) (gk : Int32) (gl : Int32) (gn : Int32) (gt : Int32) (Q : Int32 → Prop) : Array Value → State → Outcome → State → Prop := va_Qi (fun (r : Int32) (u : Unit) => Q r ) (fun u t => OKX D (tysX cA) ((fun u : Unit => WM ad cA ms mb my mt mw ml mo gm gs ga gg gb gu gh gk gl gn gt) u) A t) A
abbrev QP_X6_sum (D : va_G) (A : Nat → Prop) (ad : Nat → Nat) (cA : Nat → ClassId) (ms : (Nat → Int32)) (mb : (Nat → Int32)) (my : (Nat → Int32)) (mt : (Nat → Int32)) (mw : (Nat → Int32)) (ml : (Nat → Int32)) (mo : (Nat → Int32)) (gm : Int32) (gs : Int32) (ga : Int32) (gg : Int32) (gb : Int32) (gu : Int32) (gh : Int32) (gk : Int32) (gl : Int32) (gn : Int32) (gt : Int32) (Q : Int32 → Prop) (below : List Frame) (args : Array Value) (s : State) : State → Prop := MQ below (QC_X6_sum D A ad cA ms mb my mt mw ml mo gm gs ga gg gb gu gh gk gl gn gt Q) args s 0 0 A
def B_X6_sum_19  (Q : Int32 → Prop) (ms : (Nat → Int32)) (s0 : Int32)  : Prop := (Q s0)
def B_X6_sum_0  (Q : Int32 → Prop) (ms : (Nat → Int32)) (v1 : Int32)  : Prop := (F_X6_in v1 (0 : Int32) (3 : Int32) (fun r_1 => ((r_1 = 0 → (B_X6_sum_19  Q ms (-2 : Int32))) ∧ (¬ r_1 = 0 → (F_X6_sumOf v1 ms (fun r_3 => (B_X6_sum_19  Q ms r_3)))))))
def F_X6_sum (v1 : Int32) (ms : (Nat → Int32))  (Q : Int32 → Prop) : Prop := B_X6_sum_0 Q ms v1 
set_option maxHeartbeats 4000000 in
set_option maxRecDepth 100000 in
theorem t_B_X6_sum_19  {Q : Int32 → Prop} (C : CxX p s m args c D (tysX cA) RX6 cX6_sum 2 wsX6_sum) (hrt9 : meth.sig.returnType = (some .int)) (hlk : meth.locks = false) (s0 : Int32)   (h : B_X6_sum_19  Q ms s0) : GoX p l e rmX6_sum s m args below meth c D A 2 0 0 (QP_X6_sum D A ad cA ms mb my mt mw ml mo gm gs ga gg gb gu gh gk gl gn gt Q below args s) 19 [] [.int s0] (WM ad cA ms mb my mt mw ml mo gm gs ga gg gb gu gh gk gl gn gt) := by
  replace h : (Q s0) := h
  exact g_iret C hrt9 hlk (u := ()) rfl h dX6_sum_19
set_option maxHeartbeats 4000000 in
set_option maxRecDepth 100000 in
theorem t_B_X6_sum_0  {Q : Int32 → Prop} (C : CxX p s m args c D (tysX cA) RX6 cX6_sum 2 wsX6_sum) (hrt9 : meth.sig.returnType = (some .int)) (hlk : meth.locks = false) (v1 : Int32)   (h : B_X6_sum_0  Q ms v1) : GoX p l e rmX6_sum s m args below meth c D A 2 0 0 (QP_X6_sum D A ad cA ms mb my mt mw ml mo gm gs ga gg gb gu gh gk gl gn gt Q below args s) 0 [(0, .ref (ad 0)), (1, .int v1)] [] (WM ad cA ms mb my mt mw ml mo gm gs ga gg gb gu gh gk gl gn gt) := by
  replace h : (F_X6_in v1 (0 : Int32) (3 : Int32) (fun r_1 => ((r_1 = 0 → (B_X6_sum_19  Q ms (-2 : Int32))) ∧ (¬ r_1 = 0 → (F_X6_sumOf v1 ms (fun r_3 => (B_X6_sum_19  Q ms r_3))))))) := h
  refine g_iload_n C 1 dX6_sum_0 rfl rfl ?_
  refine g_iconst C (0 : Int32) dX6_sum_1 (by decide) ?_
  refine g_iconst C (3 : Int32) dX6_sum_2 (by decide) ?_
  refine k_X6_in C gX6_sum_X6_in ⟨Nat.le_of_ble_eq_true rfl, Nat.le_of_ble_eq_true rfl⟩ (Nat.le_of_ble_eq_true rfl) dX6_sum_3  h (fun r_1 h => ?_)
  refine g_if_eq C 17 dX6_sum_6 (by decide) (fun c_2 => ?_) (fun c_2 => ?_)
  · replace h := h.1 c_2
    refine g_bipush C (-2 : Int32) dX6_sum_17 (by decide) ?_
    exact g_sub [] rfl (t_B_X6_sum_19 C hrt9 hlk  (-2 : Int32)  h)
  · replace h := h.2 c_2
    refine g_aload_n C 0 dX6_sum_9 rfl rfl ?_
    refine g_iload_n C 1 dX6_sum_10 rfl rfl ?_
    refine k_X6_sumOf C gX6_sum_X6_sumOf ⟨Nat.le_of_ble_eq_true rfl, Nat.le_of_ble_eq_true rfl⟩ (Nat.le_of_ble_eq_true rfl) dX6_sum_11  h (fun r_3 h => ?_)
    refine g_goto C 19 dX6_sum_14 (by decide) ?_
    exact g_sub [] rfl (t_B_X6_sum_19 C hrt9 hlk  r_3  h)
theorem c_X6_sum (l : Launch) (D : va_G) (A : Nat → Prop) (ad : Nat → Nat) (cA : Nat → ClassId) (v1 : Int32) {ms : (Nat → Int32)} {mb : (Nat → Int32)} {my : (Nat → Int32)} {mt : (Nat → Int32)} {mw : (Nat → Int32)} {ml : (Nat → Int32)} {mo : (Nat → Int32)} {gm : Int32} {gs : Int32} {ga : Int32} {gg : Int32} {gb : Int32} {gu : Int32} {gh : Int32} {gk : Int32} {gl : Int32} {gn : Int32} {gt : Int32}  (Q : Int32 → Prop) (h : F_X6_sum v1 ms Q) : Met l yX6_sum wsX6_sum rmX6_sum (va_Pc [.ref (ad 0), .int v1] (OKX D (tysX cA) (WM ad cA ms mb my mt mw ml mo gm gs ga gg gb gu gh gk gl gn gt) A)) (QC_X6_sum D A ad cA ms mb my mt mw ml mo gm gs ga gg gb gu gh gk gl gn gt Q) 0 0 A :=
  g_met (own := RX6) (by decide) rfl rfl (Nat.le_of_ble_eq_true rfl) (fun p e s m below meth c C hrt9 hlk _ => g_sub [0, 1] rfl (t_B_X6_sum_0 C hrt9 hlk v1   h))
theorem k_X6_sum {ws : List Cond} {own : String} {cc : ByteArray} {nL pc index : Nat} {lv : List (Nat × Value)} {st : List Value} {Q : State → Prop} {R : Room} {K : Int32 → Prop} {v1 : Int32} (C : CxX p s m args c D (tysX cA) own cc nL ws) (hT : GoodIn ws (wsV own index RX6 yX6_sum wsX6_sum)) (hR : rmX6_sum.frames + 1 ≤ R.frames ∧ 8 + (2 + 11) + rmX6_sum.locals ≤ R.locals) (hcat : (st.map fun v => v.category).sum ≤ 8) (hdg : decode cc pc = .ok (.invokevirtual index, 3))  (h : F_X6_sum v1 ms K) (kk : ∀ (r : Int32) , K r → GoX p l e R s m args below meth c D A nL 0 0 Q (pc + 3) lv (.int r :: st) (WM ad cA ms mb my mt mw ml mo gm gs ga gg gb gu gh gk gl gn gt)) : GoX p l e R s m args below meth c D A nL 0 0 Q pc lv (.int v1 :: .ref (ad 0) :: st) (WM ad cA ms mb my mt mw ml mo gm gs ga gg gb gu gh gk gl gn gt) :=
  g_callVi C (As := [.int v1]) 1 (c_X6_sum l D A ad cA v1  K h) hT rfl rfl rfl (by decide +kernel) hR 0 WMg0 rfl rfl rfl hcat hdg (fun r u hu => kk r  hu)
/-! X6_patience -/
abbrev rmX6_patience : Room := { frames := 0, cells := 0, slots := 0, locals := 0 }
abbrev QC_X6_patience (D : va_G) (A : Nat → Prop) (ad : Nat → Nat) (cA : Nat → ClassId) (ms : (Nat → Int32)) (mb : (Nat → Int32)) (my : (Nat → Int32)) (mt : (Nat → Int32)) (mw : (Nat → Int32)) (ml : (Nat → Int32)) (mo : (Nat → Int32)) (gm : Int32) (gs : Int32) (ga : Int32) (gg : Int32) (gb : Int32) (gu : Int32) (gh : Int32) (gk : Int32) (gl : Int32) (gn : Int32) (gt : Int32) (Q : Int32 → Prop) : Array Value → State → Outcome → State → Prop := va_Qi (fun (r : Int32) (u : Unit) => Q r ) (fun u t => OKX D (tysX cA) ((fun u : Unit => WM ad cA ms mb my mt mw ml mo gm gs ga gg gb gu gh gk gl gn gt) u) A t) A
abbrev QP_X6_patience (D : va_G) (A : Nat → Prop) (ad : Nat → Nat) (cA : Nat → ClassId) (ms : (Nat → Int32)) (mb : (Nat → Int32)) (my : (Nat → Int32)) (mt : (Nat → Int32)) (mw : (Nat → Int32)) (ml : (Nat → Int32)) (mo : (Nat → Int32)) (gm : Int32) (gs : Int32) (ga : Int32) (gg : Int32) (gb : Int32) (gu : Int32) (gh : Int32) (gk : Int32) (gl : Int32) (gn : Int32) (gt : Int32) (Q : Int32 → Prop) (below : List Frame) (args : Array Value) (s : State) : State → Prop := MQ below (QC_X6_patience D A ad cA ms mb my mt mw ml mo gm gs ga gg gb gu gh gk gl gn gt Q) args s 0 0 A
def B_X6_patience_0  (Q : Int32 → Prop) (ms : (Nat → Int32))   : Prop := (vp_in (54 : Int32) 106 ∧ (Q (ms (54 : Int32).toNatClampNeg)))
def F_X6_patience  (ms : (Nat → Int32))  (Q : Int32 → Prop) : Prop := B_X6_patience_0 Q ms  
theorem lkX6_patience_7 : Cond.fieldLink RX6 7 (TX6 0).1 (TX6 0).2.1 (TX6 0).2.2.1 ∈ wsX6_patience := by decide +kernel
theorem inX6_patience_6 : ∀ q ∈ u_ws RX6 TX6 18, q ∈ wsX6_patience := by decide +kernel
set_option maxHeartbeats 4000000 in
set_option maxRecDepth 100000 in
theorem t_B_X6_patience_0  {Q : Int32 → Prop} (C : CxX p s m args c D (tysX cA) RX6 cX6_patience 1 wsX6_patience) (hrt9 : meth.sig.returnType = (some .int)) (hlk : meth.locks = false)    (h : B_X6_patience_0  Q ms ) : GoX p l e rmX6_patience s m args below meth c D A 1 0 0 (QP_X6_patience D A ad cA ms mb my mt mw ml mo gm gs ga gg gb gu gh gk gl gn gt Q below args s) 0 [(0, .ref (ad 0))] [] (WM ad cA ms mb my mt mw ml mo gm gs ga gg gb gu gh gk gl gn gt) := by
  replace h : (vp_in (54 : Int32) 106 ∧ (Q (ms (54 : Int32).toNatClampNeg))) := h
  refine g_aload_n C 0 dX6_patience_0 rfl rfl ?_
  refine g_get C inX6_patience_6 0 WMg0 rfl 0 (by decide) lkX6_patience_7 rfl dX6_patience_1 ?_
  refine g_bipush C (54 : Int32) dX6_patience_4 (by decide) ?_
  refine g_iald C 1 1 WMg1 rfl h.1 dX6_patience_6 ?_
  replace h := h.2
  exact g_iret C hrt9 hlk (u := ()) rfl h dX6_patience_7
theorem c_X6_patience (l : Launch) (D : va_G) (A : Nat → Prop) (ad : Nat → Nat) (cA : Nat → ClassId)  {ms : (Nat → Int32)} {mb : (Nat → Int32)} {my : (Nat → Int32)} {mt : (Nat → Int32)} {mw : (Nat → Int32)} {ml : (Nat → Int32)} {mo : (Nat → Int32)} {gm : Int32} {gs : Int32} {ga : Int32} {gg : Int32} {gb : Int32} {gu : Int32} {gh : Int32} {gk : Int32} {gl : Int32} {gn : Int32} {gt : Int32}  (Q : Int32 → Prop) (h : F_X6_patience ms Q) : Met l yX6_patience wsX6_patience rmX6_patience (va_Pc [.ref (ad 0)] (OKX D (tysX cA) (WM ad cA ms mb my mt mw ml mo gm gs ga gg gb gu gh gk gl gn gt) A)) (QC_X6_patience D A ad cA ms mb my mt mw ml mo gm gs ga gg gb gu gh gk gl gn gt Q) 0 0 A :=
  g_met (own := RX6) (by decide) rfl rfl (Nat.le_of_ble_eq_true rfl) (fun p e s m below meth c C hrt9 hlk _ => g_sub [0] rfl (t_B_X6_patience_0 C hrt9 hlk    h))
theorem k_X6_patience {ws : List Cond} {own : String} {cc : ByteArray} {nL pc index : Nat} {lv : List (Nat × Value)} {st : List Value} {Q : State → Prop} {R : Room} {K : Int32 → Prop}  (C : CxX p s m args c D (tysX cA) own cc nL ws) (hT : GoodIn ws (wsV own index RX6 yX6_patience wsX6_patience)) (hR : rmX6_patience.frames + 1 ≤ R.frames ∧ 8 + (1 + 11) + rmX6_patience.locals ≤ R.locals) (hcat : (st.map fun v => v.category).sum ≤ 8) (hdg : decode cc pc = .ok (.invokevirtual index, 3))  (h : F_X6_patience ms K) (kk : ∀ (r : Int32) , K r → GoX p l e R s m args below meth c D A nL 0 0 Q (pc + 3) lv (.int r :: st) (WM ad cA ms mb my mt mw ml mo gm gs ga gg gb gu gh gk gl gn gt)) : GoX p l e R s m args below meth c D A nL 0 0 Q pc lv (.ref (ad 0) :: st) (WM ad cA ms mb my mt mw ml mo gm gs ga gg gb gu gh gk gl gn gt) :=
  g_callVi C (As := []) 0 (c_X6_patience l D A ad cA   K h) hT rfl rfl rfl (by decide +kernel) hR 0 WMg0 rfl rfl rfl hcat hdg (fun r u hu => kk r  hu)
/-! X6_share -/
abbrev rmX6_share : Room := { frames := 2, cells := 0, slots := 0, locals := 46 }
abbrev QC_X6_share (D : va_G) (A : Nat → Prop) (ad : Nat → Nat) (cA : Nat → ClassId) (ms : (Nat → Int32)) (mb : (Nat → Int32)) (my : (Nat → Int32)) (mt : (Nat → Int32)) (mw : (Nat → Int32)) (ml : (Nat → Int32)) (mo : (Nat → Int32)) (gm : Int32) (gs : Int32) (ga : Int32) (gg : Int32) (gb : Int32) (gu : Int32) (gh : Int32) (gk : Int32) (gl : Int32) (gn : Int32) (gt : Int32) (Q : UInt32 → Prop) : Array Value → State → Outcome → State → Prop := va_Qf (fun (r : UInt32) (u : Unit) => Q r ) (fun u t => OKX D (tysX cA) ((fun u : Unit => WM ad cA ms mb my mt mw ml mo gm gs ga gg gb gu gh gk gl gn gt) u) A t) A
abbrev QP_X6_share (D : va_G) (A : Nat → Prop) (ad : Nat → Nat) (cA : Nat → ClassId) (ms : (Nat → Int32)) (mb : (Nat → Int32)) (my : (Nat → Int32)) (mt : (Nat → Int32)) (mw : (Nat → Int32)) (ml : (Nat → Int32)) (mo : (Nat → Int32)) (gm : Int32) (gs : Int32) (ga : Int32) (gg : Int32) (gb : Int32) (gu : Int32) (gh : Int32) (gk : Int32) (gl : Int32) (gn : Int32) (gt : Int32) (Q : UInt32 → Prop) (below : List Frame) (args : Array Value) (s : State) : State → Prop := MQ below (QC_X6_share D A ad cA ms mb my mt mw ml mo gm gs ga gg gb gu gh gk gl gn gt Q) args s 0 0 A
def B_X6_share_25  (Q : UInt32 → Prop) (ms : (Nat → Int32)) (s0 : UInt32)  : Prop := (Q s0)
def B_X6_share_0  (Q : UInt32 → Prop) (ms : (Nat → Int32))   : Prop := (F_X6_sumOf (0 : Int32) ms (fun r_1 => ((r_1 = 0 → (B_X6_share_25  Q ms FP.fconst1)) ∧ (¬ r_1 = 0 → (F_X6_sumOf (1 : Int32) ms (fun r_3 => (vf_n32 (FP.fdiv (FP.i2f (r_1 - r_3)) (FP.i2f r_1)) ∧ (B_X6_share_25  Q ms (FP.fdiv (FP.i2f (r_1 - r_3)) (FP.i2f r_1))))))))))
def F_X6_share  (ms : (Nat → Int32))  (Q : UInt32 → Prop) : Prop := B_X6_share_0 Q ms  
set_option maxHeartbeats 4000000 in
set_option maxRecDepth 100000 in
theorem t_B_X6_share_25  {Q : UInt32 → Prop} (C : CxX p s m args c D (tysX cA) RX6 cX6_share 2 wsX6_share) (hrt9 : meth.sig.returnType = (some .float)) (hlk : meth.locks = false) (s0 : UInt32)   (h : B_X6_share_25  Q ms s0) : GoX p l e rmX6_share s m args below meth c D A 2 0 0 (QP_X6_share D A ad cA ms mb my mt mw ml mo gm gs ga gg gb gu gh gk gl gn gt Q below args s) 25 [] [.float s0] (WM ad cA ms mb my mt mw ml mo gm gs ga gg gb gu gh gk gl gn gt) := by
  replace h : (Q s0) := h
  exact g_fret C hrt9 hlk (u := ()) rfl h dX6_share_25
set_option maxHeartbeats 4000000 in
set_option maxRecDepth 100000 in
theorem t_B_X6_share_0  {Q : UInt32 → Prop} (C : CxX p s m args c D (tysX cA) RX6 cX6_share 2 wsX6_share) (hrt9 : meth.sig.returnType = (some .float)) (hlk : meth.locks = false)    (h : B_X6_share_0  Q ms ) : GoX p l e rmX6_share s m args below meth c D A 2 0 0 (QP_X6_share D A ad cA ms mb my mt mw ml mo gm gs ga gg gb gu gh gk gl gn gt Q below args s) 0 [(0, .ref (ad 0))] [] (WM ad cA ms mb my mt mw ml mo gm gs ga gg gb gu gh gk gl gn gt) := by
  replace h : (F_X6_sumOf (0 : Int32) ms (fun r_1 => ((r_1 = 0 → (B_X6_share_25  Q ms FP.fconst1)) ∧ (¬ r_1 = 0 → (F_X6_sumOf (1 : Int32) ms (fun r_3 => (vf_n32 (FP.fdiv (FP.i2f (r_1 - r_3)) (FP.i2f r_1)) ∧ (B_X6_share_25  Q ms (FP.fdiv (FP.i2f (r_1 - r_3)) (FP.i2f r_1)))))))))) := h
  refine g_aload_n C 0 dX6_share_0 rfl rfl ?_
  refine g_iconst C (0 : Int32) dX6_share_1 (by decide) ?_
  refine k_X6_sumOf C gX6_share_X6_sumOf ⟨Nat.le_of_ble_eq_true rfl, Nat.le_of_ble_eq_true rfl⟩ (Nat.le_of_ble_eq_true rfl) dX6_share_2  h (fun r_1 h => ?_)
  refine g_istore_n C (lv2 := [(1, .int r_1), (0, .ref (ad 0))]) dX6_share_5 rfl (by decide) rfl ?_
  refine g_iload_n C 0 dX6_share_6 rfl rfl ?_
  refine g_if_ne C 14 dX6_share_7 (by decide) (fun c_2 => ?_) (fun c_2 => ?_)
  · replace h := h.2 c_2
    refine g_iload_n C 0 dX6_share_14 rfl rfl ?_
    refine g_aload_n C 1 dX6_share_15 rfl rfl ?_
    refine g_iconst C (1 : Int32) dX6_share_16 (by decide) ?_
    refine k_X6_sumOf C gX6_share_X6_sumOf ⟨Nat.le_of_ble_eq_true rfl, Nat.le_of_ble_eq_true rfl⟩ (Nat.le_of_ble_eq_true rfl) dX6_share_17  h (fun r_3 h => ?_)
    refine g_isub C dX6_share_20 ?_
    refine g_i2f C dX6_share_21 ?_
    refine g_iload_n C 0 dX6_share_22 rfl rfl ?_
    refine g_i2f C dX6_share_23 ?_
    refine g_fdiv C dX6_share_24 h.1 ?_
    replace h := h.2
    exact g_sub [] rfl (t_B_X6_share_25 C hrt9 hlk  (FP.fdiv (FP.i2f (r_1 - r_3)) (FP.i2f r_1))  h)
  · replace h := h.1 c_2
    refine g_fconst1 C dX6_share_10 ?_
    refine g_goto C 25 dX6_share_11 (by decide) ?_
    exact g_sub [] rfl (t_B_X6_share_25 C hrt9 hlk  FP.fconst1  h)
theorem c_X6_share (l : Launch) (D : va_G) (A : Nat → Prop) (ad : Nat → Nat) (cA : Nat → ClassId)  {ms : (Nat → Int32)} {mb : (Nat → Int32)} {my : (Nat → Int32)} {mt : (Nat → Int32)} {mw : (Nat → Int32)} {ml : (Nat → Int32)} {mo : (Nat → Int32)} {gm : Int32} {gs : Int32} {ga : Int32} {gg : Int32} {gb : Int32} {gu : Int32} {gh : Int32} {gk : Int32} {gl : Int32} {gn : Int32} {gt : Int32}  (Q : UInt32 → Prop) (h : F_X6_share ms Q) : Met l yX6_share wsX6_share rmX6_share (va_Pc [.ref (ad 0)] (OKX D (tysX cA) (WM ad cA ms mb my mt mw ml mo gm gs ga gg gb gu gh gk gl gn gt) A)) (QC_X6_share D A ad cA ms mb my mt mw ml mo gm gs ga gg gb gu gh gk gl gn gt Q) 0 0 A :=
  g_met (own := RX6) (by decide) rfl rfl (Nat.le_of_ble_eq_true rfl) (fun p e s m below meth c C hrt9 hlk _ => g_sub [0] rfl (t_B_X6_share_0 C hrt9 hlk    h))
theorem k_X6_share {ws : List Cond} {own : String} {cc : ByteArray} {nL pc index : Nat} {lv : List (Nat × Value)} {st : List Value} {Q : State → Prop} {R : Room} {K : UInt32 → Prop}  (C : CxX p s m args c D (tysX cA) own cc nL ws) (hT : GoodIn ws (wsV own index RX6 yX6_share wsX6_share)) (hR : rmX6_share.frames + 1 ≤ R.frames ∧ 8 + (2 + 11) + rmX6_share.locals ≤ R.locals) (hcat : (st.map fun v => v.category).sum ≤ 8) (hdg : decode cc pc = .ok (.invokevirtual index, 3))  (h : F_X6_share ms K) (kk : ∀ (r : UInt32) , K r → GoX p l e R s m args below meth c D A nL 0 0 Q (pc + 3) lv (.float r :: st) (WM ad cA ms mb my mt mw ml mo gm gs ga gg gb gu gh gk gl gn gt)) : GoX p l e R s m args below meth c D A nL 0 0 Q pc lv (.ref (ad 0) :: st) (WM ad cA ms mb my mt mw ml mo gm gs ga gg gb gu gh gk gl gn gt) :=
  g_callVf C (As := []) 0 (c_X6_share l D A ad cA   K h) hT rfl rfl rfl (by decide +kernel) hR 0 WMg0 rfl rfl rfl hcat hdg (fun r u hu => kk r  hu)
