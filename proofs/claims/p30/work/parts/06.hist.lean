variable {p : Program} {l : Launch} {e : Env} {s : State} {m : MethodId} {args : Array Value} {below : List Frame} {meth : Method} {c : Code} {D : va_G} {A : Nat → Prop} {ad : Nat → Nat} {cA : Nat → ClassId}
variable {tl : Int32} {tx : (Nat → Int32)} {mn : Int32} {sd : (Nat → Int64)} {e0 : Int32} {e1 : Int32} {e2 : Int32} {e3 : Int32} {e4 : Int32} {e5 : Int32} {e6 : Int32} {e7 : Int32} {e8 : Int32} {e9 : Int32} {e10 : Int32} {fr : Int32} {hd : Int32} {nw : (Nat → Int32)} {kp : (Nat → Int32)} {pt : (Nat → Int32)} {hr : (Nat → Nat → Int32)} {lr : (Nat → Nat → Int32)}
/-! X3_copyFrom -/
abbrev rmX3_copyFrom : Room := { frames := 1, cells := 0, slots := 0, locals := 26 }
abbrev QC_X3_copyFrom (D : va_G) (A : Nat → Prop) (ad : Nat → Nat) (cA : Nat → ClassId) (tl : Int32) (tx : (Nat → Int32)) (mn : Int32) (sd : (Nat → Int64)) (e0 : Int32) (e1 : Int32) (e2 : Int32) (e3 : Int32) (e4 : Int32) (e5 : Int32) (e6 : Int32) (e7 : Int32) (e8 : Int32) (e9 : Int32) (e10 : Int32) (fr : Int32) (hd : Int32) (Q : (Nat → Int32) → (Nat → Int32) → (Nat → Int32) → (Nat → Nat → Int32) → (Nat → Nat → Int32) → Prop) : Array Value → State → Outcome → State → Prop := va_Qv (fun u : (Nat → Int32) × (Nat → Int32) × (Nat → Int32) × (Nat → Nat → Int32) × (Nat → Nat → Int32) => Q u.1 u.2.1 u.2.2.1 u.2.2.2.1 u.2.2.2.2) (fun u t => OKX D (tysX cA) ((fun u : (Nat → Int32) × (Nat → Int32) × (Nat → Int32) × (Nat → Nat → Int32) × (Nat → Nat → Int32) => WX ad cA tl tx mn sd e0 e1 e2 e3 e4 e5 e6 e7 e8 e9 e10 fr hd u.1 u.2.1 u.2.2.1 u.2.2.2.1 u.2.2.2.2) u) A t) A
abbrev QP_X3_copyFrom (D : va_G) (A : Nat → Prop) (ad : Nat → Nat) (cA : Nat → ClassId) (tl : Int32) (tx : (Nat → Int32)) (mn : Int32) (sd : (Nat → Int64)) (e0 : Int32) (e1 : Int32) (e2 : Int32) (e3 : Int32) (e4 : Int32) (e5 : Int32) (e6 : Int32) (e7 : Int32) (e8 : Int32) (e9 : Int32) (e10 : Int32) (fr : Int32) (hd : Int32) (Q : (Nat → Int32) → (Nat → Int32) → (Nat → Int32) → (Nat → Nat → Int32) → (Nat → Nat → Int32) → Prop) (below : List Frame) (args : Array Value) (s : State) : State → Prop := MQ below (QC_X3_copyFrom D A ad cA tl tx mn sd e0 e1 e2 e3 e4 e5 e6 e7 e8 e9 e10 fr hd Q) args s 0 0 A
noncomputable def L_X3_copyFrom_35  (Q : (Nat → Int32) → (Nat → Int32) → (Nat → Int32) → (Nat → Nat → Int32) → (Nat → Nat → Int32) → Prop)  (n9 : Nat) : Nat → Nat → Int32 → (Nat → Int32) → (Nat → Int32) → (Nat → Int32) → (Nat → Nat → Int32) → (Nat → Nat → Int32) → Prop := Nat.rec (motive := fun _ => Nat → Nat → Int32 → (Nat → Int32) → (Nat → Int32) → (Nat → Int32) → (Nat → Nat → Int32) → (Nat → Nat → Int32) → Prop) (fun _ _ _ _ _ _ _ _ => False) (fun _ kh35 => fun v0 v1 v2 nw kp pt hr lr => (((10 : Int32) ≤ v2 → (Q (va_up nw v0 (nw v1)) (va_up kp v0 (kp v1)) (va_up pt v0 (pt v1)) hr lr)) ∧ (¬ (10 : Int32) ≤ v2 → (vp_in v2 10 ∧ (vp_in v2 10 ∧ (kh35 v0 v1 (v2 + (1 : Int32)) nw kp pt hr (va_up lr (10 * v0 + v2.toNatClampNeg) (va_cpy (lr (10 * v1 + v2.toNatClampNeg)) (lr (10 * v0 + v2.toNatClampNeg)) (0 : Int32).toNatClampNeg (0 : Int32).toNatClampNeg (5 : Int32).toNatClampNeg)))))))) n9
noncomputable def L_X3_copyFrom_2  (Q : (Nat → Int32) → (Nat → Int32) → (Nat → Int32) → (Nat → Nat → Int32) → (Nat → Nat → Int32) → Prop)  (n9 : Nat) : Nat → Nat → Int32 → (Nat → Int32) → (Nat → Int32) → (Nat → Int32) → (Nat → Nat → Int32) → (Nat → Nat → Int32) → Prop := Nat.rec (motive := fun _ => Nat → Nat → Int32 → (Nat → Int32) → (Nat → Int32) → (Nat → Int32) → (Nat → Nat → Int32) → (Nat → Nat → Int32) → Prop) (fun _ _ _ _ _ _ _ _ => False) (fun _ kh2 => fun v0 v1 v2 nw kp pt hr lr => (((6 : Int32) ≤ v2 → (∃ n9 : Nat, L_X3_copyFrom_35  Q  n9 v0 v1 (0 : Int32) nw kp pt hr lr)) ∧ (¬ (6 : Int32) ≤ v2 → (vp_in v2 6 ∧ (vp_in v2 6 ∧ (kh2 v0 v1 (v2 + (1 : Int32)) nw kp pt (va_up hr (6 * v0 + v2.toNatClampNeg) (va_cpy (hr (6 * v1 + v2.toNatClampNeg)) (hr (6 * v0 + v2.toNatClampNeg)) (0 : Int32).toNatClampNeg (0 : Int32).toNatClampNeg (9 : Int32).toNatClampNeg)) lr)))))) n9
def B_X3_copyFrom_0  (Q : (Nat → Int32) → (Nat → Int32) → (Nat → Int32) → (Nat → Nat → Int32) → (Nat → Nat → Int32) → Prop)  (v0 : Nat) (v1 : Nat) (nw : (Nat → Int32)) (kp : (Nat → Int32)) (pt : (Nat → Int32)) (hr : (Nat → Nat → Int32)) (lr : (Nat → Nat → Int32)) : Prop := (∃ n9 : Nat, L_X3_copyFrom_2  Q  n9 v0 v1 (0 : Int32) nw kp pt hr lr)
def F_X3_copyFrom (v0 : Nat) (v1 : Nat)  (nw : (Nat → Int32)) (kp : (Nat → Int32)) (pt : (Nat → Int32)) (hr : (Nat → Nat → Int32)) (lr : (Nat → Nat → Int32)) (Q : (Nat → Int32) → (Nat → Int32) → (Nat → Int32) → (Nat → Nat → Int32) → (Nat → Nat → Int32) → Prop) : Prop := B_X3_copyFrom_0 Q  v0 v1 nw kp pt hr lr
theorem lkX3_copyFrom_11 : Cond.fieldLink RX3 11 (TX3 0).1 (TX3 0).2.1 (TX3 0).2.2.1 ∈ wsX3_copyFrom := by decide +kernel
theorem lkX3_copyFrom_16 : Cond.fieldLink RX3 16 (TX3 1).1 (TX3 1).2.1 (TX3 1).2.2.1 ∈ wsX3_copyFrom := by decide +kernel
theorem lkX3_copyFrom_26 : Cond.fieldLink RX3 26 (TX3 4).1 (TX3 4).2.1 (TX3 4).2.2.1 ∈ wsX3_copyFrom := by decide +kernel
theorem lkX3_copyFrom_23 : Cond.fieldLink RX3 23 (TX3 3).1 (TX3 3).2.1 (TX3 3).2.2.1 ∈ wsX3_copyFrom := by decide +kernel
theorem lkX3_copyFrom_19 : Cond.fieldLink RX3 19 (TX3 2).1 (TX3 2).2.1 (TX3 2).2.2.1 ∈ wsX3_copyFrom := by decide +kernel
theorem inX3_copyFrom_3 : ∀ q ∈ u_ws RX3 TX3 5, q ∈ wsX3_copyFrom := by decide +kernel
set_option maxHeartbeats 4000000 in
set_option maxRecDepth 100000 in
theorem t_L_X3_copyFrom_35  {Q : (Nat → Int32) → (Nat → Int32) → (Nat → Int32) → (Nat → Nat → Int32) → (Nat → Nat → Int32) → Prop} (C : CxX p s m args c D (tysX cA) RX3 cX3_copyFrom 3 wsX3_copyFrom) (hrt9 : meth.sig.returnType = none) (hlk : meth.locks = false) (m9 : Nat) : ∀ (v0 : Nat) (v1 : Nat) (v2 : Int32) (nw : (Nat → Int32)) (kp : (Nat → Int32)) (pt : (Nat → Int32)) (hr : (Nat → Nat → Int32)) (lr : (Nat → Nat → Int32)) (hv0 : v0 < 5) (hv1 : v1 < 5), L_X3_copyFrom_35  Q  m9 v0 v1 v2 nw kp pt hr lr → GoX p l e rmX3_copyFrom s m args below meth c D A 3 0 0 (QP_X3_copyFrom D A ad cA tl tx mn sd e0 e1 e2 e3 e4 e5 e6 e7 e8 e9 e10 fr hd Q below args s) 35 [(0, .ref (ad (7 + v0))), (1, .ref (ad (7 + v1))), (2, .int v2)] [] (WX ad cA tl tx mn sd e0 e1 e2 e3 e4 e5 e6 e7 e8 e9 e10 fr hd nw kp pt hr lr) := by
  induction m9 with
  | zero =>
    intro v0 v1 v2 nw kp pt hr lr hv0 hv1 h
    exact False.elim h
  | succ m9 Hk35 =>
    intro v0 v1 v2 nw kp pt hr lr hv0 hv1 h
    replace h : (((10 : Int32) ≤ v2 → (Q (va_up nw v0 (nw v1)) (va_up kp v0 (kp v1)) (va_up pt v0 (pt v1)) hr lr)) ∧ (¬ (10 : Int32) ≤ v2 → (vp_in v2 10 ∧ (vp_in v2 10 ∧ ((L_X3_copyFrom_35  Q  m9) v0 v1 (v2 + (1 : Int32)) nw kp pt hr (va_up lr (10 * v0 + v2.toNatClampNeg) (va_cpy (lr (10 * v1 + v2.toNatClampNeg)) (lr (10 * v0 + v2.toNatClampNeg)) (0 : Int32).toNatClampNeg (0 : Int32).toNatClampNeg (5 : Int32).toNatClampNeg))))))) := h
    refine g_iload_n C 2 dX3_copyFrom_35 rfl rfl ?_
    refine g_bipush C (10 : Int32) dX3_copyFrom_36 (by decide) ?_
    refine g_icmp_ge C 65 dX3_copyFrom_38 (by decide) (fun c_1 => ?_) (fun c_1 => ?_)
    · replace h := h.1 c_1
      refine g_aload_n C 0 dX3_copyFrom_65 rfl rfl ?_
      refine g_aload_n C 1 dX3_copyFrom_66 rfl rfl ?_
      refine g_get C inX3_copyFrom_3 (7 + v1) (WXg_ST (by omega)) rfl 2 (by decide) lkX3_copyFrom_19 rfl dX3_copyFrom_67 ?_
      refine g_put C inX3_copyFrom_3 tyX3 tyX3_ok nmX3 (7 + v0) (WXg_ST (by omega)) rfl 2 (by decide) lkX3_copyFrom_19 rfl rfl rfl (Nat.le_of_ble_eq_true rfl) (WXs_nw (by omega)) dX3_copyFrom_70 ?_
      refine g_aload_n C 0 dX3_copyFrom_73 rfl rfl ?_
      refine g_aload_n C 1 dX3_copyFrom_74 rfl rfl ?_
      refine g_get C inX3_copyFrom_3 (7 + v1) (WXg_ST (by omega)) rfl 3 (by decide) lkX3_copyFrom_23 rfl dX3_copyFrom_75 ?_
      refine g_put C inX3_copyFrom_3 tyX3 tyX3_ok nmX3 (7 + v0) (WXg_ST (by omega)) rfl 3 (by decide) lkX3_copyFrom_23 rfl rfl rfl (Nat.le_of_ble_eq_true rfl) (WXs_kp (by omega)) dX3_copyFrom_78 ?_
      refine g_aload_n C 0 dX3_copyFrom_81 rfl rfl ?_
      refine g_aload_n C 1 dX3_copyFrom_82 rfl rfl ?_
      refine g_get C inX3_copyFrom_3 (7 + v1) (WXg_ST (by omega)) rfl 4 (by decide) lkX3_copyFrom_26 rfl dX3_copyFrom_83 ?_
      refine g_put C inX3_copyFrom_3 tyX3 tyX3_ok nmX3 (7 + v0) (WXg_ST (by omega)) rfl 4 (by decide) lkX3_copyFrom_26 rfl rfl rfl (Nat.le_of_ble_eq_true rfl) (WXs_pt (by omega)) dX3_copyFrom_86 ?_
      exact g_vret C hrt9 hlk (u := ((va_up nw v0 (nw v1)), (va_up kp v0 (kp v1)), (va_up pt v0 (pt v1)), hr, lr)) rfl h dX3_copyFrom_89
    · replace h := h.2 c_1
      refine g_aload_n C 1 dX3_copyFrom_41 rfl rfl ?_
      refine g_get C inX3_copyFrom_3 (7 + v1) (WXg_ST (by omega)) rfl 1 (by decide) lkX3_copyFrom_16 rfl dX3_copyFrom_42 ?_
      refine g_iload_n C 2 dX3_copyFrom_45 rfl rfl ?_
      have b_2 := vp_lt h.1
      refine g_aald C (17 + v1) 4 (WXg_LO (by omega)) rfl rfl h.1 rfl dX3_copyFrom_46 ?_
      replace h := h.2
      refine g_iconst C (0 : Int32) dX3_copyFrom_47 (by decide) ?_
      refine g_aload_n C 0 dX3_copyFrom_48 rfl rfl ?_
      refine g_get C inX3_copyFrom_3 (7 + v0) (WXg_ST (by omega)) rfl 1 (by decide) lkX3_copyFrom_16 rfl dX3_copyFrom_49 ?_
      refine g_iload_n C 2 dX3_copyFrom_52 rfl rfl ?_
      have b_3 := vp_lt h.1
      refine g_aald C (17 + v0) 4 (WXg_LO (by omega)) rfl rfl h.1 rfl dX3_copyFrom_53 ?_
      replace h := h.2
      refine g_iconst C (0 : Int32) dX3_copyFrom_54 (by decide) ?_
      refine g_iconst C (5 : Int32) dX3_copyFrom_55 (by decide) ?_
      refine g_copyi C (by decide +kernel) (by decide +kernel) (by decide +kernel) (by decide +kernel) (52 + (10 * v1 + v2.toNatClampNeg)) (52 + (10 * v0 + v2.toNatClampNeg)) 1 1 (WXg_LR (by omega)) (WXg_LR (by omega)) rfl rfl (by decide) (by decide) (by decide) (by decide) (by decide) (by decide) (by decide) (WXs_lr (by omega)) dX3_copyFrom_56 ?_
      refine g_iinc C (v := (v2 + (1 : Int32))) (lv2 := [(2, .int (v2 + (1 : Int32))), (0, .ref (ad (7 + v0))), (1, .ref (ad (7 + v1)))]) 2 dX3_copyFrom_59 rfl rfl (by decide) rfl ?_
      refine g_goto C 35 dX3_copyFrom_62 (by decide) ?_
      exact g_sub [1, 2, 0] rfl (Hk35 v0 v1 (v2 + (1 : Int32)) nw kp pt hr (va_up lr (10 * v0 + v2.toNatClampNeg) (va_cpy (lr (10 * v1 + v2.toNatClampNeg)) (lr (10 * v0 + v2.toNatClampNeg)) (0 : Int32).toNatClampNeg (0 : Int32).toNatClampNeg (5 : Int32).toNatClampNeg)) (by omega) (by omega) h)
set_option maxHeartbeats 4000000 in
set_option maxRecDepth 100000 in
theorem t_L_X3_copyFrom_2  {Q : (Nat → Int32) → (Nat → Int32) → (Nat → Int32) → (Nat → Nat → Int32) → (Nat → Nat → Int32) → Prop} (C : CxX p s m args c D (tysX cA) RX3 cX3_copyFrom 3 wsX3_copyFrom) (hrt9 : meth.sig.returnType = none) (hlk : meth.locks = false) (m9 : Nat) : ∀ (v0 : Nat) (v1 : Nat) (v2 : Int32) (nw : (Nat → Int32)) (kp : (Nat → Int32)) (pt : (Nat → Int32)) (hr : (Nat → Nat → Int32)) (lr : (Nat → Nat → Int32)) (hv0 : v0 < 5) (hv1 : v1 < 5), L_X3_copyFrom_2  Q  m9 v0 v1 v2 nw kp pt hr lr → GoX p l e rmX3_copyFrom s m args below meth c D A 3 0 0 (QP_X3_copyFrom D A ad cA tl tx mn sd e0 e1 e2 e3 e4 e5 e6 e7 e8 e9 e10 fr hd Q below args s) 2 [(0, .ref (ad (7 + v0))), (1, .ref (ad (7 + v1))), (2, .int v2)] [] (WX ad cA tl tx mn sd e0 e1 e2 e3 e4 e5 e6 e7 e8 e9 e10 fr hd nw kp pt hr lr) := by
  induction m9 with
  | zero =>
    intro v0 v1 v2 nw kp pt hr lr hv0 hv1 h
    exact False.elim h
  | succ m9 Hk2 =>
    intro v0 v1 v2 nw kp pt hr lr hv0 hv1 h
    replace h : (((6 : Int32) ≤ v2 → (∃ n9 : Nat, L_X3_copyFrom_35  Q  n9 v0 v1 (0 : Int32) nw kp pt hr lr)) ∧ (¬ (6 : Int32) ≤ v2 → (vp_in v2 6 ∧ (vp_in v2 6 ∧ ((L_X3_copyFrom_2  Q  m9) v0 v1 (v2 + (1 : Int32)) nw kp pt (va_up hr (6 * v0 + v2.toNatClampNeg) (va_cpy (hr (6 * v1 + v2.toNatClampNeg)) (hr (6 * v0 + v2.toNatClampNeg)) (0 : Int32).toNatClampNeg (0 : Int32).toNatClampNeg (9 : Int32).toNatClampNeg)) lr))))) := h
    refine g_iload_n C 2 dX3_copyFrom_2 rfl rfl ?_
    refine g_bipush C (6 : Int32) dX3_copyFrom_3 (by decide) ?_
    refine g_icmp_ge C 33 dX3_copyFrom_5 (by decide) (fun c_4 => ?_) (fun c_4 => ?_)
    · replace h := h.1 c_4
      refine g_iconst C (0 : Int32) dX3_copyFrom_33 (by decide) ?_
      refine g_istore_n C (lv2 := [(2, .int (0 : Int32)), (0, .ref (ad (7 + v0))), (1, .ref (ad (7 + v1)))]) dX3_copyFrom_34 rfl (by decide) rfl ?_
      obtain ⟨n9, h⟩ := h
      exact g_sub [1, 2, 0] rfl (t_L_X3_copyFrom_35 C hrt9 hlk  n9 v0 v1 (0 : Int32) nw kp pt hr lr (by omega) (by omega) h)
    · replace h := h.2 c_4
      refine g_aload_n C 1 dX3_copyFrom_8 rfl rfl ?_
      refine g_get C inX3_copyFrom_3 (7 + v1) (WXg_ST (by omega)) rfl 0 (by decide) lkX3_copyFrom_11 rfl dX3_copyFrom_9 ?_
      refine g_iload_n C 2 dX3_copyFrom_12 rfl rfl ?_
      have b_5 := vp_lt h.1
      refine g_aald C (12 + v1) 4 (WXg_HO (by omega)) rfl rfl h.1 rfl dX3_copyFrom_13 ?_
      replace h := h.2
      refine g_iconst C (0 : Int32) dX3_copyFrom_14 (by decide) ?_
      refine g_aload_n C 0 dX3_copyFrom_15 rfl rfl ?_
      refine g_get C inX3_copyFrom_3 (7 + v0) (WXg_ST (by omega)) rfl 0 (by decide) lkX3_copyFrom_11 rfl dX3_copyFrom_16 ?_
      refine g_iload_n C 2 dX3_copyFrom_19 rfl rfl ?_
      have b_6 := vp_lt h.1
      refine g_aald C (12 + v0) 4 (WXg_HO (by omega)) rfl rfl h.1 rfl dX3_copyFrom_20 ?_
      replace h := h.2
      refine g_iconst C (0 : Int32) dX3_copyFrom_21 (by decide) ?_
      refine g_bipush C (9 : Int32) dX3_copyFrom_22 (by decide) ?_
      refine g_copyi C (by decide +kernel) (by decide +kernel) (by decide +kernel) (by decide +kernel) (22 + (6 * v1 + v2.toNatClampNeg)) (22 + (6 * v0 + v2.toNatClampNeg)) 1 1 (WXg_HR (by omega)) (WXg_HR (by omega)) rfl rfl (by decide) (by decide) (by decide) (by decide) (by decide) (by decide) (by decide) (WXs_hr (by omega)) dX3_copyFrom_24 ?_
      refine g_iinc C (v := (v2 + (1 : Int32))) (lv2 := [(2, .int (v2 + (1 : Int32))), (0, .ref (ad (7 + v0))), (1, .ref (ad (7 + v1)))]) 2 dX3_copyFrom_27 rfl rfl (by decide) rfl ?_
      refine g_goto C 2 dX3_copyFrom_30 (by decide) ?_
      exact g_sub [1, 2, 0] rfl (Hk2 v0 v1 (v2 + (1 : Int32)) nw kp pt (va_up hr (6 * v0 + v2.toNatClampNeg) (va_cpy (hr (6 * v1 + v2.toNatClampNeg)) (hr (6 * v0 + v2.toNatClampNeg)) (0 : Int32).toNatClampNeg (0 : Int32).toNatClampNeg (9 : Int32).toNatClampNeg)) lr (by omega) (by omega) h)
set_option maxHeartbeats 4000000 in
set_option maxRecDepth 100000 in
theorem t_B_X3_copyFrom_0  {Q : (Nat → Int32) → (Nat → Int32) → (Nat → Int32) → (Nat → Nat → Int32) → (Nat → Nat → Int32) → Prop} (C : CxX p s m args c D (tysX cA) RX3 cX3_copyFrom 3 wsX3_copyFrom) (hrt9 : meth.sig.returnType = none) (hlk : meth.locks = false) (v0 : Nat) (v1 : Nat) (nw : (Nat → Int32)) (kp : (Nat → Int32)) (pt : (Nat → Int32)) (hr : (Nat → Nat → Int32)) (lr : (Nat → Nat → Int32)) (hv0 : v0 < 5) (hv1 : v1 < 5) (h : B_X3_copyFrom_0  Q  v0 v1 nw kp pt hr lr) : GoX p l e rmX3_copyFrom s m args below meth c D A 3 0 0 (QP_X3_copyFrom D A ad cA tl tx mn sd e0 e1 e2 e3 e4 e5 e6 e7 e8 e9 e10 fr hd Q below args s) 0 [(0, .ref (ad (7 + v0))), (1, .ref (ad (7 + v1)))] [] (WX ad cA tl tx mn sd e0 e1 e2 e3 e4 e5 e6 e7 e8 e9 e10 fr hd nw kp pt hr lr) := by
  replace h : (∃ n9 : Nat, L_X3_copyFrom_2  Q  n9 v0 v1 (0 : Int32) nw kp pt hr lr) := h
  refine g_iconst C (0 : Int32) dX3_copyFrom_0 (by decide) ?_
  refine g_istore_n C (lv2 := [(2, .int (0 : Int32)), (0, .ref (ad (7 + v0))), (1, .ref (ad (7 + v1)))]) dX3_copyFrom_1 rfl (by decide) rfl ?_
  obtain ⟨n9, h⟩ := h
  exact g_sub [1, 2, 0] rfl (t_L_X3_copyFrom_2 C hrt9 hlk  n9 v0 v1 (0 : Int32) nw kp pt hr lr (by omega) (by omega) h)
theorem c_X3_copyFrom (l : Launch) (D : va_G) (A : Nat → Prop) (ad : Nat → Nat) (cA : Nat → ClassId) (v0 : Nat) (v1 : Nat) {tl : Int32} {tx : (Nat → Int32)} {mn : Int32} {sd : (Nat → Int64)} {e0 : Int32} {e1 : Int32} {e2 : Int32} {e3 : Int32} {e4 : Int32} {e5 : Int32} {e6 : Int32} {e7 : Int32} {e8 : Int32} {e9 : Int32} {e10 : Int32} {fr : Int32} {hd : Int32} {nw : (Nat → Int32)} {kp : (Nat → Int32)} {pt : (Nat → Int32)} {hr : (Nat → Nat → Int32)} {lr : (Nat → Nat → Int32)} (hv0 : v0 < 5) (hv1 : v1 < 5) (Q : (Nat → Int32) → (Nat → Int32) → (Nat → Int32) → (Nat → Nat → Int32) → (Nat → Nat → Int32) → Prop) (h : F_X3_copyFrom v0 v1 nw kp pt hr lr Q) : Met l yX3_copyFrom wsX3_copyFrom rmX3_copyFrom (va_Pc [.ref (ad (7 + v0)), .ref (ad (7 + v1))] (OKX D (tysX cA) (WX ad cA tl tx mn sd e0 e1 e2 e3 e4 e5 e6 e7 e8 e9 e10 fr hd nw kp pt hr lr) A)) (QC_X3_copyFrom D A ad cA tl tx mn sd e0 e1 e2 e3 e4 e5 e6 e7 e8 e9 e10 fr hd Q) 0 0 A :=
  g_met (own := RX3) (by decide) rfl rfl (Nat.le_of_ble_eq_true rfl) (fun p e s m below meth c C hrt9 hlk _ => g_sub [0, 1] rfl (t_B_X3_copyFrom_0 C hrt9 hlk v0 v1 nw kp pt hr lr hv0 hv1 h))
theorem k_X3_copyFrom {ws : List Cond} {own : String} {cc : ByteArray} {nL pc index kc ks : Nat} {lv : List (Nat × Value)} {st : List Value} {Q : State → Prop} {R : Room} {K : (Nat → Int32) → (Nat → Int32) → (Nat → Int32) → (Nat → Nat → Int32) → (Nat → Nat → Int32) → Prop} {v0 : Nat} {v1 : Nat} (C : CxX p s m args c D (tysX cA) own cc nL ws) (hT : GoodIn ws (wsV own index RX3 yX3_copyFrom wsX3_copyFrom)) (hR : rmX3_copyFrom.frames + 1 ≤ R.frames ∧ 8 + (3 + 11) + rmX3_copyFrom.locals ≤ R.locals) (hk9 : kc ≤ R.cells ∧ ks ≤ R.slots) (hcat : (st.map fun v => v.category).sum ≤ 8) (hdg : decode cc pc = .ok (.invokevirtual index, 3)) (hv0 : v0 < 5) (hv1 : v1 < 5) (h : F_X3_copyFrom v0 v1 nw kp pt hr lr K) (kk : ∀ (nwq : (Nat → Int32)) (kpq : (Nat → Int32)) (ptq : (Nat → Int32)) (hrq : (Nat → Nat → Int32)) (lrq : (Nat → Nat → Int32)), K nwq kpq ptq hrq lrq → GoX p l e R s m args below meth c D A nL kc ks Q (pc + 3) lv (st) (WX ad cA tl tx mn sd e0 e1 e2 e3 e4 e5 e6 e7 e8 e9 e10 fr hd nwq kpq ptq hrq lrq)) : GoX p l e R s m args below meth c D A nL kc ks Q pc lv (.ref (ad (7 + v1)) :: .ref (ad (7 + v0)) :: st) (WX ad cA tl tx mn sd e0 e1 e2 e3 e4 e5 e6 e7 e8 e9 e10 fr hd nw kp pt hr lr) :=
  g_callVv C (As := [.ref (ad (7 + v1))]) 1 (c_X3_copyFrom l D A ad cA v0 v1 hv0 hv1 K h) hT rfl rfl rfl (by decide +kernel) hR hk9 (7 + v0) (WXg_ST (by omega)) rfl rfl rfl hcat hdg (fun u hu => kk u.1 u.2.1 u.2.2.1 u.2.2.2.1 u.2.2.2.2 hu)
/-! X3_nextLine -/
abbrev rmX3_nextLine : Room := { frames := 1, cells := 0, slots := 0, locals := 26 }
abbrev QC_X3_nextLine (D : va_G) (A : Nat → Prop) (ad : Nat → Nat) (cA : Nat → ClassId) (tl : Int32) (tx : (Nat → Int32)) (mn : Int32) (sd : (Nat → Int64)) (e0 : Int32) (e1 : Int32) (e2 : Int32) (e3 : Int32) (e4 : Int32) (e5 : Int32) (e6 : Int32) (e7 : Int32) (e8 : Int32) (e9 : Int32) (e10 : Int32) (fr : Int32) (hd : Int32) (pt : (Nat → Int32)) (hr : (Nat → Nat → Int32)) (lr : (Nat → Nat → Int32)) (Q : Nat → (Nat → Int32) → (Nat → Int32) → Prop) : Array Value → State → Outcome → State → Prop := va_Qr (fun u : Nat × (Nat → Int32) × (Nat → Int32) => u.1 < 50 ∧ Q u.1 u.2.1 u.2.2) (fun u a t => a = (fun u : Nat × (Nat → Int32) × (Nat → Int32) => ad (52 + u.1)) u ∧ OKX D (tysX cA) ((fun u : Nat × (Nat → Int32) × (Nat → Int32) => WX ad cA tl tx mn sd e0 e1 e2 e3 e4 e5 e6 e7 e8 e9 e10 fr hd u.2.1 u.2.2 pt hr lr) u) A t) A
abbrev QP_X3_nextLine (D : va_G) (A : Nat → Prop) (ad : Nat → Nat) (cA : Nat → ClassId) (tl : Int32) (tx : (Nat → Int32)) (mn : Int32) (sd : (Nat → Int64)) (e0 : Int32) (e1 : Int32) (e2 : Int32) (e3 : Int32) (e4 : Int32) (e5 : Int32) (e6 : Int32) (e7 : Int32) (e8 : Int32) (e9 : Int32) (e10 : Int32) (fr : Int32) (hd : Int32) (pt : (Nat → Int32)) (hr : (Nat → Nat → Int32)) (lr : (Nat → Nat → Int32)) (Q : Nat → (Nat → Int32) → (Nat → Int32) → Prop) (below : List Frame) (args : Array Value) (s : State) : State → Prop := MQ below (QC_X3_nextLine D A ad cA tl tx mn sd e0 e1 e2 e3 e4 e5 e6 e7 e8 e9 e10 fr hd pt hr lr Q) args s 0 0 A
def B_X3_nextLine_27  (Q : Nat → (Nat → Int32) → (Nat → Int32) → Prop)  (v0 : Nat) (s0 : Nat) (s1 : Int32) (nw : (Nat → Int32)) (kp : (Nat → Int32)) : Prop := (vp_in ((va_up nw s0 s1) v0) 10 ∧ ((10 * v0 + ((va_up nw s0 s1) v0).toNatClampNeg) < 50 ∧ Q (10 * v0 + ((va_up nw s0 s1) v0).toNatClampNeg) (va_up nw s0 s1) (va_up kp v0 (if (10 : Int32) < ((kp v0) + (1 : Int32)) then (10 : Int32) else ((kp v0) + (1 : Int32))))))
def B_X3_nextLine_26  (Q : Nat → (Nat → Int32) → (Nat → Int32) → Prop)  (v0 : Nat) (s0 : Nat) (nw : (Nat → Int32)) (kp : (Nat → Int32)) : Prop := (B_X3_nextLine_27  Q  v0 s0 (0 : Int32) nw kp)
def B_X3_nextLine_0  (Q : Nat → (Nat → Int32) → (Nat → Int32) → Prop)  (v0 : Nat) (nw : (Nat → Int32)) (kp : (Nat → Int32)) : Prop := (((nw v0) < 0 → (B_X3_nextLine_26  Q  v0 v0 nw kp)) ∧ (¬ (nw v0) < 0 → (((9 : Int32) ≤ (nw v0) → (B_X3_nextLine_26  Q  v0 v0 nw kp)) ∧ (¬ (9 : Int32) ≤ (nw v0) → (B_X3_nextLine_27  Q  v0 v0 ((nw v0) + (1 : Int32)) nw kp)))))
def F_X3_nextLine (v0 : Nat)  (nw : (Nat → Int32)) (kp : (Nat → Int32)) (Q : Nat → (Nat → Int32) → (Nat → Int32) → Prop) : Prop := B_X3_nextLine_0 Q  v0 nw kp
theorem lkX3_nextLine_16 : Cond.fieldLink RX3 16 (TX3 1).1 (TX3 1).2.1 (TX3 1).2.2.1 ∈ wsX3_nextLine := by decide +kernel
theorem lkX3_nextLine_23 : Cond.fieldLink RX3 23 (TX3 3).1 (TX3 3).2.1 (TX3 3).2.2.1 ∈ wsX3_nextLine := by decide +kernel
theorem lkX3_nextLine_19 : Cond.fieldLink RX3 19 (TX3 2).1 (TX3 2).2.1 (TX3 2).2.2.1 ∈ wsX3_nextLine := by decide +kernel
theorem inX3_nextLine_3 : ∀ q ∈ u_ws RX3 TX3 5, q ∈ wsX3_nextLine := by decide +kernel
set_option maxHeartbeats 4000000 in
set_option maxRecDepth 100000 in
theorem t_B_X3_nextLine_27  {Q : Nat → (Nat → Int32) → (Nat → Int32) → Prop} (C : CxX p s m args c D (tysX cA) RX3 cX3_nextLine 1 wsX3_nextLine) (hrt9 : meth.sig.returnType = (some (.array .int))) (hlk : meth.locks = false) (v0 : Nat) (s0 : Nat) (s1 : Int32) (nw : (Nat → Int32)) (kp : (Nat → Int32)) (hv0 : v0 < 5) (hs0 : s0 < 5) (h : B_X3_nextLine_27  Q  v0 s0 s1 nw kp) : GoX p l e rmX3_nextLine s m args below meth c D A 1 0 0 (QP_X3_nextLine D A ad cA tl tx mn sd e0 e1 e2 e3 e4 e5 e6 e7 e8 e9 e10 fr hd pt hr lr Q below args s) 27 [(0, .ref (ad (7 + v0)))] [.int s1, .ref (ad (7 + s0))] (WX ad cA tl tx mn sd e0 e1 e2 e3 e4 e5 e6 e7 e8 e9 e10 fr hd nw kp pt hr lr) := by
  replace h : (vp_in ((va_up nw s0 s1) v0) 10 ∧ ((10 * v0 + ((va_up nw s0 s1) v0).toNatClampNeg) < 50 ∧ Q (10 * v0 + ((va_up nw s0 s1) v0).toNatClampNeg) (va_up nw s0 s1) (va_up kp v0 (if (10 : Int32) < ((kp v0) + (1 : Int32)) then (10 : Int32) else ((kp v0) + (1 : Int32)))))) := h
  refine g_put C inX3_nextLine_3 tyX3 tyX3_ok nmX3 (7 + s0) (WXg_ST (by omega)) rfl 2 (by decide) lkX3_nextLine_19 rfl rfl rfl (Nat.le_of_ble_eq_true rfl) (WXs_nw (by omega)) dX3_nextLine_27 ?_
  refine g_aload_n C 0 dX3_nextLine_30 rfl rfl ?_
  refine g_aload_n C 0 dX3_nextLine_31 rfl rfl ?_
  refine g_get C inX3_nextLine_3 (7 + v0) (WXg_ST (by omega)) rfl 3 (by decide) lkX3_nextLine_23 rfl dX3_nextLine_32 ?_
  refine g_iconst C (1 : Int32) dX3_nextLine_35 (by decide) ?_
  refine g_iadd C dX3_nextLine_36 ?_
  refine g_bipush C (10 : Int32) dX3_nextLine_37 (by decide) ?_
  refine g_mmin C (by decide +kernel) (by decide +kernel) (by decide +kernel) (by decide +kernel) (Nat.le_of_ble_eq_true rfl) (Nat.le_of_ble_eq_true rfl) (Nat.zero_le _) (Nat.zero_le _) dX3_nextLine_39 ?_
  refine g_put C inX3_nextLine_3 tyX3 tyX3_ok nmX3 (7 + v0) (WXg_ST (by omega)) rfl 3 (by decide) lkX3_nextLine_23 rfl rfl rfl (Nat.le_of_ble_eq_true rfl) (WXs_kp (by omega)) dX3_nextLine_42 ?_
  refine g_aload_n C 0 dX3_nextLine_45 rfl rfl ?_
  refine g_get C inX3_nextLine_3 (7 + v0) (WXg_ST (by omega)) rfl 1 (by decide) lkX3_nextLine_16 rfl dX3_nextLine_46 ?_
  refine g_aload_n C 0 dX3_nextLine_49 rfl rfl ?_
  refine g_get C inX3_nextLine_3 (7 + v0) (WXg_ST (by omega)) rfl 2 (by decide) lkX3_nextLine_19 rfl dX3_nextLine_50 ?_
  have b_1 := vp_lt h.1
  refine g_aald C (17 + v0) 4 (WXg_LO (by omega)) rfl rfl h.1 rfl dX3_nextLine_53 ?_
  replace h := h.2
  exact g_aret C hrt9 hlk (u := ((10 * v0 + ((va_up nw s0 s1) v0).toNatClampNeg), (va_up nw s0 s1), (va_up kp v0 (if (10 : Int32) < ((kp v0) + (1 : Int32)) then (10 : Int32) else ((kp v0) + (1 : Int32)))))) rfl h dX3_nextLine_54
set_option maxHeartbeats 4000000 in
set_option maxRecDepth 100000 in
theorem t_B_X3_nextLine_26  {Q : Nat → (Nat → Int32) → (Nat → Int32) → Prop} (C : CxX p s m args c D (tysX cA) RX3 cX3_nextLine 1 wsX3_nextLine) (hrt9 : meth.sig.returnType = (some (.array .int))) (hlk : meth.locks = false) (v0 : Nat) (s0 : Nat) (nw : (Nat → Int32)) (kp : (Nat → Int32)) (hv0 : v0 < 5) (hs0 : s0 < 5) (h : B_X3_nextLine_26  Q  v0 s0 nw kp) : GoX p l e rmX3_nextLine s m args below meth c D A 1 0 0 (QP_X3_nextLine D A ad cA tl tx mn sd e0 e1 e2 e3 e4 e5 e6 e7 e8 e9 e10 fr hd pt hr lr Q below args s) 26 [(0, .ref (ad (7 + v0)))] [.ref (ad (7 + s0))] (WX ad cA tl tx mn sd e0 e1 e2 e3 e4 e5 e6 e7 e8 e9 e10 fr hd nw kp pt hr lr) := by
  replace h : (B_X3_nextLine_27  Q  v0 s0 (0 : Int32) nw kp) := h
  refine g_iconst C (0 : Int32) dX3_nextLine_26 (by decide) ?_
  exact g_sub [0] rfl (t_B_X3_nextLine_27 C hrt9 hlk  v0 s0 (0 : Int32) nw kp (by omega) (by omega) h)
set_option maxHeartbeats 4000000 in
set_option maxRecDepth 100000 in
theorem t_B_X3_nextLine_0  {Q : Nat → (Nat → Int32) → (Nat → Int32) → Prop} (C : CxX p s m args c D (tysX cA) RX3 cX3_nextLine 1 wsX3_nextLine) (hrt9 : meth.sig.returnType = (some (.array .int))) (hlk : meth.locks = false) (v0 : Nat) (nw : (Nat → Int32)) (kp : (Nat → Int32)) (hv0 : v0 < 5) (h : B_X3_nextLine_0  Q  v0 nw kp) : GoX p l e rmX3_nextLine s m args below meth c D A 1 0 0 (QP_X3_nextLine D A ad cA tl tx mn sd e0 e1 e2 e3 e4 e5 e6 e7 e8 e9 e10 fr hd pt hr lr Q below args s) 0 [(0, .ref (ad (7 + v0)))] [] (WX ad cA tl tx mn sd e0 e1 e2 e3 e4 e5 e6 e7 e8 e9 e10 fr hd nw kp pt hr lr) := by
  replace h : (((nw v0) < 0 → (B_X3_nextLine_26  Q  v0 v0 nw kp)) ∧ (¬ (nw v0) < 0 → (((9 : Int32) ≤ (nw v0) → (B_X3_nextLine_26  Q  v0 v0 nw kp)) ∧ (¬ (9 : Int32) ≤ (nw v0) → (B_X3_nextLine_27  Q  v0 v0 ((nw v0) + (1 : Int32)) nw kp))))) := h
  refine g_aload_n C 0 dX3_nextLine_0 rfl rfl ?_
  refine g_aload_n C 0 dX3_nextLine_1 rfl rfl ?_
  refine g_get C inX3_nextLine_3 (7 + v0) (WXg_ST (by omega)) rfl 2 (by decide) lkX3_nextLine_19 rfl dX3_nextLine_2 ?_
  refine g_if_lt C 26 dX3_nextLine_5 (by decide) (fun c_2 => ?_) (fun c_2 => ?_)
  · replace h := h.1 c_2
    exact g_sub [0] rfl (t_B_X3_nextLine_26 C hrt9 hlk  v0 v0 nw kp (by omega) (by omega) h)
  · replace h := h.2 c_2
    refine g_aload_n C 0 dX3_nextLine_8 rfl rfl ?_
    refine g_get C inX3_nextLine_3 (7 + v0) (WXg_ST (by omega)) rfl 2 (by decide) lkX3_nextLine_19 rfl dX3_nextLine_9 ?_
    refine g_bipush C (9 : Int32) dX3_nextLine_12 (by decide) ?_
    refine g_icmp_ge C 26 dX3_nextLine_14 (by decide) (fun c_3 => ?_) (fun c_3 => ?_)
    · replace h := h.1 c_3
      exact g_sub [0] rfl (t_B_X3_nextLine_26 C hrt9 hlk  v0 v0 nw kp (by omega) (by omega) h)
    · replace h := h.2 c_3
      refine g_aload_n C 0 dX3_nextLine_17 rfl rfl ?_
      refine g_get C inX3_nextLine_3 (7 + v0) (WXg_ST (by omega)) rfl 2 (by decide) lkX3_nextLine_19 rfl dX3_nextLine_18 ?_
      refine g_iconst C (1 : Int32) dX3_nextLine_21 (by decide) ?_
      refine g_iadd C dX3_nextLine_22 ?_
      refine g_goto C 27 dX3_nextLine_23 (by decide) ?_
      exact g_sub [0] rfl (t_B_X3_nextLine_27 C hrt9 hlk  v0 v0 ((nw v0) + (1 : Int32)) nw kp (by omega) (by omega) h)
theorem c_X3_nextLine (l : Launch) (D : va_G) (A : Nat → Prop) (ad : Nat → Nat) (cA : Nat → ClassId) (v0 : Nat) {tl : Int32} {tx : (Nat → Int32)} {mn : Int32} {sd : (Nat → Int64)} {e0 : Int32} {e1 : Int32} {e2 : Int32} {e3 : Int32} {e4 : Int32} {e5 : Int32} {e6 : Int32} {e7 : Int32} {e8 : Int32} {e9 : Int32} {e10 : Int32} {fr : Int32} {hd : Int32} {nw : (Nat → Int32)} {kp : (Nat → Int32)} {pt : (Nat → Int32)} {hr : (Nat → Nat → Int32)} {lr : (Nat → Nat → Int32)} (hv0 : v0 < 5) (Q : Nat → (Nat → Int32) → (Nat → Int32) → Prop) (h : F_X3_nextLine v0 nw kp Q) : Met l yX3_nextLine wsX3_nextLine rmX3_nextLine (va_Pc [.ref (ad (7 + v0))] (OKX D (tysX cA) (WX ad cA tl tx mn sd e0 e1 e2 e3 e4 e5 e6 e7 e8 e9 e10 fr hd nw kp pt hr lr) A)) (QC_X3_nextLine D A ad cA tl tx mn sd e0 e1 e2 e3 e4 e5 e6 e7 e8 e9 e10 fr hd pt hr lr Q) 0 0 A :=
  g_met (own := RX3) (by decide) rfl rfl (Nat.le_of_ble_eq_true rfl) (fun p e s m below meth c C hrt9 hlk _ => g_sub [0] rfl (t_B_X3_nextLine_0 C hrt9 hlk v0 nw kp hv0 h))
theorem k_X3_nextLine {ws : List Cond} {own : String} {cc : ByteArray} {nL pc index kc ks : Nat} {lv : List (Nat × Value)} {st : List Value} {Q : State → Prop} {R : Room} {K : Nat → (Nat → Int32) → (Nat → Int32) → Prop} {v0 : Nat} (C : CxX p s m args c D (tysX cA) own cc nL ws) (hT : GoodIn ws (wsV own index RX3 yX3_nextLine wsX3_nextLine)) (hR : rmX3_nextLine.frames + 1 ≤ R.frames ∧ 8 + (1 + 11) + rmX3_nextLine.locals ≤ R.locals) (hk9 : kc ≤ R.cells ∧ ks ≤ R.slots) (hcat : (st.map fun v => v.category).sum ≤ 8) (hdg : decode cc pc = .ok (.invokevirtual index, 3)) (hv0 : v0 < 5) (h : F_X3_nextLine v0 nw kp K) (kk : ∀ (r : Nat) (nwq : (Nat → Int32)) (kpq : (Nat → Int32)), r < 50 → K r nwq kpq → GoX p l e R s m args below meth c D A nL kc ks Q (pc + 3) lv (.ref (ad (52 + r)) :: st) (WX ad cA tl tx mn sd e0 e1 e2 e3 e4 e5 e6 e7 e8 e9 e10 fr hd nwq kpq pt hr lr)) : GoX p l e R s m args below meth c D A nL kc ks Q pc lv (.ref (ad (7 + v0)) :: st) (WX ad cA tl tx mn sd e0 e1 e2 e3 e4 e5 e6 e7 e8 e9 e10 fr hd nw kp pt hr lr) :=
  g_callVr C (As := []) 0 (c_X3_nextLine l D A ad cA v0 hv0 K h) hT rfl rfl rfl (by decide +kernel) hR hk9 (7 + v0) (WXg_ST (by omega)) rfl rfl rfl hcat hdg (fun u hu => kk u.1 u.2.1 u.2.2 hu.1 hu.2)
/-! X3_told -/
abbrev rmX3_told : Room := { frames := 0, cells := 0, slots := 0, locals := 0 }
abbrev QC_X3_told (D : va_G) (A : Nat → Prop) (ad : Nat → Nat) (cA : Nat → ClassId) (tl : Int32) (tx : (Nat → Int32)) (mn : Int32) (sd : (Nat → Int64)) (e0 : Int32) (e1 : Int32) (e2 : Int32) (e3 : Int32) (e4 : Int32) (e5 : Int32) (e6 : Int32) (e7 : Int32) (e8 : Int32) (e9 : Int32) (e10 : Int32) (fr : Int32) (hd : Int32) (nw : (Nat → Int32)) (kp : (Nat → Int32)) (pt : (Nat → Int32)) (hr : (Nat → Nat → Int32)) (lr : (Nat → Nat → Int32)) (Q : Int32 → Prop) : Array Value → State → Outcome → State → Prop := va_Qi (fun (r : Int32) (u : Unit) => Q r ) (fun u t => OKX D (tysX cA) ((fun u : Unit => WX ad cA tl tx mn sd e0 e1 e2 e3 e4 e5 e6 e7 e8 e9 e10 fr hd nw kp pt hr lr) u) A t) A
abbrev QP_X3_told (D : va_G) (A : Nat → Prop) (ad : Nat → Nat) (cA : Nat → ClassId) (tl : Int32) (tx : (Nat → Int32)) (mn : Int32) (sd : (Nat → Int64)) (e0 : Int32) (e1 : Int32) (e2 : Int32) (e3 : Int32) (e4 : Int32) (e5 : Int32) (e6 : Int32) (e7 : Int32) (e8 : Int32) (e9 : Int32) (e10 : Int32) (fr : Int32) (hd : Int32) (nw : (Nat → Int32)) (kp : (Nat → Int32)) (pt : (Nat → Int32)) (hr : (Nat → Nat → Int32)) (lr : (Nat → Nat → Int32)) (Q : Int32 → Prop) (below : List Frame) (args : Array Value) (s : State) : State → Prop := MQ below (QC_X3_told D A ad cA tl tx mn sd e0 e1 e2 e3 e4 e5 e6 e7 e8 e9 e10 fr hd nw kp pt hr lr Q) args s 0 0 A
def B_X3_told_37  (Q : Int32 → Prop) (nw : (Nat → Int32)) (lr : (Nat → Nat → Int32)) (s0 : Int32)  : Prop := (Q s0)
def B_X3_told_35  (Q : Int32 → Prop) (nw : (Nat → Int32)) (lr : (Nat → Nat → Int32))   : Prop := (B_X3_told_37  Q nw lr (-5 : Int32))
def B_X3_told_14  (Q : Int32 → Prop) (nw : (Nat → Int32)) (lr : (Nat → Nat → Int32)) (v0 : Nat) (v2 : Int32) (v3 : Int32)  : Prop := ((v3 < 0 → (B_X3_told_35  Q nw lr )) ∧ (¬ v3 < 0 → (((10 : Int32) ≤ v3 → (B_X3_told_35  Q nw lr )) ∧ (¬ (10 : Int32) ≤ v3 → (vp_in v3 10 ∧ (vp_in v2 5 ∧ (B_X3_told_37  Q nw lr ((lr (10 * v0 + v3.toNatClampNeg)) v2.toNatClampNeg))))))))
def B_X3_told_0  (Q : Int32 → Prop) (nw : (Nat → Int32)) (lr : (Nat → Nat → Int32)) (v0 : Nat) (v1 : Int32) (v2 : Int32)  : Prop := ((0 ≤ ((nw v0) - v1) → (B_X3_told_14  Q nw lr v0 v2 ((nw v0) - v1))) ∧ (¬ 0 ≤ ((nw v0) - v1) → (B_X3_told_14  Q nw lr v0 v2 (((nw v0) - v1) + (10 : Int32)))))
def F_X3_told (v0 : Nat) (v1 : Int32) (v2 : Int32) (nw : (Nat → Int32)) (lr : (Nat → Nat → Int32))  (Q : Int32 → Prop) : Prop := B_X3_told_0 Q nw lr v0 v1 v2 
theorem lkX3_told_19 : Cond.fieldLink RX3 19 (TX3 2).1 (TX3 2).2.1 (TX3 2).2.2.1 ∈ wsX3_told := by decide +kernel
theorem lkX3_told_16 : Cond.fieldLink RX3 16 (TX3 1).1 (TX3 1).2.1 (TX3 1).2.2.1 ∈ wsX3_told := by decide +kernel
theorem inX3_told_3 : ∀ q ∈ u_ws RX3 TX3 5, q ∈ wsX3_told := by decide +kernel
set_option maxHeartbeats 4000000 in
set_option maxRecDepth 100000 in
theorem t_B_X3_told_37  {Q : Int32 → Prop} (C : CxX p s m args c D (tysX cA) RX3 cX3_told 4 wsX3_told) (hrt9 : meth.sig.returnType = (some .int)) (hlk : meth.locks = false) (s0 : Int32)   (h : B_X3_told_37  Q nw lr s0) : GoX p l e rmX3_told s m args below meth c D A 4 0 0 (QP_X3_told D A ad cA tl tx mn sd e0 e1 e2 e3 e4 e5 e6 e7 e8 e9 e10 fr hd nw kp pt hr lr Q below args s) 37 [] [.int s0] (WX ad cA tl tx mn sd e0 e1 e2 e3 e4 e5 e6 e7 e8 e9 e10 fr hd nw kp pt hr lr) := by
  replace h : (Q s0) := h
  exact g_iret C hrt9 hlk (u := ()) rfl h dX3_told_37
set_option maxHeartbeats 4000000 in
set_option maxRecDepth 100000 in
theorem t_B_X3_told_35  {Q : Int32 → Prop} (C : CxX p s m args c D (tysX cA) RX3 cX3_told 4 wsX3_told) (hrt9 : meth.sig.returnType = (some .int)) (hlk : meth.locks = false)    (h : B_X3_told_35  Q nw lr ) : GoX p l e rmX3_told s m args below meth c D A 4 0 0 (QP_X3_told D A ad cA tl tx mn sd e0 e1 e2 e3 e4 e5 e6 e7 e8 e9 e10 fr hd nw kp pt hr lr Q below args s) 35 [] [] (WX ad cA tl tx mn sd e0 e1 e2 e3 e4 e5 e6 e7 e8 e9 e10 fr hd nw kp pt hr lr) := by
  replace h : (B_X3_told_37  Q nw lr (-5 : Int32)) := h
  refine g_bipush C (-5 : Int32) dX3_told_35 (by decide) ?_
  exact g_sub [] rfl (t_B_X3_told_37 C hrt9 hlk  (-5 : Int32)  h)
set_option maxHeartbeats 4000000 in
set_option maxRecDepth 100000 in
theorem t_B_X3_told_14  {Q : Int32 → Prop} (C : CxX p s m args c D (tysX cA) RX3 cX3_told 4 wsX3_told) (hrt9 : meth.sig.returnType = (some .int)) (hlk : meth.locks = false) (v0 : Nat) (v2 : Int32) (v3 : Int32)  (hv0 : v0 < 5) (h : B_X3_told_14  Q nw lr v0 v2 v3) : GoX p l e rmX3_told s m args below meth c D A 4 0 0 (QP_X3_told D A ad cA tl tx mn sd e0 e1 e2 e3 e4 e5 e6 e7 e8 e9 e10 fr hd nw kp pt hr lr Q below args s) 14 [(0, .ref (ad (7 + v0))), (2, .int v2), (3, .int v3)] [] (WX ad cA tl tx mn sd e0 e1 e2 e3 e4 e5 e6 e7 e8 e9 e10 fr hd nw kp pt hr lr) := by
  replace h : ((v3 < 0 → (B_X3_told_35  Q nw lr )) ∧ (¬ v3 < 0 → (((10 : Int32) ≤ v3 → (B_X3_told_35  Q nw lr )) ∧ (¬ (10 : Int32) ≤ v3 → (vp_in v3 10 ∧ (vp_in v2 5 ∧ (B_X3_told_37  Q nw lr ((lr (10 * v0 + v3.toNatClampNeg)) v2.toNatClampNeg)))))))) := h
  refine g_iload_n C 2 dX3_told_14 rfl rfl ?_
  refine g_if_lt C 35 dX3_told_15 (by decide) (fun c_1 => ?_) (fun c_1 => ?_)
  · replace h := h.1 c_1
    exact g_sub [] rfl (t_B_X3_told_35 C hrt9 hlk    h)
  · replace h := h.2 c_1
    refine g_iload_n C 2 dX3_told_18 rfl rfl ?_
    refine g_bipush C (10 : Int32) dX3_told_19 (by decide) ?_
    refine g_icmp_ge C 35 dX3_told_21 (by decide) (fun c_2 => ?_) (fun c_2 => ?_)
    · replace h := h.1 c_2
      exact g_sub [] rfl (t_B_X3_told_35 C hrt9 hlk    h)
    · replace h := h.2 c_2
      refine g_aload_n C 0 dX3_told_24 rfl rfl ?_
      refine g_get C inX3_told_3 (7 + v0) (WXg_ST (by omega)) rfl 1 (by decide) lkX3_told_16 rfl dX3_told_25 ?_
      refine g_iload_n C 2 dX3_told_28 rfl rfl ?_
      have b_3 := vp_lt h.1
      refine g_aald C (17 + v0) 4 (WXg_LO (by omega)) rfl rfl h.1 rfl dX3_told_29 ?_
      replace h := h.2
      refine g_iload_n C 1 dX3_told_30 rfl rfl ?_
      refine g_iald C (52 + (10 * v0 + v3.toNatClampNeg)) 1 (WXg_LR (by omega)) rfl h.1 dX3_told_31 ?_
      replace h := h.2
      refine g_goto C 37 dX3_told_32 (by decide) ?_
      exact g_sub [] rfl (t_B_X3_told_37 C hrt9 hlk  ((lr (10 * v0 + v3.toNatClampNeg)) v2.toNatClampNeg)  h)
set_option maxHeartbeats 4000000 in
set_option maxRecDepth 100000 in
theorem t_B_X3_told_0  {Q : Int32 → Prop} (C : CxX p s m args c D (tysX cA) RX3 cX3_told 4 wsX3_told) (hrt9 : meth.sig.returnType = (some .int)) (hlk : meth.locks = false) (v0 : Nat) (v1 : Int32) (v2 : Int32)  (hv0 : v0 < 5) (h : B_X3_told_0  Q nw lr v0 v1 v2) : GoX p l e rmX3_told s m args below meth c D A 4 0 0 (QP_X3_told D A ad cA tl tx mn sd e0 e1 e2 e3 e4 e5 e6 e7 e8 e9 e10 fr hd nw kp pt hr lr Q below args s) 0 [(0, .ref (ad (7 + v0))), (1, .int v1), (2, .int v2)] [] (WX ad cA tl tx mn sd e0 e1 e2 e3 e4 e5 e6 e7 e8 e9 e10 fr hd nw kp pt hr lr) := by
  replace h : ((0 ≤ ((nw v0) - v1) → (B_X3_told_14  Q nw lr v0 v2 ((nw v0) - v1))) ∧ (¬ 0 ≤ ((nw v0) - v1) → (B_X3_told_14  Q nw lr v0 v2 (((nw v0) - v1) + (10 : Int32))))) := h
  refine g_aload_n C 0 dX3_told_0 rfl rfl ?_
  refine g_get C inX3_told_3 (7 + v0) (WXg_ST (by omega)) rfl 2 (by decide) lkX3_told_19 rfl dX3_told_1 ?_
  refine g_iload_n C 1 dX3_told_4 rfl rfl ?_
  refine g_isub C dX3_told_5 ?_
  refine g_istore_n C (lv2 := [(3, .int ((nw v0) - v1)), (0, .ref (ad (7 + v0))), (1, .int v1), (2, .int v2)]) dX3_told_6 rfl (by decide) rfl ?_
  refine g_iload_n C 0 dX3_told_7 rfl rfl ?_
  refine g_if_ge C 14 dX3_told_8 (by decide) (fun c_4 => ?_) (fun c_4 => ?_)
  · replace h := h.1 c_4
    exact g_sub [1, 3, 0] rfl (t_B_X3_told_14 C hrt9 hlk  v0 v2 ((nw v0) - v1) (by omega) h)
  · replace h := h.2 c_4
    refine g_iinc C (v := (((nw v0) - v1) + (10 : Int32))) (lv2 := [(3, .int (((nw v0) - v1) + (10 : Int32))), (0, .ref (ad (7 + v0))), (1, .int v1), (2, .int v2)]) 0 dX3_told_11 rfl rfl (by decide) rfl ?_
    exact g_sub [1, 3, 0] rfl (t_B_X3_told_14 C hrt9 hlk  v0 v2 (((nw v0) - v1) + (10 : Int32)) (by omega) h)
theorem c_X3_told (l : Launch) (D : va_G) (A : Nat → Prop) (ad : Nat → Nat) (cA : Nat → ClassId) (v0 : Nat) (v1 : Int32) (v2 : Int32) {tl : Int32} {tx : (Nat → Int32)} {mn : Int32} {sd : (Nat → Int64)} {e0 : Int32} {e1 : Int32} {e2 : Int32} {e3 : Int32} {e4 : Int32} {e5 : Int32} {e6 : Int32} {e7 : Int32} {e8 : Int32} {e9 : Int32} {e10 : Int32} {fr : Int32} {hd : Int32} {nw : (Nat → Int32)} {kp : (Nat → Int32)} {pt : (Nat → Int32)} {hr : (Nat → Nat → Int32)} {lr : (Nat → Nat → Int32)} (hv0 : v0 < 5) (Q : Int32 → Prop) (h : F_X3_told v0 v1 v2 nw lr Q) : Met l yX3_told wsX3_told rmX3_told (va_Pc [.ref (ad (7 + v0)), .int v1, .int v2] (OKX D (tysX cA) (WX ad cA tl tx mn sd e0 e1 e2 e3 e4 e5 e6 e7 e8 e9 e10 fr hd nw kp pt hr lr) A)) (QC_X3_told D A ad cA tl tx mn sd e0 e1 e2 e3 e4 e5 e6 e7 e8 e9 e10 fr hd nw kp pt hr lr Q) 0 0 A :=
  g_met (own := RX3) (by decide) rfl rfl (Nat.le_of_ble_eq_true rfl) (fun p e s m below meth c C hrt9 hlk _ => g_sub [0, 1, 2] rfl (t_B_X3_told_0 C hrt9 hlk v0 v1 v2  hv0 h))
theorem k_X3_told {ws : List Cond} {own : String} {cc : ByteArray} {nL pc index kc ks : Nat} {lv : List (Nat × Value)} {st : List Value} {Q : State → Prop} {R : Room} {K : Int32 → Prop} {v0 : Nat} {v1 : Int32} {v2 : Int32} (C : CxX p s m args c D (tysX cA) own cc nL ws) (hT : GoodIn ws (wsV own index RX3 yX3_told wsX3_told)) (hR : rmX3_told.frames + 1 ≤ R.frames ∧ 8 + (4 + 11) + rmX3_told.locals ≤ R.locals) (hk9 : kc ≤ R.cells ∧ ks ≤ R.slots) (hcat : (st.map fun v => v.category).sum ≤ 8) (hdg : decode cc pc = .ok (.invokevirtual index, 3)) (hv0 : v0 < 5) (h : F_X3_told v0 v1 v2 nw lr K) (kk : ∀ (r : Int32) , K r → GoX p l e R s m args below meth c D A nL kc ks Q (pc + 3) lv (.int r :: st) (WX ad cA tl tx mn sd e0 e1 e2 e3 e4 e5 e6 e7 e8 e9 e10 fr hd nw kp pt hr lr)) : GoX p l e R s m args below meth c D A nL kc ks Q pc lv (.int v2 :: .int v1 :: .ref (ad (7 + v0)) :: st) (WX ad cA tl tx mn sd e0 e1 e2 e3 e4 e5 e6 e7 e8 e9 e10 fr hd nw kp pt hr lr) :=
  g_callVi C (As := [.int v1, .int v2]) 2 (c_X3_told l D A ad cA v0 v1 v2 hv0 K h) hT rfl rfl rfl (by decide +kernel) hR hk9 (7 + v0) (WXg_ST (by omega)) rfl rfl rfl hcat hdg (fun r u hu => kk r  hu)
/-! X3_total -/
abbrev rmX3_total : Room := { frames := 0, cells := 0, slots := 0, locals := 0 }
abbrev QC_X3_total (D : va_G) (A : Nat → Prop) (ad : Nat → Nat) (cA : Nat → ClassId) (tl : Int32) (tx : (Nat → Int32)) (mn : Int32) (sd : (Nat → Int64)) (e0 : Int32) (e1 : Int32) (e2 : Int32) (e3 : Int32) (e4 : Int32) (e5 : Int32) (e6 : Int32) (e7 : Int32) (e8 : Int32) (e9 : Int32) (e10 : Int32) (fr : Int32) (hd : Int32) (nw : (Nat → Int32)) (kp : (Nat → Int32)) (pt : (Nat → Int32)) (hr : (Nat → Nat → Int32)) (lr : (Nat → Nat → Int32)) (Q : Int32 → Prop) : Array Value → State → Outcome → State → Prop := va_Qi (fun (r : Int32) (u : Unit) => Q r ) (fun u t => OKX D (tysX cA) ((fun u : Unit => WX ad cA tl tx mn sd e0 e1 e2 e3 e4 e5 e6 e7 e8 e9 e10 fr hd nw kp pt hr lr) u) A t) A
abbrev QP_X3_total (D : va_G) (A : Nat → Prop) (ad : Nat → Nat) (cA : Nat → ClassId) (tl : Int32) (tx : (Nat → Int32)) (mn : Int32) (sd : (Nat → Int64)) (e0 : Int32) (e1 : Int32) (e2 : Int32) (e3 : Int32) (e4 : Int32) (e5 : Int32) (e6 : Int32) (e7 : Int32) (e8 : Int32) (e9 : Int32) (e10 : Int32) (fr : Int32) (hd : Int32) (nw : (Nat → Int32)) (kp : (Nat → Int32)) (pt : (Nat → Int32)) (hr : (Nat → Nat → Int32)) (lr : (Nat → Nat → Int32)) (Q : Int32 → Prop) (below : List Frame) (args : Array Value) (s : State) : State → Prop := MQ below (QC_X3_total D A ad cA tl tx mn sd e0 e1 e2 e3 e4 e5 e6 e7 e8 e9 e10 fr hd nw kp pt hr lr Q) args s 0 0 A
def B_X3_total_49 (kh5 : Nat → Int32 → Int32 → Int32 → Int32 → Prop) (Q : Int32 → Prop) (hr : (Nat → Nat → Int32)) (v0 : Nat) (v1 : Int32) (v2 : Int32) (v3 : Int32) (v4 : Int32)  : Prop := (kh5 v0 v1 v2 v3 (v4 + (1 : Int32)))
noncomputable def L_X3_total_15 (kh5 : Nat → Int32 → Int32 → Int32 → Int32 → Prop) (Q : Int32 → Prop) (hr : (Nat → Nat → Int32)) (n9 : Nat) : Nat → Int32 → Int32 → Int32 → Int32 → Int32 → Prop := Nat.rec (motive := fun _ => Nat → Int32 → Int32 → Int32 → Int32 → Int32 → Prop) (fun _ _ _ _ _ _ => False) (fun _ kh15 => fun v0 v1 v2 v3 v4 v5 => (((v1 + v2) ≤ v5 → (B_X3_total_49 kh5 Q hr v0 v1 v2 v3 v4)) ∧ (¬ (v1 + v2) ≤ v5 → (((9 : Int32) ≤ v5 → (B_X3_total_49 kh5 Q hr v0 v1 v2 v3 v4)) ∧ (¬ (9 : Int32) ≤ v5 → (vp_in v4 6 ∧ (vp_in v5 9 ∧ (kh15 v0 v1 v2 (v3 + ((hr (6 * v0 + v4.toNatClampNeg)) v5.toNatClampNeg)) v4 (v5 + (1 : Int32)))))))))) n9
noncomputable def L_X3_total_5  (Q : Int32 → Prop) (hr : (Nat → Nat → Int32)) (n9 : Nat) : Nat → Int32 → Int32 → Int32 → Int32 → Prop := Nat.rec (motive := fun _ => Nat → Int32 → Int32 → Int32 → Int32 → Prop) (fun _ _ _ _ _ => False) (fun _ kh5 => fun v0 v1 v2 v3 v4 => (((6 : Int32) ≤ v4 → (Q v3)) ∧ (¬ (6 : Int32) ≤ v4 → (∃ n9 : Nat, L_X3_total_15 kh5 Q hr n9 v0 v1 v2 v3 v4 v1)))) n9
def B_X3_total_0  (Q : Int32 → Prop) (hr : (Nat → Nat → Int32)) (v0 : Nat) (v1 : Int32) (v2 : Int32)  : Prop := (∃ n9 : Nat, L_X3_total_5  Q hr n9 v0 v1 v2 (0 : Int32) (0 : Int32))
def F_X3_total (v0 : Nat) (v1 : Int32) (v2 : Int32) (hr : (Nat → Nat → Int32))  (Q : Int32 → Prop) : Prop := B_X3_total_0 Q hr v0 v1 v2 
theorem lkX3_total_11 : Cond.fieldLink RX3 11 (TX3 0).1 (TX3 0).2.1 (TX3 0).2.2.1 ∈ wsX3_total := by decide +kernel
theorem inX3_total_3 : ∀ q ∈ u_ws RX3 TX3 5, q ∈ wsX3_total := by decide +kernel
set_option maxHeartbeats 4000000 in
set_option maxRecDepth 100000 in
theorem t_B_X3_total_49 {kh5 : Nat → Int32 → Int32 → Int32 → Int32 → Prop} {Q : Int32 → Prop} (C : CxX p s m args c D (tysX cA) RX3 cX3_total 6 wsX3_total) (hrt9 : meth.sig.returnType = (some .int)) (hlk : meth.locks = false) (Hk5 : ∀ (v0q : Nat) (v1q : Int32) (v2q : Int32) (v3q : Int32) (v4q : Int32)  (hv0q : v0q < 5), kh5 v0q v1q v2q v3q v4q → GoX p l e rmX3_total s m args below meth c D A 6 0 0 (QP_X3_total D A ad cA tl tx mn sd e0 e1 e2 e3 e4 e5 e6 e7 e8 e9 e10 fr hd nw kp pt hr lr Q below args s) 5 [(0, .ref (ad (7 + v0q))), (1, .int v1q), (2, .int v2q), (3, .int v3q), (4, .int v4q)] [] (WX ad cA tl tx mn sd e0 e1 e2 e3 e4 e5 e6 e7 e8 e9 e10 fr hd nw kp pt hr lr)) (v0 : Nat) (v1 : Int32) (v2 : Int32) (v3 : Int32) (v4 : Int32)  (hv0 : v0 < 5) (h : B_X3_total_49 kh5 Q hr v0 v1 v2 v3 v4) : GoX p l e rmX3_total s m args below meth c D A 6 0 0 (QP_X3_total D A ad cA tl tx mn sd e0 e1 e2 e3 e4 e5 e6 e7 e8 e9 e10 fr hd nw kp pt hr lr Q below args s) 49 [(0, .ref (ad (7 + v0))), (1, .int v1), (2, .int v2), (3, .int v3), (4, .int v4)] [] (WX ad cA tl tx mn sd e0 e1 e2 e3 e4 e5 e6 e7 e8 e9 e10 fr hd nw kp pt hr lr) := by
  replace h : (kh5 v0 v1 v2 v3 (v4 + (1 : Int32))) := h
  refine g_iinc C (v := (v4 + (1 : Int32))) (lv2 := [(4, .int (v4 + (1 : Int32))), (0, .ref (ad (7 + v0))), (1, .int v1), (2, .int v2), (3, .int v3)]) 4 dX3_total_49 rfl rfl (by decide) rfl ?_
  refine g_goto C 5 dX3_total_52 (by decide) ?_
  exact g_sub [1, 2, 3, 4, 0] rfl (Hk5 v0 v1 v2 v3 (v4 + (1 : Int32)) (by omega) h)
set_option maxHeartbeats 4000000 in
set_option maxRecDepth 100000 in
theorem t_L_X3_total_15 {kh5 : Nat → Int32 → Int32 → Int32 → Int32 → Prop} {Q : Int32 → Prop} (C : CxX p s m args c D (tysX cA) RX3 cX3_total 6 wsX3_total) (hrt9 : meth.sig.returnType = (some .int)) (hlk : meth.locks = false) (Hk5 : ∀ (v0q : Nat) (v1q : Int32) (v2q : Int32) (v3q : Int32) (v4q : Int32)  (hv0q : v0q < 5), kh5 v0q v1q v2q v3q v4q → GoX p l e rmX3_total s m args below meth c D A 6 0 0 (QP_X3_total D A ad cA tl tx mn sd e0 e1 e2 e3 e4 e5 e6 e7 e8 e9 e10 fr hd nw kp pt hr lr Q below args s) 5 [(0, .ref (ad (7 + v0q))), (1, .int v1q), (2, .int v2q), (3, .int v3q), (4, .int v4q)] [] (WX ad cA tl tx mn sd e0 e1 e2 e3 e4 e5 e6 e7 e8 e9 e10 fr hd nw kp pt hr lr)) (m9 : Nat) : ∀ (v0 : Nat) (v1 : Int32) (v2 : Int32) (v3 : Int32) (v4 : Int32) (v5 : Int32)  (hv0 : v0 < 5), L_X3_total_15 kh5 Q hr m9 v0 v1 v2 v3 v4 v5 → GoX p l e rmX3_total s m args below meth c D A 6 0 0 (QP_X3_total D A ad cA tl tx mn sd e0 e1 e2 e3 e4 e5 e6 e7 e8 e9 e10 fr hd nw kp pt hr lr Q below args s) 15 [(0, .ref (ad (7 + v0))), (1, .int v1), (2, .int v2), (3, .int v3), (4, .int v4), (5, .int v5)] [] (WX ad cA tl tx mn sd e0 e1 e2 e3 e4 e5 e6 e7 e8 e9 e10 fr hd nw kp pt hr lr) := by
  induction m9 with
  | zero =>
    intro v0 v1 v2 v3 v4 v5 hv0 h
    exact False.elim h
  | succ m9 Hk15 =>
    intro v0 v1 v2 v3 v4 v5 hv0 h
    replace h : (((v1 + v2) ≤ v5 → (B_X3_total_49 kh5 Q hr v0 v1 v2 v3 v4)) ∧ (¬ (v1 + v2) ≤ v5 → (((9 : Int32) ≤ v5 → (B_X3_total_49 kh5 Q hr v0 v1 v2 v3 v4)) ∧ (¬ (9 : Int32) ≤ v5 → (vp_in v4 6 ∧ (vp_in v5 9 ∧ ((L_X3_total_15 kh5 Q hr m9) v0 v1 v2 (v3 + ((hr (6 * v0 + v4.toNatClampNeg)) v5.toNatClampNeg)) v4 (v5 + (1 : Int32))))))))) := h
    refine g_iload C 5 dX3_total_15 rfl ?_
    refine g_iload_n C 1 dX3_total_17 rfl rfl ?_
    refine g_iload_n C 2 dX3_total_18 rfl rfl ?_
    refine g_iadd C dX3_total_19 ?_
    refine g_icmp_ge C 49 dX3_total_20 (by decide) (fun c_1 => ?_) (fun c_1 => ?_)
    · replace h := h.1 c_1
      exact g_sub [0, 1, 2, 3, 4] rfl (t_B_X3_total_49 C hrt9 hlk Hk5 v0 v1 v2 v3 v4 (by omega) h)
    · replace h := h.2 c_1
      refine g_iload C 5 dX3_total_23 rfl ?_
      refine g_bipush C (9 : Int32) dX3_total_25 (by decide) ?_
      refine g_icmp_ge C 49 dX3_total_27 (by decide) (fun c_2 => ?_) (fun c_2 => ?_)
      · replace h := h.1 c_2
        exact g_sub [0, 1, 2, 3, 4] rfl (t_B_X3_total_49 C hrt9 hlk Hk5 v0 v1 v2 v3 v4 (by omega) h)
      · replace h := h.2 c_2
        refine g_iload_n C 3 dX3_total_30 rfl rfl ?_
        refine g_aload_n C 0 dX3_total_31 rfl rfl ?_
        refine g_get C inX3_total_3 (7 + v0) (WXg_ST (by omega)) rfl 0 (by decide) lkX3_total_11 rfl dX3_total_32 ?_
        refine g_iload C 4 dX3_total_35 rfl ?_
        have b_3 := vp_lt h.1
        refine g_aald C (12 + v0) 4 (WXg_HO (by omega)) rfl rfl h.1 rfl dX3_total_37 ?_
        replace h := h.2
        refine g_iload C 5 dX3_total_38 rfl ?_
        refine g_iald C (22 + (6 * v0 + v4.toNatClampNeg)) 1 (WXg_HR (by omega)) rfl h.1 dX3_total_40 ?_
        replace h := h.2
        refine g_iadd C dX3_total_41 ?_
        refine g_istore_n C (lv2 := [(3, .int (v3 + ((hr (6 * v0 + v4.toNatClampNeg)) v5.toNatClampNeg))), (0, .ref (ad (7 + v0))), (1, .int v1), (2, .int v2), (4, .int v4), (5, .int v5)]) dX3_total_42 rfl (by decide) rfl ?_
        refine g_iinc C (v := (v5 + (1 : Int32))) (lv2 := [(5, .int (v5 + (1 : Int32))), (3, .int (v3 + ((hr (6 * v0 + v4.toNatClampNeg)) v5.toNatClampNeg))), (0, .ref (ad (7 + v0))), (1, .int v1), (2, .int v2), (4, .int v4)]) 5 dX3_total_43 rfl rfl (by decide) rfl ?_
        refine g_goto C 15 dX3_total_46 (by decide) ?_
        exact g_sub [2, 3, 4, 1, 5, 0] rfl (Hk15 v0 v1 v2 (v3 + ((hr (6 * v0 + v4.toNatClampNeg)) v5.toNatClampNeg)) v4 (v5 + (1 : Int32)) (by omega) h)
set_option maxHeartbeats 4000000 in
set_option maxRecDepth 100000 in
theorem t_L_X3_total_5  {Q : Int32 → Prop} (C : CxX p s m args c D (tysX cA) RX3 cX3_total 6 wsX3_total) (hrt9 : meth.sig.returnType = (some .int)) (hlk : meth.locks = false) (m9 : Nat) : ∀ (v0 : Nat) (v1 : Int32) (v2 : Int32) (v3 : Int32) (v4 : Int32)  (hv0 : v0 < 5), L_X3_total_5  Q hr m9 v0 v1 v2 v3 v4 → GoX p l e rmX3_total s m args below meth c D A 6 0 0 (QP_X3_total D A ad cA tl tx mn sd e0 e1 e2 e3 e4 e5 e6 e7 e8 e9 e10 fr hd nw kp pt hr lr Q below args s) 5 [(0, .ref (ad (7 + v0))), (1, .int v1), (2, .int v2), (3, .int v3), (4, .int v4)] [] (WX ad cA tl tx mn sd e0 e1 e2 e3 e4 e5 e6 e7 e8 e9 e10 fr hd nw kp pt hr lr) := by
  induction m9 with
  | zero =>
    intro v0 v1 v2 v3 v4 hv0 h
    exact False.elim h
  | succ m9 Hk5 =>
    intro v0 v1 v2 v3 v4 hv0 h
    replace h : (((6 : Int32) ≤ v4 → (Q v3)) ∧ (¬ (6 : Int32) ≤ v4 → (∃ n9 : Nat, L_X3_total_15 (L_X3_total_5  Q hr m9) Q hr n9 v0 v1 v2 v3 v4 v1))) := h
    refine g_iload C 4 dX3_total_5 rfl ?_
    refine g_bipush C (6 : Int32) dX3_total_7 (by decide) ?_
    refine g_icmp_ge C 55 dX3_total_9 (by decide) (fun c_4 => ?_) (fun c_4 => ?_)
    · replace h := h.1 c_4
      refine g_iload_n C 3 dX3_total_55 rfl rfl ?_
      exact g_iret C hrt9 hlk (u := ()) rfl h dX3_total_56
    · replace h := h.2 c_4
      refine g_iload_n C 1 dX3_total_12 rfl rfl ?_
      refine g_istore C (lv2 := [(5, .int v1), (0, .ref (ad (7 + v0))), (1, .int v1), (2, .int v2), (3, .int v3), (4, .int v4)]) dX3_total_13 (by decide) rfl ?_
      obtain ⟨n9, h⟩ := h
      exact g_sub [1, 2, 3, 4, 5, 0] rfl (t_L_X3_total_15 C hrt9 hlk Hk5 n9 v0 v1 v2 v3 v4 v1 (by omega) h)
set_option maxHeartbeats 4000000 in
set_option maxRecDepth 100000 in
theorem t_B_X3_total_0  {Q : Int32 → Prop} (C : CxX p s m args c D (tysX cA) RX3 cX3_total 6 wsX3_total) (hrt9 : meth.sig.returnType = (some .int)) (hlk : meth.locks = false) (v0 : Nat) (v1 : Int32) (v2 : Int32)  (hv0 : v0 < 5) (h : B_X3_total_0  Q hr v0 v1 v2) : GoX p l e rmX3_total s m args below meth c D A 6 0 0 (QP_X3_total D A ad cA tl tx mn sd e0 e1 e2 e3 e4 e5 e6 e7 e8 e9 e10 fr hd nw kp pt hr lr Q below args s) 0 [(0, .ref (ad (7 + v0))), (1, .int v1), (2, .int v2)] [] (WX ad cA tl tx mn sd e0 e1 e2 e3 e4 e5 e6 e7 e8 e9 e10 fr hd nw kp pt hr lr) := by
  replace h : (∃ n9 : Nat, L_X3_total_5  Q hr n9 v0 v1 v2 (0 : Int32) (0 : Int32)) := h
  refine g_iconst C (0 : Int32) dX3_total_0 (by decide) ?_
  refine g_istore_n C (lv2 := [(3, .int (0 : Int32)), (0, .ref (ad (7 + v0))), (1, .int v1), (2, .int v2)]) dX3_total_1 rfl (by decide) rfl ?_
  refine g_iconst C (0 : Int32) dX3_total_2 (by decide) ?_
  refine g_istore C (lv2 := [(4, .int (0 : Int32)), (3, .int (0 : Int32)), (0, .ref (ad (7 + v0))), (1, .int v1), (2, .int v2)]) dX3_total_3 (by decide) rfl ?_
  obtain ⟨n9, h⟩ := h
  exact g_sub [2, 3, 4, 1, 0] rfl (t_L_X3_total_5 C hrt9 hlk  n9 v0 v1 v2 (0 : Int32) (0 : Int32) (by omega) h)
theorem c_X3_total (l : Launch) (D : va_G) (A : Nat → Prop) (ad : Nat → Nat) (cA : Nat → ClassId) (v0 : Nat) (v1 : Int32) (v2 : Int32) {tl : Int32} {tx : (Nat → Int32)} {mn : Int32} {sd : (Nat → Int64)} {e0 : Int32} {e1 : Int32} {e2 : Int32} {e3 : Int32} {e4 : Int32} {e5 : Int32} {e6 : Int32} {e7 : Int32} {e8 : Int32} {e9 : Int32} {e10 : Int32} {fr : Int32} {hd : Int32} {nw : (Nat → Int32)} {kp : (Nat → Int32)} {pt : (Nat → Int32)} {hr : (Nat → Nat → Int32)} {lr : (Nat → Nat → Int32)} (hv0 : v0 < 5) (Q : Int32 → Prop) (h : F_X3_total v0 v1 v2 hr Q) : Met l yX3_total wsX3_total rmX3_total (va_Pc [.ref (ad (7 + v0)), .int v1, .int v2] (OKX D (tysX cA) (WX ad cA tl tx mn sd e0 e1 e2 e3 e4 e5 e6 e7 e8 e9 e10 fr hd nw kp pt hr lr) A)) (QC_X3_total D A ad cA tl tx mn sd e0 e1 e2 e3 e4 e5 e6 e7 e8 e9 e10 fr hd nw kp pt hr lr Q) 0 0 A :=
  g_met (own := RX3) (by decide) rfl rfl (Nat.le_of_ble_eq_true rfl) (fun p e s m below meth c C hrt9 hlk _ => g_sub [0, 1, 2] rfl (t_B_X3_total_0 C hrt9 hlk v0 v1 v2  hv0 h))
theorem k_X3_total {ws : List Cond} {own : String} {cc : ByteArray} {nL pc index kc ks : Nat} {lv : List (Nat × Value)} {st : List Value} {Q : State → Prop} {R : Room} {K : Int32 → Prop} {v0 : Nat} {v1 : Int32} {v2 : Int32} (C : CxX p s m args c D (tysX cA) own cc nL ws) (hT : GoodIn ws (wsV own index RX3 yX3_total wsX3_total)) (hR : rmX3_total.frames + 1 ≤ R.frames ∧ 8 + (6 + 11) + rmX3_total.locals ≤ R.locals) (hk9 : kc ≤ R.cells ∧ ks ≤ R.slots) (hcat : (st.map fun v => v.category).sum ≤ 8) (hdg : decode cc pc = .ok (.invokevirtual index, 3)) (hv0 : v0 < 5) (h : F_X3_total v0 v1 v2 hr K) (kk : ∀ (r : Int32) , K r → GoX p l e R s m args below meth c D A nL kc ks Q (pc + 3) lv (.int r :: st) (WX ad cA tl tx mn sd e0 e1 e2 e3 e4 e5 e6 e7 e8 e9 e10 fr hd nw kp pt hr lr)) : GoX p l e R s m args below meth c D A nL kc ks Q pc lv (.int v2 :: .int v1 :: .ref (ad (7 + v0)) :: st) (WX ad cA tl tx mn sd e0 e1 e2 e3 e4 e5 e6 e7 e8 e9 e10 fr hd nw kp pt hr lr) :=
  g_callVi C (As := [.int v1, .int v2]) 2 (c_X3_total l D A ad cA v0 v1 v2 hv0 K h) hT rfl rfl rfl (by decide +kernel) hR hk9 (7 + v0) (WXg_ST (by omega)) rfl rfl rfl hcat hdg (fun r u hu => kk r  hu)
/-! X1_record -/
abbrev rmX1_record : Room := { frames := 2, cells := 0, slots := 0, locals := 48 }
abbrev QC_X1_record (D : va_G) (A : Nat → Prop) (ad : Nat → Nat) (cA : Nat → ClassId) (tl : Int32) (tx : (Nat → Int32)) (mn : Int32) (sd : (Nat → Int64)) (e0 : Int32) (e1 : Int32) (e2 : Int32) (e3 : Int32) (e4 : Int32) (e5 : Int32) (e6 : Int32) (e7 : Int32) (e8 : Int32) (e9 : Int32) (e10 : Int32) (Q : Int32 → Int32 → (Nat → Int32) → (Nat → Int32) → (Nat → Int32) → (Nat → Nat → Int32) → (Nat → Nat → Int32) → Prop) : Array Value → State → Outcome → State → Prop := va_Qv (fun u : Int32 × Int32 × (Nat → Int32) × (Nat → Int32) × (Nat → Int32) × (Nat → Nat → Int32) × (Nat → Nat → Int32) => Q u.1 u.2.1 u.2.2.1 u.2.2.2.1 u.2.2.2.2.1 u.2.2.2.2.2.1 u.2.2.2.2.2.2) (fun u t => OKX D (tysX cA) ((fun u : Int32 × Int32 × (Nat → Int32) × (Nat → Int32) × (Nat → Int32) × (Nat → Nat → Int32) × (Nat → Nat → Int32) => WX ad cA tl tx mn sd e0 e1 e2 e3 e4 e5 e6 e7 e8 e9 e10 u.1 u.2.1 u.2.2.1 u.2.2.2.1 u.2.2.2.2.1 u.2.2.2.2.2.1 u.2.2.2.2.2.2) u) A t) A
abbrev QP_X1_record (D : va_G) (A : Nat → Prop) (ad : Nat → Nat) (cA : Nat → ClassId) (tl : Int32) (tx : (Nat → Int32)) (mn : Int32) (sd : (Nat → Int64)) (e0 : Int32) (e1 : Int32) (e2 : Int32) (e3 : Int32) (e4 : Int32) (e5 : Int32) (e6 : Int32) (e7 : Int32) (e8 : Int32) (e9 : Int32) (e10 : Int32) (Q : Int32 → Int32 → (Nat → Int32) → (Nat → Int32) → (Nat → Int32) → (Nat → Nat → Int32) → (Nat → Nat → Int32) → Prop) (below : List Frame) (args : Array Value) (s : State) : State → Prop := MQ below (QC_X1_record D A ad cA tl tx mn sd e0 e1 e2 e3 e4 e5 e6 e7 e8 e9 e10 Q) args s 0 0 A
def B_X1_record_15  (Q : Int32 → Int32 → (Nat → Int32) → (Nat → Int32) → (Nat → Int32) → (Nat → Nat → Int32) → (Nat → Nat → Int32) → Prop)   (fr : Int32) (hd : Int32) (nw : (Nat → Int32)) (kp : (Nat → Int32)) (pt : (Nat → Int32)) (hr : (Nat → Nat → Int32)) (lr : (Nat → Nat → Int32)) : Prop := (Q fr hd nw kp pt hr lr)
def B_X1_record_48  (Q : Int32 → Int32 → (Nat → Int32) → (Nat → Int32) → (Nat → Int32) → (Nat → Nat → Int32) → (Nat → Nat → Int32) → Prop)  (s1 : Int32) (fr : Int32) (hd : Int32) (nw : (Nat → Int32)) (kp : (Nat → Int32)) (pt : (Nat → Int32)) (hr : (Nat → Nat → Int32)) (lr : (Nat → Nat → Int32)) : Prop := (Q s1 (if (4 : Int32) < (hd + (1 : Int32)) then (4 : Int32) else (hd + (1 : Int32))) nw kp pt hr lr)
def B_X1_record_0  (Q : Int32 → Int32 → (Nat → Int32) → (Nat → Int32) → (Nat → Int32) → (Nat → Nat → Int32) → (Nat → Nat → Int32) → Prop)  (v1 : Nat) (fr : Int32) (hd : Int32) (nw : (Nat → Int32)) (kp : (Nat → Int32)) (pt : (Nat → Int32)) (hr : (Nat → Nat → Int32)) (lr : (Nat → Nat → Int32)) : Prop := ((fr < 0 → (B_X1_record_15  Q  fr hd nw kp pt hr lr)) ∧ (¬ fr < 0 → ((fr < (4 : Int32) → (vp_in fr 4 ∧ (F_X3_copyFrom (1 + fr.toNatClampNeg) v1 nw kp pt hr lr (fun nw_4 kp_5 pt_6 hr_7 lr_8 => ((fr = (3 : Int32) → (B_X1_record_48  Q  (0 : Int32) fr hd nw_4 kp_5 pt_6 hr_7 lr_8)) ∧ (¬ fr = (3 : Int32) → (B_X1_record_48  Q  (fr + (1 : Int32)) fr hd nw_4 kp_5 pt_6 hr_7 lr_8))))))) ∧ (¬ fr < (4 : Int32) → (B_X1_record_15  Q  fr hd nw kp pt hr lr)))))
def F_X1_record (v1 : Nat)  (fr : Int32) (hd : Int32) (nw : (Nat → Int32)) (kp : (Nat → Int32)) (pt : (Nat → Int32)) (hr : (Nat → Nat → Int32)) (lr : (Nat → Nat → Int32)) (Q : Int32 → Int32 → (Nat → Int32) → (Nat → Int32) → (Nat → Int32) → (Nat → Nat → Int32) → (Nat → Nat → Int32) → Prop) : Prop := B_X1_record_0 Q  v1 fr hd nw kp pt hr lr
theorem lkX1_record_13 : Cond.fieldLink RX1 13 (TX1 0).1 (TX1 0).2.1 (TX1 0).2.2.1 ∈ wsX1_record := by decide +kernel
theorem lkX1_record_21 : Cond.fieldLink RX1 21 (TX1 2).1 (TX1 2).2.1 (TX1 2).2.2.1 ∈ wsX1_record := by decide +kernel
theorem lkX1_record_17 : Cond.fieldLink RX1 17 (TX1 1).1 (TX1 1).2.1 (TX1 1).2.2.1 ∈ wsX1_record := by decide +kernel
theorem inX1_record_1 : ∀ q ∈ u_ws RX1 TX1 3, q ∈ wsX1_record := by decide +kernel
set_option maxHeartbeats 4000000 in
set_option maxRecDepth 100000 in
theorem t_B_X1_record_15  {Q : Int32 → Int32 → (Nat → Int32) → (Nat → Int32) → (Nat → Int32) → (Nat → Nat → Int32) → (Nat → Nat → Int32) → Prop} (C : CxX p s m args c D (tysX cA) RX1 cX1_record 2 wsX1_record) (hrt9 : meth.sig.returnType = none) (hlk : meth.locks = false)  (fr : Int32) (hd : Int32) (nw : (Nat → Int32)) (kp : (Nat → Int32)) (pt : (Nat → Int32)) (hr : (Nat → Nat → Int32)) (lr : (Nat → Nat → Int32))  (h : B_X1_record_15  Q  fr hd nw kp pt hr lr) : GoX p l e rmX1_record s m args below meth c D A 2 0 0 (QP_X1_record D A ad cA tl tx mn sd e0 e1 e2 e3 e4 e5 e6 e7 e8 e9 e10 Q below args s) 15 [] [] (WX ad cA tl tx mn sd e0 e1 e2 e3 e4 e5 e6 e7 e8 e9 e10 fr hd nw kp pt hr lr) := by
  replace h : (Q fr hd nw kp pt hr lr) := h
  exact g_vret C hrt9 hlk (u := (fr, hd, nw, kp, pt, hr, lr)) rfl h dX1_record_15
set_option maxHeartbeats 4000000 in
set_option maxRecDepth 100000 in
theorem t_B_X1_record_48  {Q : Int32 → Int32 → (Nat → Int32) → (Nat → Int32) → (Nat → Int32) → (Nat → Nat → Int32) → (Nat → Nat → Int32) → Prop} (C : CxX p s m args c D (tysX cA) RX1 cX1_record 2 wsX1_record) (hrt9 : meth.sig.returnType = none) (hlk : meth.locks = false) (s1 : Int32) (fr : Int32) (hd : Int32) (nw : (Nat → Int32)) (kp : (Nat → Int32)) (pt : (Nat → Int32)) (hr : (Nat → Nat → Int32)) (lr : (Nat → Nat → Int32))  (h : B_X1_record_48  Q  s1 fr hd nw kp pt hr lr) : GoX p l e rmX1_record s m args below meth c D A 2 0 0 (QP_X1_record D A ad cA tl tx mn sd e0 e1 e2 e3 e4 e5 e6 e7 e8 e9 e10 Q below args s) 48 [(0, .ref (ad 5))] [.int s1, .ref (ad 5)] (WX ad cA tl tx mn sd e0 e1 e2 e3 e4 e5 e6 e7 e8 e9 e10 fr hd nw kp pt hr lr) := by
  replace h : (Q s1 (if (4 : Int32) < (hd + (1 : Int32)) then (4 : Int32) else (hd + (1 : Int32))) nw kp pt hr lr) := h
  refine g_put C inX1_record_1 tyX1 tyX1_ok nmX1 5 WXg5 rfl 1 (by decide) lkX1_record_17 rfl rfl rfl (Nat.le_of_ble_eq_true rfl) (WXs_fr) dX1_record_48 ?_
  refine g_aload_n C 0 dX1_record_51 rfl rfl ?_
  refine g_aload_n C 0 dX1_record_52 rfl rfl ?_
  refine g_get C inX1_record_1 5 WXg5 rfl 2 (by decide) lkX1_record_21 rfl dX1_record_53 ?_
  refine g_iconst C (1 : Int32) dX1_record_56 (by decide) ?_
  refine g_iadd C dX1_record_57 ?_
  refine g_iconst C (4 : Int32) dX1_record_58 (by decide) ?_
  refine g_mmin C (by decide +kernel) (by decide +kernel) (by decide +kernel) (by decide +kernel) (Nat.le_of_ble_eq_true rfl) (Nat.le_of_ble_eq_true rfl) (Nat.zero_le _) (Nat.zero_le _) dX1_record_59 ?_
  refine g_put C inX1_record_1 tyX1 tyX1_ok nmX1 5 WXg5 rfl 2 (by decide) lkX1_record_21 rfl rfl rfl (Nat.le_of_ble_eq_true rfl) (WXs_hd) dX1_record_62 ?_
  exact g_vret C hrt9 hlk (u := (s1, (if (4 : Int32) < (hd + (1 : Int32)) then (4 : Int32) else (hd + (1 : Int32))), nw, kp, pt, hr, lr)) rfl h dX1_record_65
set_option maxHeartbeats 4000000 in
set_option maxRecDepth 100000 in
theorem t_B_X1_record_0  {Q : Int32 → Int32 → (Nat → Int32) → (Nat → Int32) → (Nat → Int32) → (Nat → Nat → Int32) → (Nat → Nat → Int32) → Prop} (C : CxX p s m args c D (tysX cA) RX1 cX1_record 2 wsX1_record) (hrt9 : meth.sig.returnType = none) (hlk : meth.locks = false) (v1 : Nat) (fr : Int32) (hd : Int32) (nw : (Nat → Int32)) (kp : (Nat → Int32)) (pt : (Nat → Int32)) (hr : (Nat → Nat → Int32)) (lr : (Nat → Nat → Int32)) (hv1 : v1 < 5) (h : B_X1_record_0  Q  v1 fr hd nw kp pt hr lr) : GoX p l e rmX1_record s m args below meth c D A 2 0 0 (QP_X1_record D A ad cA tl tx mn sd e0 e1 e2 e3 e4 e5 e6 e7 e8 e9 e10 Q below args s) 0 [(0, .ref (ad 5)), (1, .ref (ad (7 + v1)))] [] (WX ad cA tl tx mn sd e0 e1 e2 e3 e4 e5 e6 e7 e8 e9 e10 fr hd nw kp pt hr lr) := by
  replace h : ((fr < 0 → (B_X1_record_15  Q  fr hd nw kp pt hr lr)) ∧ (¬ fr < 0 → ((fr < (4 : Int32) → (vp_in fr 4 ∧ (F_X3_copyFrom (1 + fr.toNatClampNeg) v1 nw kp pt hr lr (fun nw_4 kp_5 pt_6 hr_7 lr_8 => ((fr = (3 : Int32) → (B_X1_record_48  Q  (0 : Int32) fr hd nw_4 kp_5 pt_6 hr_7 lr_8)) ∧ (¬ fr = (3 : Int32) → (B_X1_record_48  Q  (fr + (1 : Int32)) fr hd nw_4 kp_5 pt_6 hr_7 lr_8))))))) ∧ (¬ fr < (4 : Int32) → (B_X1_record_15  Q  fr hd nw kp pt hr lr))))) := h
  refine g_aload_n C 0 dX1_record_0 rfl rfl ?_
  refine g_get C inX1_record_1 5 WXg5 rfl 1 (by decide) lkX1_record_17 rfl dX1_record_1 ?_
  refine g_if_lt C 15 dX1_record_4 (by decide) (fun c_1 => ?_) (fun c_1 => ?_)
  · replace h := h.1 c_1
    exact g_sub [] rfl (t_B_X1_record_15 C hrt9 hlk  fr hd nw kp pt hr lr  h)
  · replace h := h.2 c_1
    refine g_aload_n C 0 dX1_record_7 rfl rfl ?_
    refine g_get C inX1_record_1 5 WXg5 rfl 1 (by decide) lkX1_record_17 rfl dX1_record_8 ?_
    refine g_iconst C (4 : Int32) dX1_record_11 (by decide) ?_
    refine g_icmp_lt C 16 dX1_record_12 (by decide) (fun c_2 => ?_) (fun c_2 => ?_)
    · replace h := h.1 c_2
      refine g_aload_n C 0 dX1_record_16 rfl rfl ?_
      refine g_get C inX1_record_1 5 WXg5 rfl 0 (by decide) lkX1_record_13 rfl dX1_record_17 ?_
      refine g_aload_n C 0 dX1_record_20 rfl rfl ?_
      refine g_get C inX1_record_1 5 WXg5 rfl 1 (by decide) lkX1_record_17 rfl dX1_record_21 ?_
      have b_3 := vp_lt h.1
      refine g_aald C 6 3 WXg6 rfl rfl h.1 rfl dX1_record_24 ?_
      replace h := h.2
      refine g_aload_n C 1 dX1_record_25 rfl rfl ?_
      refine k_X3_copyFrom C gX1_record_X3_copyFrom ⟨Nat.le_of_ble_eq_true rfl, Nat.le_of_ble_eq_true rfl⟩ ⟨Nat.zero_le _, Nat.zero_le _⟩ (Nat.le_of_ble_eq_true rfl) dX1_record_26 (by omega) (by omega) h (fun nw_4 kp_5 pt_6 hr_7 lr_8 h => ?_)
      refine g_aload_n C 0 dX1_record_29 rfl rfl ?_
      refine g_aload_n C 0 dX1_record_30 rfl rfl ?_
      refine g_get C inX1_record_1 5 WXg5 rfl 1 (by decide) lkX1_record_17 rfl dX1_record_31 ?_
      refine g_iconst C (3 : Int32) dX1_record_34 (by decide) ?_
      refine g_icmp_ne C 42 dX1_record_35 (by decide) (fun c_9 => ?_) (fun c_9 => ?_)
      · replace h := h.2 c_9
        refine g_aload_n C 0 dX1_record_42 rfl rfl ?_
        refine g_get C inX1_record_1 5 WXg5 rfl 1 (by decide) lkX1_record_17 rfl dX1_record_43 ?_
        refine g_iconst C (1 : Int32) dX1_record_46 (by decide) ?_
        refine g_iadd C dX1_record_47 ?_
        exact g_sub [0] rfl (t_B_X1_record_48 C hrt9 hlk  (fr + (1 : Int32)) fr hd nw_4 kp_5 pt_6 hr_7 lr_8  h)
      · replace h := h.1 c_9
        refine g_iconst C (0 : Int32) dX1_record_38 (by decide) ?_
        refine g_goto C 48 dX1_record_39 (by decide) ?_
        exact g_sub [0] rfl (t_B_X1_record_48 C hrt9 hlk  (0 : Int32) fr hd nw_4 kp_5 pt_6 hr_7 lr_8  h)
    · replace h := h.2 c_2
      exact g_sub [] rfl (t_B_X1_record_15 C hrt9 hlk  fr hd nw kp pt hr lr  h)
theorem c_X1_record (l : Launch) (D : va_G) (A : Nat → Prop) (ad : Nat → Nat) (cA : Nat → ClassId) (v1 : Nat) {tl : Int32} {tx : (Nat → Int32)} {mn : Int32} {sd : (Nat → Int64)} {e0 : Int32} {e1 : Int32} {e2 : Int32} {e3 : Int32} {e4 : Int32} {e5 : Int32} {e6 : Int32} {e7 : Int32} {e8 : Int32} {e9 : Int32} {e10 : Int32} {fr : Int32} {hd : Int32} {nw : (Nat → Int32)} {kp : (Nat → Int32)} {pt : (Nat → Int32)} {hr : (Nat → Nat → Int32)} {lr : (Nat → Nat → Int32)} (hv1 : v1 < 5) (Q : Int32 → Int32 → (Nat → Int32) → (Nat → Int32) → (Nat → Int32) → (Nat → Nat → Int32) → (Nat → Nat → Int32) → Prop) (h : F_X1_record v1 fr hd nw kp pt hr lr Q) : Met l yX1_record wsX1_record rmX1_record (va_Pc [.ref (ad 5), .ref (ad (7 + v1))] (OKX D (tysX cA) (WX ad cA tl tx mn sd e0 e1 e2 e3 e4 e5 e6 e7 e8 e9 e10 fr hd nw kp pt hr lr) A)) (QC_X1_record D A ad cA tl tx mn sd e0 e1 e2 e3 e4 e5 e6 e7 e8 e9 e10 Q) 0 0 A :=
  g_met (own := RX1) (by decide) rfl rfl (Nat.le_of_ble_eq_true rfl) (fun p e s m below meth c C hrt9 hlk _ => g_sub [0, 1] rfl (t_B_X1_record_0 C hrt9 hlk v1 fr hd nw kp pt hr lr hv1 h))
theorem k_X1_record {ws : List Cond} {own : String} {cc : ByteArray} {nL pc index kc ks : Nat} {lv : List (Nat × Value)} {st : List Value} {Q : State → Prop} {R : Room} {K : Int32 → Int32 → (Nat → Int32) → (Nat → Int32) → (Nat → Int32) → (Nat → Nat → Int32) → (Nat → Nat → Int32) → Prop} {v1 : Nat} (C : CxX p s m args c D (tysX cA) own cc nL ws) (hT : GoodIn ws (wsV own index RX1 yX1_record wsX1_record)) (hR : rmX1_record.frames + 1 ≤ R.frames ∧ 8 + (2 + 11) + rmX1_record.locals ≤ R.locals) (hk9 : kc ≤ R.cells ∧ ks ≤ R.slots) (hcat : (st.map fun v => v.category).sum ≤ 8) (hdg : decode cc pc = .ok (.invokevirtual index, 3)) (hv1 : v1 < 5) (h : F_X1_record v1 fr hd nw kp pt hr lr K) (kk : ∀ (frq : Int32) (hdq : Int32) (nwq : (Nat → Int32)) (kpq : (Nat → Int32)) (ptq : (Nat → Int32)) (hrq : (Nat → Nat → Int32)) (lrq : (Nat → Nat → Int32)), K frq hdq nwq kpq ptq hrq lrq → GoX p l e R s m args below meth c D A nL kc ks Q (pc + 3) lv (st) (WX ad cA tl tx mn sd e0 e1 e2 e3 e4 e5 e6 e7 e8 e9 e10 frq hdq nwq kpq ptq hrq lrq)) : GoX p l e R s m args below meth c D A nL kc ks Q pc lv (.ref (ad (7 + v1)) :: .ref (ad 5) :: st) (WX ad cA tl tx mn sd e0 e1 e2 e3 e4 e5 e6 e7 e8 e9 e10 fr hd nw kp pt hr lr) :=
  g_callVv C (As := [.ref (ad (7 + v1))]) 1 (c_X1_record l D A ad cA v1 hv1 K h) hT rfl rfl rfl (by decide +kernel) hR hk9 5 WXg5 rfl rfl rfl hcat hdg (fun u hu => kk u.1 u.2.1 u.2.2.1 u.2.2.2.1 u.2.2.2.2.1 u.2.2.2.2.2.1 u.2.2.2.2.2.2 hu)
/-! X1_restore -/
abbrev rmX1_restore : Room := { frames := 2, cells := 0, slots := 0, locals := 48 }
abbrev QC_X1_restore (D : va_G) (A : Nat → Prop) (ad : Nat → Nat) (cA : Nat → ClassId) (tl : Int32) (tx : (Nat → Int32)) (mn : Int32) (sd : (Nat → Int64)) (e0 : Int32) (e1 : Int32) (e2 : Int32) (e3 : Int32) (e4 : Int32) (e5 : Int32) (e6 : Int32) (e7 : Int32) (e8 : Int32) (e9 : Int32) (e10 : Int32) (Q : Int32 → Int32 → Int32 → (Nat → Int32) → (Nat → Int32) → (Nat → Int32) → (Nat → Nat → Int32) → (Nat → Nat → Int32) → Prop) : Array Value → State → Outcome → State → Prop := va_Qi (fun (r : Int32) (u : Int32 × Int32 × (Nat → Int32) × (Nat → Int32) × (Nat → Int32) × (Nat → Nat → Int32) × (Nat → Nat → Int32)) => Q r u.1 u.2.1 u.2.2.1 u.2.2.2.1 u.2.2.2.2.1 u.2.2.2.2.2.1 u.2.2.2.2.2.2) (fun u t => OKX D (tysX cA) ((fun u : Int32 × Int32 × (Nat → Int32) × (Nat → Int32) × (Nat → Int32) × (Nat → Nat → Int32) × (Nat → Nat → Int32) => WX ad cA tl tx mn sd e0 e1 e2 e3 e4 e5 e6 e7 e8 e9 e10 u.1 u.2.1 u.2.2.1 u.2.2.2.1 u.2.2.2.2.1 u.2.2.2.2.2.1 u.2.2.2.2.2.2) u) A t) A
abbrev QP_X1_restore (D : va_G) (A : Nat → Prop) (ad : Nat → Nat) (cA : Nat → ClassId) (tl : Int32) (tx : (Nat → Int32)) (mn : Int32) (sd : (Nat → Int64)) (e0 : Int32) (e1 : Int32) (e2 : Int32) (e3 : Int32) (e4 : Int32) (e5 : Int32) (e6 : Int32) (e7 : Int32) (e8 : Int32) (e9 : Int32) (e10 : Int32) (Q : Int32 → Int32 → Int32 → (Nat → Int32) → (Nat → Int32) → (Nat → Int32) → (Nat → Nat → Int32) → (Nat → Nat → Int32) → Prop) (below : List Frame) (args : Array Value) (s : State) : State → Prop := MQ below (QC_X1_restore D A ad cA tl tx mn sd e0 e1 e2 e3 e4 e5 e6 e7 e8 e9 e10 Q) args s 0 0 A
def B_X1_restore_36  (Q : Int32 → Int32 → Int32 → (Nat → Int32) → (Nat → Int32) → (Nat → Int32) → (Nat → Nat → Int32) → (Nat → Nat → Int32) → Prop)  (v1 : Nat) (s0 : Int32) (fr : Int32) (hd : Int32) (nw : (Nat → Int32)) (kp : (Nat → Int32)) (pt : (Nat → Int32)) (hr : (Nat → Nat → Int32)) (lr : (Nat → Nat → Int32)) : Prop := (vp_in s0 4 ∧ (F_X3_copyFrom v1 (1 + s0.toNatClampNeg) nw kp pt hr lr (fun nw_2 kp_3 pt_4 hr_5 lr_6 => (Q (hd - (1 : Int32)) s0 (hd - (1 : Int32)) nw_2 kp_3 pt_4 hr_5 lr_6))))
def B_X1_restore_35  (Q : Int32 → Int32 → Int32 → (Nat → Int32) → (Nat → Int32) → (Nat → Int32) → (Nat → Nat → Int32) → (Nat → Nat → Int32) → Prop)  (v1 : Nat) (fr : Int32) (hd : Int32) (nw : (Nat → Int32)) (kp : (Nat → Int32)) (pt : (Nat → Int32)) (hr : (Nat → Nat → Int32)) (lr : (Nat → Nat → Int32)) : Prop := (B_X1_restore_36  Q  v1 (3 : Int32) fr hd nw kp pt hr lr)
def B_X1_restore_0  (Q : Int32 → Int32 → Int32 → (Nat → Int32) → (Nat → Int32) → (Nat → Int32) → (Nat → Nat → Int32) → (Nat → Nat → Int32) → Prop)  (v1 : Nat) (fr : Int32) (hd : Int32) (nw : (Nat → Int32)) (kp : (Nat → Int32)) (pt : (Nat → Int32)) (hr : (Nat → Nat → Int32)) (lr : (Nat → Nat → Int32)) : Prop := ((0 < hd → ((fr < (1 : Int32) → (B_X1_restore_35  Q  v1 fr hd nw kp pt hr lr)) ∧ (¬ fr < (1 : Int32) → (((4 : Int32) ≤ fr → (B_X1_restore_35  Q  v1 fr hd nw kp pt hr lr)) ∧ (¬ (4 : Int32) ≤ fr → (B_X1_restore_36  Q  v1 (fr - (1 : Int32)) fr hd nw kp pt hr lr)))))) ∧ (¬ 0 < hd → (Q (-5 : Int32) fr hd nw kp pt hr lr)))
def F_X1_restore (v1 : Nat)  (fr : Int32) (hd : Int32) (nw : (Nat → Int32)) (kp : (Nat → Int32)) (pt : (Nat → Int32)) (hr : (Nat → Nat → Int32)) (lr : (Nat → Nat → Int32)) (Q : Int32 → Int32 → Int32 → (Nat → Int32) → (Nat → Int32) → (Nat → Int32) → (Nat → Nat → Int32) → (Nat → Nat → Int32) → Prop) : Prop := B_X1_restore_0 Q  v1 fr hd nw kp pt hr lr
theorem lkX1_restore_21 : Cond.fieldLink RX1 21 (TX1 2).1 (TX1 2).2.1 (TX1 2).2.2.1 ∈ wsX1_restore := by decide +kernel
theorem lkX1_restore_17 : Cond.fieldLink RX1 17 (TX1 1).1 (TX1 1).2.1 (TX1 1).2.2.1 ∈ wsX1_restore := by decide +kernel
theorem lkX1_restore_13 : Cond.fieldLink RX1 13 (TX1 0).1 (TX1 0).2.1 (TX1 0).2.2.1 ∈ wsX1_restore := by decide +kernel
theorem inX1_restore_1 : ∀ q ∈ u_ws RX1 TX1 3, q ∈ wsX1_restore := by decide +kernel
set_option maxHeartbeats 4000000 in
set_option maxRecDepth 100000 in
theorem t_B_X1_restore_36  {Q : Int32 → Int32 → Int32 → (Nat → Int32) → (Nat → Int32) → (Nat → Int32) → (Nat → Nat → Int32) → (Nat → Nat → Int32) → Prop} (C : CxX p s m args c D (tysX cA) RX1 cX1_restore 3 wsX1_restore) (hrt9 : meth.sig.returnType = (some .int)) (hlk : meth.locks = false) (v1 : Nat) (s0 : Int32) (fr : Int32) (hd : Int32) (nw : (Nat → Int32)) (kp : (Nat → Int32)) (pt : (Nat → Int32)) (hr : (Nat → Nat → Int32)) (lr : (Nat → Nat → Int32)) (hv1 : v1 < 5) (h : B_X1_restore_36  Q  v1 s0 fr hd nw kp pt hr lr) : GoX p l e rmX1_restore s m args below meth c D A 3 0 0 (QP_X1_restore D A ad cA tl tx mn sd e0 e1 e2 e3 e4 e5 e6 e7 e8 e9 e10 Q below args s) 36 [(0, .ref (ad 5)), (1, .ref (ad (7 + v1)))] [.int s0] (WX ad cA tl tx mn sd e0 e1 e2 e3 e4 e5 e6 e7 e8 e9 e10 fr hd nw kp pt hr lr) := by
  replace h : (vp_in s0 4 ∧ (F_X3_copyFrom v1 (1 + s0.toNatClampNeg) nw kp pt hr lr (fun nw_2 kp_3 pt_4 hr_5 lr_6 => (Q (hd - (1 : Int32)) s0 (hd - (1 : Int32)) nw_2 kp_3 pt_4 hr_5 lr_6)))) := h
  refine g_istore_n C (lv2 := [(2, .int s0), (0, .ref (ad 5)), (1, .ref (ad (7 + v1)))]) dX1_restore_36 rfl (by decide) rfl ?_
  refine g_aload_n C 2 dX1_restore_37 rfl rfl ?_
  refine g_aload_n C 1 dX1_restore_38 rfl rfl ?_
  refine g_get C inX1_restore_1 5 WXg5 rfl 0 (by decide) lkX1_restore_13 rfl dX1_restore_39 ?_
  refine g_iload_n C 0 dX1_restore_42 rfl rfl ?_
  have b_1 := vp_lt h.1
  refine g_aald C 6 3 WXg6 rfl rfl h.1 rfl dX1_restore_43 ?_
  replace h := h.2
  refine k_X3_copyFrom C gX1_restore_X3_copyFrom ⟨Nat.le_of_ble_eq_true rfl, Nat.le_of_ble_eq_true rfl⟩ ⟨Nat.zero_le _, Nat.zero_le _⟩ (Nat.le_of_ble_eq_true rfl) dX1_restore_44 (by omega) (by omega) h (fun nw_2 kp_3 pt_4 hr_5 lr_6 h => ?_)
  refine g_aload_n C 1 dX1_restore_47 rfl rfl ?_
  refine g_iload_n C 0 dX1_restore_48 rfl rfl ?_
  refine g_put C inX1_restore_1 tyX1 tyX1_ok nmX1 5 WXg5 rfl 1 (by decide) lkX1_restore_17 rfl rfl rfl (Nat.le_of_ble_eq_true rfl) (WXs_fr) dX1_restore_49 ?_
  refine g_aload_n C 1 dX1_restore_52 rfl rfl ?_
  refine g_dup C dX1_restore_53 rfl ?_
  refine g_get C inX1_restore_1 5 WXg5 rfl 2 (by decide) lkX1_restore_21 rfl dX1_restore_54 ?_
  refine g_iconst C (1 : Int32) dX1_restore_57 (by decide) ?_
  refine g_isub C dX1_restore_58 ?_
  refine g_put C inX1_restore_1 tyX1 tyX1_ok nmX1 5 WXg5 rfl 2 (by decide) lkX1_restore_21 rfl rfl rfl (Nat.le_of_ble_eq_true rfl) (WXs_hd) dX1_restore_59 ?_
  refine g_aload_n C 1 dX1_restore_62 rfl rfl ?_
  refine g_get C inX1_restore_1 5 WXg5 rfl 2 (by decide) lkX1_restore_21 rfl dX1_restore_63 ?_
  exact g_iret C hrt9 hlk (u := (s0, (hd - (1 : Int32)), nw_2, kp_3, pt_4, hr_5, lr_6)) rfl h dX1_restore_66
set_option maxHeartbeats 4000000 in
set_option maxRecDepth 100000 in
theorem t_B_X1_restore_35  {Q : Int32 → Int32 → Int32 → (Nat → Int32) → (Nat → Int32) → (Nat → Int32) → (Nat → Nat → Int32) → (Nat → Nat → Int32) → Prop} (C : CxX p s m args c D (tysX cA) RX1 cX1_restore 3 wsX1_restore) (hrt9 : meth.sig.returnType = (some .int)) (hlk : meth.locks = false) (v1 : Nat) (fr : Int32) (hd : Int32) (nw : (Nat → Int32)) (kp : (Nat → Int32)) (pt : (Nat → Int32)) (hr : (Nat → Nat → Int32)) (lr : (Nat → Nat → Int32)) (hv1 : v1 < 5) (h : B_X1_restore_35  Q  v1 fr hd nw kp pt hr lr) : GoX p l e rmX1_restore s m args below meth c D A 3 0 0 (QP_X1_restore D A ad cA tl tx mn sd e0 e1 e2 e3 e4 e5 e6 e7 e8 e9 e10 Q below args s) 35 [(0, .ref (ad 5)), (1, .ref (ad (7 + v1)))] [] (WX ad cA tl tx mn sd e0 e1 e2 e3 e4 e5 e6 e7 e8 e9 e10 fr hd nw kp pt hr lr) := by
  replace h : (B_X1_restore_36  Q  v1 (3 : Int32) fr hd nw kp pt hr lr) := h
  refine g_iconst C (3 : Int32) dX1_restore_35 (by decide) ?_
  exact g_sub [0, 1] rfl (t_B_X1_restore_36 C hrt9 hlk  v1 (3 : Int32) fr hd nw kp pt hr lr (by omega) h)
set_option maxHeartbeats 4000000 in
set_option maxRecDepth 100000 in
theorem t_B_X1_restore_0  {Q : Int32 → Int32 → Int32 → (Nat → Int32) → (Nat → Int32) → (Nat → Int32) → (Nat → Nat → Int32) → (Nat → Nat → Int32) → Prop} (C : CxX p s m args c D (tysX cA) RX1 cX1_restore 3 wsX1_restore) (hrt9 : meth.sig.returnType = (some .int)) (hlk : meth.locks = false) (v1 : Nat) (fr : Int32) (hd : Int32) (nw : (Nat → Int32)) (kp : (Nat → Int32)) (pt : (Nat → Int32)) (hr : (Nat → Nat → Int32)) (lr : (Nat → Nat → Int32)) (hv1 : v1 < 5) (h : B_X1_restore_0  Q  v1 fr hd nw kp pt hr lr) : GoX p l e rmX1_restore s m args below meth c D A 3 0 0 (QP_X1_restore D A ad cA tl tx mn sd e0 e1 e2 e3 e4 e5 e6 e7 e8 e9 e10 Q below args s) 0 [(0, .ref (ad 5)), (1, .ref (ad (7 + v1)))] [] (WX ad cA tl tx mn sd e0 e1 e2 e3 e4 e5 e6 e7 e8 e9 e10 fr hd nw kp pt hr lr) := by
  replace h : ((0 < hd → ((fr < (1 : Int32) → (B_X1_restore_35  Q  v1 fr hd nw kp pt hr lr)) ∧ (¬ fr < (1 : Int32) → (((4 : Int32) ≤ fr → (B_X1_restore_35  Q  v1 fr hd nw kp pt hr lr)) ∧ (¬ (4 : Int32) ≤ fr → (B_X1_restore_36  Q  v1 (fr - (1 : Int32)) fr hd nw kp pt hr lr)))))) ∧ (¬ 0 < hd → (Q (-5 : Int32) fr hd nw kp pt hr lr))) := h
  refine g_aload_n C 0 dX1_restore_0 rfl rfl ?_
  refine g_get C inX1_restore_1 5 WXg5 rfl 2 (by decide) lkX1_restore_21 rfl dX1_restore_1 ?_
  refine g_if_gt C 10 dX1_restore_4 (by decide) (fun c_7 => ?_) (fun c_7 => ?_)
  · replace h := h.1 c_7
    refine g_aload_n C 0 dX1_restore_10 rfl rfl ?_
    refine g_get C inX1_restore_1 5 WXg5 rfl 1 (by decide) lkX1_restore_17 rfl dX1_restore_11 ?_
    refine g_iconst C (1 : Int32) dX1_restore_14 (by decide) ?_
    refine g_icmp_lt C 35 dX1_restore_15 (by decide) (fun c_8 => ?_) (fun c_8 => ?_)
    · replace h := h.1 c_8
      exact g_sub [0, 1] rfl (t_B_X1_restore_35 C hrt9 hlk  v1 fr hd nw kp pt hr lr (by omega) h)
    · replace h := h.2 c_8
      refine g_aload_n C 0 dX1_restore_18 rfl rfl ?_
      refine g_get C inX1_restore_1 5 WXg5 rfl 1 (by decide) lkX1_restore_17 rfl dX1_restore_19 ?_
      refine g_iconst C (4 : Int32) dX1_restore_22 (by decide) ?_
      refine g_icmp_ge C 35 dX1_restore_23 (by decide) (fun c_9 => ?_) (fun c_9 => ?_)
      · replace h := h.1 c_9
        exact g_sub [0, 1] rfl (t_B_X1_restore_35 C hrt9 hlk  v1 fr hd nw kp pt hr lr (by omega) h)
      · replace h := h.2 c_9
        refine g_aload_n C 0 dX1_restore_26 rfl rfl ?_
        refine g_get C inX1_restore_1 5 WXg5 rfl 1 (by decide) lkX1_restore_17 rfl dX1_restore_27 ?_
        refine g_iconst C (1 : Int32) dX1_restore_30 (by decide) ?_
        refine g_isub C dX1_restore_31 ?_
        refine g_goto C 36 dX1_restore_32 (by decide) ?_
        exact g_sub [0, 1] rfl (t_B_X1_restore_36 C hrt9 hlk  v1 (fr - (1 : Int32)) fr hd nw kp pt hr lr (by omega) h)
  · replace h := h.2 c_7
    refine g_bipush C (-5 : Int32) dX1_restore_7 (by decide) ?_
    exact g_iret C hrt9 hlk (u := (fr, hd, nw, kp, pt, hr, lr)) rfl h dX1_restore_9
theorem c_X1_restore (l : Launch) (D : va_G) (A : Nat → Prop) (ad : Nat → Nat) (cA : Nat → ClassId) (v1 : Nat) {tl : Int32} {tx : (Nat → Int32)} {mn : Int32} {sd : (Nat → Int64)} {e0 : Int32} {e1 : Int32} {e2 : Int32} {e3 : Int32} {e4 : Int32} {e5 : Int32} {e6 : Int32} {e7 : Int32} {e8 : Int32} {e9 : Int32} {e10 : Int32} {fr : Int32} {hd : Int32} {nw : (Nat → Int32)} {kp : (Nat → Int32)} {pt : (Nat → Int32)} {hr : (Nat → Nat → Int32)} {lr : (Nat → Nat → Int32)} (hv1 : v1 < 5) (Q : Int32 → Int32 → Int32 → (Nat → Int32) → (Nat → Int32) → (Nat → Int32) → (Nat → Nat → Int32) → (Nat → Nat → Int32) → Prop) (h : F_X1_restore v1 fr hd nw kp pt hr lr Q) : Met l yX1_restore wsX1_restore rmX1_restore (va_Pc [.ref (ad 5), .ref (ad (7 + v1))] (OKX D (tysX cA) (WX ad cA tl tx mn sd e0 e1 e2 e3 e4 e5 e6 e7 e8 e9 e10 fr hd nw kp pt hr lr) A)) (QC_X1_restore D A ad cA tl tx mn sd e0 e1 e2 e3 e4 e5 e6 e7 e8 e9 e10 Q) 0 0 A :=
  g_met (own := RX1) (by decide) rfl rfl (Nat.le_of_ble_eq_true rfl) (fun p e s m below meth c C hrt9 hlk _ => g_sub [0, 1] rfl (t_B_X1_restore_0 C hrt9 hlk v1 fr hd nw kp pt hr lr hv1 h))
theorem k_X1_restore {ws : List Cond} {own : String} {cc : ByteArray} {nL pc index kc ks : Nat} {lv : List (Nat × Value)} {st : List Value} {Q : State → Prop} {R : Room} {K : Int32 → Int32 → Int32 → (Nat → Int32) → (Nat → Int32) → (Nat → Int32) → (Nat → Nat → Int32) → (Nat → Nat → Int32) → Prop} {v1 : Nat} (C : CxX p s m args c D (tysX cA) own cc nL ws) (hT : GoodIn ws (wsV own index RX1 yX1_restore wsX1_restore)) (hR : rmX1_restore.frames + 1 ≤ R.frames ∧ 8 + (3 + 11) + rmX1_restore.locals ≤ R.locals) (hk9 : kc ≤ R.cells ∧ ks ≤ R.slots) (hcat : (st.map fun v => v.category).sum ≤ 8) (hdg : decode cc pc = .ok (.invokevirtual index, 3)) (hv1 : v1 < 5) (h : F_X1_restore v1 fr hd nw kp pt hr lr K) (kk : ∀ (r : Int32) (frq : Int32) (hdq : Int32) (nwq : (Nat → Int32)) (kpq : (Nat → Int32)) (ptq : (Nat → Int32)) (hrq : (Nat → Nat → Int32)) (lrq : (Nat → Nat → Int32)), K r frq hdq nwq kpq ptq hrq lrq → GoX p l e R s m args below meth c D A nL kc ks Q (pc + 3) lv (.int r :: st) (WX ad cA tl tx mn sd e0 e1 e2 e3 e4 e5 e6 e7 e8 e9 e10 frq hdq nwq kpq ptq hrq lrq)) : GoX p l e R s m args below meth c D A nL kc ks Q pc lv (.ref (ad (7 + v1)) :: .ref (ad 5) :: st) (WX ad cA tl tx mn sd e0 e1 e2 e3 e4 e5 e6 e7 e8 e9 e10 fr hd nw kp pt hr lr) :=
  g_callVi C (As := [.ref (ad (7 + v1))]) 1 (c_X1_restore l D A ad cA v1 hv1 K h) hT rfl rfl rfl (by decide +kernel) hR hk9 5 WXg5 rfl rfl rfl hcat hdg (fun r u hu => kk r u.1 u.2.1 u.2.2.1 u.2.2.2.1 u.2.2.2.2.1 u.2.2.2.2.2.1 u.2.2.2.2.2.2 hu)
