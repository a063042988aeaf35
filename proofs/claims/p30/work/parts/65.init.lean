/-! THE CONSTRUCTORS OF THE CLASS -/
theorem vpD {i : Int32} {n : Nat} (h : ¬ (i < 0 ∨ n ≤ i.toNatClampNeg)) : vp_in i n := h
section INI
variable {p : Program} {l : Launch} {e : Env} {R : Room} {s : State} {m : MethodId} {args : Array Value} {below : List Frame} {meth : Method} {c : Code} {Q : State → Prop}
variable {D : va_G} {A : Nat → Prop} {kc ks : Nat} {cA : Nat → ClassId}
/-- State() -/
abbrev rmX3_init : Room := { frames := 1, cells := 18, slots := 120, locals := 12 }
def WSt (cA : Nat → ClassId) (a : Nat) (q1 q2 : Nat) (r1 r2 : Nat → Nat) (nw kp pt : Int32) (hr : Nat → Nat → Int32) : va_W := ([(a, .inr (2, [.ref q1, .ref q2, .int nw, .int kp, .int pt]))] ++ ((q1, .inl (cA 4, 6, .inr (.inr (.inr (.inr (fun i => some (r1 i))))))) :: poolX 6 r1 (fun i => .inl (cA 1, 9, .inl (hr i))))) ++ ((q2, .inl (cA 4, 10, .inr (.inr (.inr (.inr (fun i => some (r2 i))))))) :: poolX 10 r2 (fun _ => .inl (cA 1, 5, .inl (fun _ => 0))))
theorem WSt_gr {a q1 q2 : Nat} {r1 r2 : Nat → Nat} {nw kp pt : Int32} {hr : Nat → Nat → Int32} {i : Nat} (h : i < 6) : (WSt cA a q1 q2 r1 r2 nw kp pt hr)[2 + i]? = some (r1 i, .inl (cA 1, 9, .inl (hr i))) := by
  have h0 : (poolX 6 r1 (fun i => .inl (cA 1, 9, .inl (hr i))))[i]? = some (r1 i, .inl (cA 1, 9, .inl (hr i))) := poolX_get h
  exact appL_get0 (a := [(a, .inr (2, [.ref q1, .ref q2, .int nw, .int kp, .int pt])), (q1, .inl (cA 4, 6, .inr (.inr (.inr (.inr (fun i => some (r1 i)))))))] ++ poolX 6 r1 (fun i => .inl (cA 1, 9, .inl (hr i)))) (appL_get rfl h0)
theorem WSt_sr {a q1 q2 : Nat} {r1 r2 : Nat → Nat} {nw kp pt : Int32} {hr : Nat → Nat → Int32} {i : Nat} (h : i < 6) {v : Nat → Int32} : (WSt cA a q1 q2 r1 r2 nw kp pt hr).set (2 + i) (r1 i, .inl (cA 1, 9, .inl v)) = WSt cA a q1 q2 r1 r2 nw kp pt (fun j => if j = i then v else hr j) := by
  have h0 : (poolX 6 r1 (fun i => .inl (cA 1, 9, .inl (hr i)))).set i (r1 i, .inl (cA 1, 9, .inl v)) = poolX 6 r1 (fun j => .inl (cA 1, 9, .inl ((fun j => if j = i then v else hr j) j))) := poolX_set h (fun j _ => by
    by_cases e : j = i
    · simp [va_up, e]
    · simp [va_up, e])
  have h1 := appL_set (a := [(a, .inr (2, [.ref q1, .ref q2, .int nw, .int kp, .int pt])), (q1, .inl (cA 4, 6, .inr (.inr (.inr (.inr (fun i => some (r1 i)))))))]) (n := 2) rfl h0
  exact appL_set0 (by rw [List.length_append, List.length_singleton, List.length_cons, poolX_len]; omega) h1
theorem inX3_init : ∀ q ∈ u_ws RX3 TX3 5, q ∈ wsX3_init := by decide +kernel
theorem ownX3 : ∀ k9, k9 < 5 → (TX3 k9).1 = RX3 := by decide
theorem lkX3_init_0 : Cond.fieldLink RX3 11 (TX3 0).1 (TX3 0).2.1 (TX3 0).2.2.1 ∈ wsX3_init := by decide +kernel
theorem lkX3_init_1 : Cond.fieldLink RX3 16 (TX3 1).1 (TX3 1).2.1 (TX3 1).2.2.1 ∈ wsX3_init := by decide +kernel
theorem lkX3_init_2 : Cond.fieldLink RX3 19 (TX3 2).1 (TX3 2).2.1 (TX3 2).2.2.1 ∈ wsX3_init := by decide +kernel
theorem lkX3_init_3 : Cond.fieldLink RX3 23 (TX3 3).1 (TX3 3).2.1 (TX3 3).2.2.1 ∈ wsX3_init := by decide +kernel
theorem lkX3_init_4 : Cond.fieldLink RX3 26 (TX3 4).1 (TX3 4).2.1 (TX3 4).2.2.1 ∈ wsX3_init := by decide +kernel
theorem woX3_1 : Cond.methodLink RX3 3 objectInit ∈ wsX3_init := List.mem_of_getElem? (i := 1) rfl
theorem woX3_2 : Cond.instanceMethod objectInit ∈ wsX3_init := List.mem_of_getElem? (i := 2) rfl
theorem woX3_3 : Cond.code objectInit ⟨#[0xb1]⟩ 1 none ∈ wsX3_init := List.mem_of_getElem? (i := 3) rfl
theorem woX3_4 : Cond.classLink RX3 9 "[[I" ∈ wsX3_init := List.mem_of_getElem? (i := 4) rfl
theorem woX3_5 : Cond.arrayClass .int ∈ wsX3_init := List.mem_of_getElem? (i := 5) rfl
abbrev hrow0 : Nat → Int32 := upd (upd (upd (upd (fun _ => 0) 0 1) 1 1) 2 1) 6 12
set_option maxHeartbeats 4000000 in
set_option maxRecDepth 100000 in
theorem X3_row (C : CxX p s m args c D (tysX cA) RX3 cX3_init 3 wsX3_init) {a q1 q2 : Nat} {r1 r2 : Nat → Nat} {nw kp pt : Int32} {hr : Nat → Nat → Int32} {i : Nat} {iv iv2 : Int32} (h1 : ¬ (6 : Int32) ≤ iv) (h2 : vp_in iv 6) (h3 : iv.toNatClampNeg = i) (h4 : i < 6) (h5 : iv + Int32.ofInt 1 = iv2) (h6 : hr i = fun _ => 0)
    (K : GoX p l e R s m args below meth c D A 3 kc ks Q 44 [(1, .int iv2), (0, .ref a)] [] (WSt cA a q1 q2 r1 r2 nw kp pt (fun j => if j = i then hrow0 else hr j))) : GoX p l e R s m args below meth c D A 3 kc ks Q 44 [(1, .int iv), (0, .ref a)] [] (WSt cA a q1 q2 r1 r2 nw kp pt hr) := by
  subst h3
  refine g_iload_n C 0 dX3_init_44 rfl rfl ?_
  refine g_bipush C (6 : Int32) dX3_init_45 (by decide) ?_
  refine g_icmp_ge C 91 dX3_init_47 (by decide) (fun q => absurd q h1) (fun _ => ?_)
  refine g_iconst C (0 : Int32) dX3_init_50 (by decide) ?_
  refine g_istore_n C (lv2 := [(2, .int 0), (1, .int iv), (0, .ref a)]) dX3_init_51 rfl (by decide) rfl ?_
  have step : ∀ {hr : Nat → Nat → Int32} (jv jv2 : Int32) (jn : Nat) (v : Nat → Int32), ¬ (3 : Int32) ≤ jv → vp_in (0 + jv) 9 → (0 + jv).toNatClampNeg = jn → jv + Int32.ofInt 1 = jv2 → upd (hr iv.toNatClampNeg) jn 1 = v → GoX p l e R s m args below meth c D A 3 kc ks Q 52 [(2, .int jv2), (1, .int iv), (0, .ref a)] [] (WSt cA a q1 q2 r1 r2 nw kp pt (fun j => if j = iv.toNatClampNeg then v else hr j)) → GoX p l e R s m args below meth c D A 3 kc ks Q 52 [(2, .int jv), (1, .int iv), (0, .ref a)] [] (WSt cA a q1 q2 r1 r2 nw kp pt hr) := by
    intro hr jv jv2 jn v g1 g2 g3 g4 g5 K
    subst g3
    subst g5
    refine g_iload_n C 0 dX3_init_52 rfl rfl ?_
    refine g_iconst C (3 : Int32) dX3_init_53 (by decide) ?_
    refine g_icmp_ge C 74 dX3_init_54 (by decide) (fun q => absurd q g1) (fun _ => ?_)
    refine g_aload_n C 2 dX3_init_57 rfl rfl ?_
    refine g_get C inX3_init 0 (fs := [.ref q1, .ref q2, .int nw, .int kp, .int pt]) rfl rfl 0 (by decide) lkX3_init_0 rfl dX3_init_58 ?_
    refine g_iload_n C 1 dX3_init_61 rfl rfl ?_
    refine g_aald C 1 4 (cA := cA 4) (n := 6) (f := fun i => some (r1 i)) (ty := .array .int) rfl rfl rfl h2 (v := r1 iv.toNatClampNeg) rfl dX3_init_62 ?_
    refine g_iconst C (0 : Int32) dX3_init_63 (by decide) ?_
    refine g_iload_n C 0 dX3_init_64 rfl rfl ?_
    refine g_iadd C dX3_init_65 ?_
    refine g_iconst C (1 : Int32) dX3_init_66 (by decide) ?_
    refine g_iast C (2 + iv.toNatClampNeg) 1 (WSt_gr h4) rfl g2 (WSt_sr h4) dX3_init_67 ?_
    refine g_iinc C (v := jv2) (lv2 := [(2, .int jv2), (1, .int iv), (0, .ref a)]) 0 dX3_init_68 rfl g4 (by decide) rfl ?_
    exact g_goto C 52 dX3_init_71 (by decide) K
  refine step 0 1 0 (upd (fun _ => 0) 0 1) (by decide) (vpD (by decide)) (by decide) (by decide) (by rw [h6]) ?_
  refine step 1 2 1 (upd (upd (fun _ => 0) 0 1) 1 1) (by decide) (vpD (by decide)) (by decide) (by decide) (by rw [if_pos rfl]) ?_
  refine step 2 3 2 (upd (upd (upd (fun _ => 0) 0 1) 1 1) 2 1) (by decide) (vpD (by decide)) (by decide) (by decide) (by rw [if_pos rfl]) ?_
  refine g_iload_n C 0 dX3_init_52 rfl rfl ?_
  refine g_iconst C (3 : Int32) dX3_init_53 (by decide) ?_
  refine g_icmp_ge C 74 dX3_init_54 (by decide) (fun _ => ?_) (fun q => absurd (by decide) q)
  refine g_aload_n C 2 dX3_init_74 rfl rfl ?_
  refine g_get C inX3_init 0 (fs := [.ref q1, .ref q2, .int nw, .int kp, .int pt]) rfl rfl 0 (by decide) lkX3_init_0 rfl dX3_init_75 ?_
  refine g_iload_n C 1 dX3_init_78 rfl rfl ?_
  refine g_aald C 1 4 (cA := cA 4) (n := 6) (f := fun i => some (r1 i)) (ty := .array .int) rfl rfl rfl h2 (v := r1 iv.toNatClampNeg) rfl dX3_init_79 ?_
  refine g_bipush C (6 : Int32) dX3_init_80 (by decide) ?_
  refine g_bipush C (12 : Int32) dX3_init_82 (by decide) ?_
  refine g_iast C (2 + iv.toNatClampNeg) 1 (WSt_gr h4) rfl (vpD (by decide)) (WSt_sr h4) dX3_init_84 ?_
  refine g_iinc C (v := iv2) (lv2 := [(1, .int iv2), (2, .int 3), (0, .ref a)]) 1 dX3_init_85 rfl h5 (by decide) rfl ?_
  refine g_goto C 44 dX3_init_88 (by decide) ?_
  refine g_sub [0, 2] rfl ?_
  refine g_world (w2 := WSt cA a q1 q2 r1 r2 nw kp pt (fun j => if j = iv.toNatClampNeg then hrow0 else hr j)) ?_ K
  congr 1
  funext j
  by_cases e : j = iv.toNatClampNeg
  · subst e
    simp only [if_pos]
    rfl
  · simp only [if_neg e]
abbrev Wst (cA : Nat → ClassId) (a : Nat) (u : Nat × Nat × (Nat → Nat) × (Nat → Nat)) : va_W := WSt cA a u.1 u.2.1 u.2.2.1 u.2.2.2 0 0 2 (fun j => if j < 6 then hrow0 else fun _ => 0)
abbrev oSt (a : Nat) : va_W := [(a, .inr (2, [.null, .null, .int 0, .int 0, .int 0]))]
set_option maxHeartbeats 4000000 in
set_option maxRecDepth 100000 in
theorem c_X3_init (l : Launch) (D : va_G) (cA : Nat → ClassId) (a : Nat) : ∀ sz, Met l yX3_init wsX3_init rmX3_init (va_Pc [.ref a] (OKN D (tysX cA) (oSt a) sz)) (va_Qv (fun _ => True) (fun u t => OKX D (tysX cA) (Wst cA a u) (va_A (oSt a) sz) t) (va_A (oSt a) sz)) 18 120 (va_A (oSt a) sz) := by
  refine g_metI (Qc := fun sz => va_Qv (fun _ => True) (fun u t => OKX D (tysX cA) (Wst cA a u) (va_A (oSt a) sz) t) (va_A (oSt a) sz)) (own := RX3) (by decide) rfl rfl rfl (Nat.le_of_ble_eq_true rfl) (fun p e s m below meth c C hrt hlk hin hO hA => ?_)
  refine g_sub (lv2 := [(0, .ref a)]) [0] rfl ?_
  refine g_aload_n C 0 dX3_init_0 rfl rfl ?_
  refine g_objInit C woX3_1 woX3_2 woX3_3 (by decide) (by decide) dX3_init_1 ?_
  refine g_aload_n C 0 dX3_init_4 rfl rfl ?_
  refine g_bipush C (6 : Int32) dX3_init_5 (by decide) ?_
  refine g_bipush C (9 : Int32) dX3_init_7 (by decide) ?_
  refine g_mna C hA woX3_4 hO.1 woX3_5 1 4 rfl rfl 6 9 (by decide) (by decide) (by decide) (by decide) (by decide) (by decide) (by decide) (by decide) (by decide) dX3_init_9 (fun q1 r1 => ?_)
  refine g_putF C hin ownX3 inX3_init tyX3 tyX3_ok nmX3 0 (fs := [.null, .null, .int 0, .int 0, .int 0]) (w2 := [(a, .inr (2, [.ref q1, .null, .int 0, .int 0, .int 0]))] ++ ((q1, .inl (cA 4, 6, .inr (.inr (.inr (.inr (fun i => some (r1 i))))))) :: poolX 6 r1 (fun i => .inl (cA 1, 9, .inl ((fun _ _ => 0 : Nat → Nat → Int32) i))))) rfl rfl 0 (by decide) lkX3_init_0 rfl rfl rfl (Nat.le_of_ble_eq_true rfl) rfl dX3_init_13 ?_
  refine g_aload_n C 0 dX3_init_16 rfl rfl ?_
  refine g_bipush C (10 : Int32) dX3_init_17 (by decide) ?_
  refine g_iconst C (5 : Int32) dX3_init_19 (by decide) ?_
  refine g_mna C hA woX3_4 hO.1 woX3_5 1 4 rfl rfl 10 5 (by decide) (by decide) (by decide) (by decide) (by decide) (by decide) (by decide) (by decide) (by decide) dX3_init_20 (fun q2 r2 => ?_)
  refine g_putF C hin ownX3 inX3_init tyX3 tyX3_ok nmX3 0 (fs := [.ref q1, .null, .int 0, .int 0, .int 0]) (w2 := WSt cA a q1 q2 r1 r2 0 0 0 (fun _ _ => 0)) rfl rfl 1 (by decide) lkX3_init_1 rfl rfl rfl (Nat.le_of_ble_eq_true rfl) rfl dX3_init_24 ?_
  refine g_aload_n C 0 dX3_init_27 rfl rfl ?_
  refine g_iconst C (0 : Int32) dX3_init_28 (by decide) ?_
  refine g_put C inX3_init tyX3 tyX3_ok nmX3 0 (fs := [.ref q1, .ref q2, .int 0, .int 0, .int 0]) (w2 := WSt cA a q1 q2 r1 r2 0 0 0 (fun _ _ => 0)) rfl rfl 2 (by decide) lkX3_init_2 rfl rfl rfl (Nat.le_of_ble_eq_true rfl) rfl dX3_init_29 ?_
  refine g_aload_n C 0 dX3_init_32 rfl rfl ?_
  refine g_iconst C (0 : Int32) dX3_init_33 (by decide) ?_
  refine g_put C inX3_init tyX3 tyX3_ok nmX3 0 (fs := [.ref q1, .ref q2, .int 0, .int 0, .int 0]) (w2 := WSt cA a q1 q2 r1 r2 0 0 0 (fun _ _ => 0)) rfl rfl 3 (by decide) lkX3_init_3 rfl rfl rfl (Nat.le_of_ble_eq_true rfl) rfl dX3_init_34 ?_
  refine g_aload_n C 0 dX3_init_37 rfl rfl ?_
  refine g_iconst C (2 : Int32) dX3_init_38 (by decide) ?_
  refine g_put C inX3_init tyX3 tyX3_ok nmX3 0 (fs := [.ref q1, .ref q2, .int 0, .int 0, .int 0]) (w2 := WSt cA a q1 q2 r1 r2 0 0 2 (fun _ _ => 0)) rfl rfl 4 (by decide) lkX3_init_4 rfl rfl rfl (Nat.le_of_ble_eq_true rfl) rfl dX3_init_39 ?_
  refine g_iconst C (0 : Int32) dX3_init_42 (by decide) ?_
  refine g_istore_n C (lv2 := [(1, .int 0), (0, .ref a)]) dX3_init_43 rfl (by decide) rfl ?_
  refine X3_row C (i := 0) (iv2 := 1) (by decide) (vpD (by decide)) (by decide) (by decide) (by decide) rfl ?_
  refine X3_row C (i := 1) (iv2 := 2) (by decide) (vpD (by decide)) (by decide) (by decide) (by decide) rfl ?_
  refine X3_row C (i := 2) (iv2 := 3) (by decide) (vpD (by decide)) (by decide) (by decide) (by decide) rfl ?_
  refine X3_row C (i := 3) (iv2 := 4) (by decide) (vpD (by decide)) (by decide) (by decide) (by decide) rfl ?_
  refine X3_row C (i := 4) (iv2 := 5) (by decide) (vpD (by decide)) (by decide) (by decide) (by decide) rfl ?_
  refine X3_row C (i := 5) (iv2 := 6) (by decide) (vpD (by decide)) (by decide) (by decide) (by decide) rfl ?_
  refine g_iload_n C 0 dX3_init_44 rfl rfl ?_
  refine g_bipush C (6 : Int32) dX3_init_45 (by decide) ?_
  refine g_icmp_ge C 91 dX3_init_47 (by decide) (fun _ => ?_) (fun q => absurd (by decide) q)
  refine g_world (w2 := Wst cA a (q1, q2, r1, r2)) ?_ ?_
  · show WSt cA a q1 q2 r1 r2 0 0 2 _ = WSt cA a q1 q2 r1 r2 0 0 2 _
    congr 1
    funext j
    by_cases h : j < 6
    · rcases (show j = 0 ∨ j = 1 ∨ j = 2 ∨ j = 3 ∨ j = 4 ∨ j = 5 by omega) with rfl | rfl | rfl | rfl | rfl | rfl <;> rfl
    · rw [if_neg h, if_neg (by omega), if_neg (by omega), if_neg (by omega), if_neg (by omega), if_neg (by omega), if_neg (by omega)]
  · exact g_vretN (Wu := Wst cA a) C hrt hlk (q1, q2, r1, r2) rfl trivial dX3_init_91
end INI
