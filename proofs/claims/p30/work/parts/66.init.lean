section INJ
variable {p : Program} {l : Launch} {e : Env} {R : Room} {s : State} {m : MethodId} {args : Array Value} {below : List Frame} {meth : Method} {c : Code} {Q : State → Prop}
variable {D : va_G} {A : Nat → Prop} {kc ks : Nat} {cA : Nat → ClassId}
/-- History() -/
abbrev rmX1_init : Room := { frames := 2, cells := 77, slots := 504, locals := 34 }
def WHi (cA : Nat → ClassId) (h q : Nat) (f : Nat → Option Nat) (ss : va_W) : va_W := (h, .inr (1, [.ref q, .int 0, .int 0])) :: (q, .inl (cA 3, 4, .inr (.inr (.inr (.inr f))))) :: ss
theorem inX1_init : ∀ q ∈ u_ws RX1 TX1 3, q ∈ wsX1_init := by decide +kernel
theorem inX1_initS : ∀ q ∈ u_ws RX3 TX3 5, q ∈ wsX1_init := by decide +kernel
theorem ownX1 : ∀ k9, k9 < 3 → (TX1 k9).1 = RX1 := by decide
theorem lkX1_init_0 : Cond.fieldLink RX1 13 (TX1 0).1 (TX1 0).2.1 (TX1 0).2.2.1 ∈ wsX1_init := by decide +kernel
theorem lkX1_init_1 : Cond.fieldLink RX1 17 (TX1 1).1 (TX1 1).2.1 (TX1 1).2.2.1 ∈ wsX1_init := by decide +kernel
theorem lkX1_init_2 : Cond.fieldLink RX1 21 (TX1 2).1 (TX1 2).2.1 (TX1 2).2.2.1 ∈ wsX1_init := by decide +kernel
theorem woX1_1 : Cond.methodLink RX1 3 objectInit ∈ wsX1_init := List.mem_of_getElem? (i := 1) rfl
theorem woX1_2 : Cond.instanceMethod objectInit ∈ wsX1_init := List.mem_of_getElem? (i := 2) rfl
theorem woX1_3 : Cond.code objectInit ⟨#[0xb1]⟩ 1 none ∈ wsX1_init := List.mem_of_getElem? (i := 3) rfl
theorem woX1_4 : Cond.classLink RX1 11 RX3 ∈ wsX1_init := List.mem_of_getElem? (i := 4) rfl
theorem woX1_8 : Cond.instantiable RX3 5 ∈ wsX1_init := List.mem_of_getElem? (i := 8) rfl
theorem woX1_9 : Cond.initialized RX3 ∈ wsX1_init := List.mem_of_getElem? (i := 9) rfl
theorem woX1_10 : Cond.methodLink RX1 24 yX3_init ∈ wsX1_init := List.mem_of_getElem? (i := 10) rfl
theorem woX1_11 : Cond.instanceMethod yX3_init ∈ wsX1_init := List.mem_of_getElem? (i := 11) rfl
theorem dfX3 : ∀ j, j < 5 → defaultValue (tyX3 j) = vp_V [.null, .null, .int 0, .int 0, .int 0] j := fun j hj => by rcases (show j = 0 ∨ j = 1 ∨ j = 2 ∨ j = 3 ∨ j = 4 by omega) with rfl | rfl | rfl | rfl | rfl <;> rfl
theorem roomX3 : rmX3_init.frames + 1 ≤ rmX1_init.frames ∧ 8 + (3 + 11) + rmX3_init.locals ≤ rmX1_init.locals := by decide
set_option maxHeartbeats 4000000 in
set_option maxRecDepth 100000 in
theorem X1_row (C : CxX p s m args c D (tysX cA) RX1 cX1_init 2 wsX1_init) (hO : KO s) (hA : ∀ q, s.heap.size ≤ q → A q) {h q : Nat} {f : Nat → Option Nat} {ss : va_W} {iv iv2 : Int32} {i : Nat} (h1 : ¬ (4 : Int32) ≤ iv) (h2 : vp_in iv 4) (h3 : iv.toNatClampNeg = i) (h5 : iv + Int32.ofInt 1 = iv2) (g1 : kc + 1 + 18 ≤ 77) (g2 : ks + 5 + 120 ≤ 504)
    (K : ∀ (a : Nat) (u : Nat × Nat × (Nat → Nat) × (Nat → Nat)), GoX p l e rmX1_init s m args below meth c D A 2 (kc + 1 + 18) (ks + 5 + 120) Q 24 [(1, .int iv2), (0, .ref h)] [] (WHi cA h q (va_up f i (some a)) (ss ++ Wst cA a u))) : GoX p l e rmX1_init s m args below meth c D A 2 kc ks Q 24 [(1, .int iv), (0, .ref h)] [] (WHi cA h q f ss) := by
  subst h3
  refine g_iload_n C 0 dX1_init_24 rfl rfl ?_
  refine g_iconst C (4 : Int32) dX1_init_25 (by decide) ?_
  refine g_icmp_ge C 48 dX1_init_26 (by decide) (fun q => absurd q h1) (fun _ => ?_)
  refine g_aload_n C 1 dX1_init_29 rfl rfl ?_
  refine g_get C inX1_init 0 (fs := [.ref q, .int 0, .int 0]) rfl rfl 0 (by decide) lkX1_init_0 rfl dX1_init_30 ?_
  refine g_iload_n C 0 dX1_init_33 rfl rfl ?_
  refine g_new C hA inX1_initS tyX3 tyX3_ok woX1_4 woX1_8 woX1_9 (ci := 2) rfl [.null, .null, .int 0, .int 0, .int 0] dfX3 (Nat.le_trans (by omega) g1) (Nat.le_trans (by omega) g2) dX1_init_34 (fun a => ?_)
  refine g_dup C dX1_init_37 rfl ?_
  refine g_callI (wc := oSt a) C hO hA (c_X3_init l D cA a) gX1_init_X3_init rfl rfl rfl woX1_9 woX1_10 woX1_11 rfl (by decide +kernel) roomX3 (Nat.le_of_ble_eq_true rfl) ⟨g1, g2⟩ dX1_init_38 (fun u _ => ?_)
  refine g_astq C 1 3 ((WHi cA h q f ss).length + 0) 2 (cB := cA 3) (n := 4) (f := f) (r := (RX3, TX3, 5)) rfl rfl (appL_get rfl rfl) rfl h2 (w2 := WHi cA h q (va_up f iv.toNatClampNeg (some a)) (ss ++ Wst cA a u)) rfl dX1_init_41 ?_
  refine g_iinc C (v := iv2) (lv2 := [(1, .int iv2), (0, .ref h)]) 0 dX1_init_42 rfl h5 (by decide) rfl ?_
  exact g_goto C 24 dX1_init_45 (by decide) (K a u)
abbrev UH : Type := Nat × (Nat → Nat) × (Nat → Nat × Nat × (Nat → Nat) × (Nat → Nat))
abbrev f4 (sa : Nat → Nat) : Nat → Option Nat := va_up (va_up (va_up (va_up (fun _ => none) 0 (some (sa 0))) 1 (some (sa 1))) 2 (some (sa 2))) 3 (some (sa 3))
abbrev WHs (cA : Nat → ClassId) (h : Nat) (u : UH) : va_W := WHi cA h u.1 (f4 u.2.1) (((([] ++ Wst cA (u.2.1 0) (u.2.2 0)) ++ Wst cA (u.2.1 1) (u.2.2 1)) ++ Wst cA (u.2.1 2) (u.2.2 2)) ++ Wst cA (u.2.1 3) (u.2.2 3))
def pick4 {α : Type} (a b c d : α) : Nat → α := fun k => match k with | 0 => a | 1 => b | 2 => c | _ => d
abbrev oHi (h : Nat) : va_W := [(h, .inr (1, [.null, .int 0, .int 0]))]
set_option maxHeartbeats 4000000 in
set_option maxRecDepth 100000 in
theorem c_X1_init (l : Launch) (D : va_G) (cA : Nat → ClassId) (h : Nat) : ∀ sz, Met l yX1_init wsX1_init rmX1_init (va_Pc [.ref h] (OKN D (tysX cA) (oHi h) sz)) (va_Qv (fun _ => True) (fun u t => OKX D (tysX cA) (WHs cA h u) (va_A (oHi h) sz) t) (va_A (oHi h) sz)) 77 504 (va_A (oHi h) sz) := by
  refine g_metI (Qc := fun sz => va_Qv (fun _ => True) (fun u t => OKX D (tysX cA) (WHs cA h u) (va_A (oHi h) sz) t) (va_A (oHi h) sz)) (own := RX1) (by decide) rfl rfl rfl (Nat.le_of_ble_eq_true rfl) (fun p e s m below meth c C hrt hlk hin hO hA => ?_)
  refine g_sub (lv2 := [(0, .ref h)]) [0] rfl ?_
  refine g_aload_n C 0 dX1_init_0 rfl rfl ?_
  refine g_objInit C woX1_1 woX1_2 woX1_3 (by decide) (by decide) dX1_init_1 ?_
  refine g_aload_n C 0 dX1_init_4 rfl rfl ?_
  refine g_iconst C (4 : Int32) dX1_init_5 (by decide) ?_
  refine g_newq C hA woX1_4 hO.2.1 3 (cB := cA 3) rfl 4 (by decide) (by decide) (by decide) (by decide) (by decide) dX1_init_6 (fun q => ?_)
  refine g_putF C hin ownX1 inX1_init tyX1 tyX1_ok nmX1 0 (fs := [.null, .int 0, .int 0]) (w2 := WHi cA h q (fun _ => none) []) rfl rfl 0 (by decide) lkX1_init_0 rfl rfl rfl (Nat.le_of_ble_eq_true rfl) rfl dX1_init_9 ?_
  refine g_aload_n C 0 dX1_init_12 rfl rfl ?_
  refine g_iconst C (0 : Int32) dX1_init_13 (by decide) ?_
  refine g_put C inX1_init tyX1 tyX1_ok nmX1 0 (fs := [.ref q, .int 0, .int 0]) (w2 := WHi cA h q (fun _ => none) []) rfl rfl 1 (by decide) lkX1_init_1 rfl rfl rfl (Nat.le_of_ble_eq_true rfl) rfl dX1_init_14 ?_
  refine g_aload_n C 0 dX1_init_17 rfl rfl ?_
  refine g_iconst C (0 : Int32) dX1_init_18 (by decide) ?_
  refine g_put C inX1_init tyX1 tyX1_ok nmX1 0 (fs := [.ref q, .int 0, .int 0]) (w2 := WHi cA h q (fun _ => none) []) rfl rfl 2 (by decide) lkX1_init_2 rfl rfl rfl (Nat.le_of_ble_eq_true rfl) rfl dX1_init_19 ?_
  refine g_iconst C (0 : Int32) dX1_init_22 (by decide) ?_
  refine g_istore_n C (lv2 := [(1, .int 0), (0, .ref h)]) dX1_init_23 rfl (by decide) rfl ?_
  refine X1_row C hO hA (i := 0) (iv2 := 1) (by decide) (vpD (by decide)) (by decide) (by decide) (by decide) (by decide) (fun a0 u0 => ?_)
  refine X1_row C hO hA (i := 1) (iv2 := 2) (by decide) (vpD (by decide)) (by decide) (by decide) (by decide) (by decide) (fun a1 u1 => ?_)
  refine X1_row C hO hA (i := 2) (iv2 := 3) (by decide) (vpD (by decide)) (by decide) (by decide) (by decide) (by decide) (fun a2 u2 => ?_)
  refine X1_row C hO hA (i := 3) (iv2 := 4) (by decide) (vpD (by decide)) (by decide) (by decide) (by decide) (by decide) (fun a3 u3 => ?_)
  refine g_iload_n C 0 dX1_init_24 rfl rfl ?_
  refine g_iconst C (4 : Int32) dX1_init_25 (by decide) ?_
  refine g_icmp_ge C 48 dX1_init_26 (by decide) (fun _ => ?_) (fun q => absurd (by decide) q)
  exact g_vretN (Wu := WHs cA h) (kc := 77) (ks := 504) C hrt hlk (q, pick4 a0 a1 a2 a3, pick4 u0 u1 u2 u3) rfl trivial dX1_init_48
/-- Ear() -/
abbrev rmX0_init : Room := { frames := 1, cells := 0, slots := 0, locals := 12 }
abbrev oEa (a : Nat) : va_W := [(a, .inr (0, [.int 0, .int 0, .int 0, .int 0, .int 0, .int 0, .int 0, .int 0, .int 0, .int 0, .int 0]))]
theorem woX0_1 : Cond.methodLink RX0 1 objectInit ∈ wsX0_init := List.mem_of_getElem? (i := 1) rfl
theorem woX0_2 : Cond.instanceMethod objectInit ∈ wsX0_init := List.mem_of_getElem? (i := 2) rfl
theorem woX0_3 : Cond.code objectInit ⟨#[0xb1]⟩ 1 none ∈ wsX0_init := List.mem_of_getElem? (i := 3) rfl
set_option maxHeartbeats 4000000 in
theorem c_X0_init (l : Launch) (D : va_G) (cA : Nat → ClassId) (a : Nat) : ∀ sz, Met l yX0_init wsX0_init rmX0_init (va_Pc [.ref a] (OKN D (tysX cA) (oEa a) sz)) (va_Qv (fun _ : Unit => True) (fun _ t => OKX D (tysX cA) (oEa a) (va_A (oEa a) sz) t) (va_A (oEa a) sz)) 0 0 (va_A (oEa a) sz) := by
  refine g_metI (Qc := fun sz => va_Qv (fun _ : Unit => True) (fun _ t => OKX D (tysX cA) (oEa a) (va_A (oEa a) sz) t) (va_A (oEa a) sz)) (own := RX0) (by decide) rfl rfl rfl (Nat.le_of_ble_eq_true rfl) (fun p e s m below meth c C hrt hlk hin hO hA => ?_)
  refine g_sub (lv2 := [(0, .ref a)]) [0] rfl ?_
  refine g_aload_n C 0 dX0_init_0 rfl rfl ?_
  refine g_objInit C woX0_1 woX0_2 woX0_3 (by decide) (by decide) dX0_init_1 ?_
  exact g_vretN (Wu := fun _ : Unit => oEa a) C hrt hlk () rfl trivial dX0_init_4
/-- Ways() -/
abbrev rmX4_init : Room := { frames := 1, cells := 1, slots := 16, locals := 12 }
abbrev oWa (a : Nat) : va_W := [(a, .inr (3, [.null, .int 0]))]
abbrev WWa (cA : Nat → ClassId) (a q : Nat) : va_W := [(a, .inr (3, [.ref q, .int 0])), (q, .inl (cA 2, 16, .inr (.inl (fun _ => 0))))]
theorem inX4_init : ∀ q ∈ u_ws RX4 TX4 2, q ∈ wsX4_init := by decide +kernel
theorem ownX4 : ∀ k9, k9 < 2 → (TX4 k9).1 = RX4 := by decide
theorem lkX4_init_0 : Cond.fieldLink RX4 9 (TX4 0).1 (TX4 0).2.1 (TX4 0).2.2.1 ∈ wsX4_init := by decide +kernel
theorem lkX4_init_1 : Cond.fieldLink RX4 13 (TX4 1).1 (TX4 1).2.1 (TX4 1).2.2.1 ∈ wsX4_init := by decide +kernel
theorem woX4_1 : Cond.methodLink RX4 1 objectInit ∈ wsX4_init := List.mem_of_getElem? (i := 1) rfl
theorem woX4_2 : Cond.instanceMethod objectInit ∈ wsX4_init := List.mem_of_getElem? (i := 2) rfl
theorem woX4_3 : Cond.code objectInit ⟨#[0xb1]⟩ 1 none ∈ wsX4_init := List.mem_of_getElem? (i := 3) rfl
theorem woX4_4 : Cond.arrayClass .long ∈ wsX4_init := List.mem_of_getElem? (i := 4) rfl
set_option maxHeartbeats 4000000 in
theorem c_X4_init (l : Launch) (D : va_G) (cA : Nat → ClassId) (a : Nat) : ∀ sz, Met l yX4_init wsX4_init rmX4_init (va_Pc [.ref a] (OKN D (tysX cA) (oWa a) sz)) (va_Qv (fun _ : Nat => True) (fun q t => OKX D (tysX cA) (WWa cA a q) (va_A (oWa a) sz) t) (va_A (oWa a) sz)) 1 16 (va_A (oWa a) sz) := by
  refine g_metI (Qc := fun sz => va_Qv (fun _ : Nat => True) (fun q t => OKX D (tysX cA) (WWa cA a q) (va_A (oWa a) sz) t) (va_A (oWa a) sz)) (own := RX4) (by decide) rfl rfl rfl (Nat.le_of_ble_eq_true rfl) (fun p e s m below meth c C hrt hlk hin hO hA => ?_)
  refine g_sub (lv2 := [(0, .ref a)]) [0] rfl ?_
  refine g_aload_n C 0 dX4_init_0 rfl rfl ?_
  refine g_objInit C woX4_1 woX4_2 woX4_3 (by decide) (by decide) dX4_init_1 ?_
  refine g_aload_n C 0 dX4_init_4 rfl rfl ?_
  refine g_bipush C (16 : Int32) dX4_init_5 (by decide) ?_
  refine g_newa C hA (atype := .long) woX4_4 rfl 2 (cB := cA 2) rfl 16 (16, .inr (.inl (fun _ => 0))) (fun _ => rfl) (by decide) (by decide) (by decide) (by decide) (by decide) dX4_init_7 (fun q => ?_)
  refine g_putF C hin ownX4 inX4_init tyX4 tyX4_ok nmX4 0 (fs := [.null, .int 0]) (w2 := WWa cA a q) rfl rfl 0 (by decide) lkX4_init_0 rfl rfl rfl (Nat.le_of_ble_eq_true rfl) rfl dX4_init_9 ?_
  refine g_aload_n C 0 dX4_init_12 rfl rfl ?_
  refine g_iconst C (0 : Int32) dX4_init_13 (by decide) ?_
  refine g_put C inX4_init tyX4 tyX4_ok nmX4 0 (fs := [.ref q, .int 0]) (w2 := WWa cA a q) rfl rfl 1 (by decide) lkX4_init_1 rfl rfl rfl (Nat.le_of_ble_eq_true rfl) rfl dX4_init_14 ?_
  exact g_vretN (Wu := fun q : Nat => WWa cA a q) (kc := 1) (ks := 16) C hrt hlk q rfl trivial dX4_init_17
end INJ
