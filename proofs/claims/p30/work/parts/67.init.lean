section INK
variable {p : Program} {l : Launch} {e : Env} {R : Room} {s : State} {m : MethodId} {args : Array Value} {below : List Frame} {meth : Method} {c : Code} {Q : State → Prop}
variable {D : va_G} {A : Nat → Prop} {kc ks : Nat} {cA : Nat → ClassId}
/-- ScoreNumbers() -/
abbrev rmX5_init : Room := { frames := 3, cells := 101, slots := 681, locals := 55 }
abbrev oX5 (x : Nat) : va_W := [(x, .inr (4, [.null, .null, .null, .int 0, .null, .null]))]
abbrev U5 : Type := Nat × (Nat × Nat × (Nat → Nat) × (Nat → Nat)) × Nat × UH × Nat × Nat × Nat × Nat
abbrev b5 (x : Nat) (v0 v1 v2 v4 v5 : Value) : va_W := [(x, .inr (4, [v0, v1, v2, .int 0, v4, v5]))]
abbrev W5 (cA : Nat → ClassId) (x : Nat) (u : U5) : va_W := ((((b5 x (.ref u.1) (.ref u.2.2.1) (.ref u.2.2.2.2.1) (.ref u.2.2.2.2.2.1) (.ref u.2.2.2.2.2.2.2) ++ Wst cA u.1 u.2.1) ++ WHs cA u.2.2.1 u.2.2.2.1) ++ [(u.2.2.2.2.1, .inl (cA 0, 20, .inl (fun _ => 0)))]) ++ WWa cA u.2.2.2.2.2.1 u.2.2.2.2.2.2.1) ++ oEa u.2.2.2.2.2.2.2
theorem inX5_init : ∀ q ∈ u_ws RX5 TX5 6, q ∈ wsX5_init := by decide +kernel
theorem inX5_init0 : ∀ q ∈ u_ws RX0 TX0 11, q ∈ wsX5_init := by decide +kernel
theorem inX5_init1 : ∀ q ∈ u_ws RX1 TX1 3, q ∈ wsX5_init := by decide +kernel
theorem inX5_init3 : ∀ q ∈ u_ws RX3 TX3 5, q ∈ wsX5_init := by decide +kernel
theorem inX5_init4 : ∀ q ∈ u_ws RX4 TX4 2, q ∈ wsX5_init := by decide +kernel
theorem ownX5 : ∀ k9, k9 < 6 → (TX5 k9).1 = RX5 := by decide
theorem lkX5_init_0 : Cond.fieldLink RX5 10 (TX5 0).1 (TX5 0).2.1 (TX5 0).2.2.1 ∈ wsX5_init := by decide +kernel
theorem lkX5_init_1 : Cond.fieldLink RX5 19 (TX5 1).1 (TX5 1).2.1 (TX5 1).2.2.1 ∈ wsX5_init := by decide +kernel
theorem lkX5_init_2 : Cond.fieldLink RX5 23 (TX5 2).1 (TX5 2).2.1 (TX5 2).2.2.1 ∈ wsX5_init := by decide +kernel
theorem lkX5_init_3 : Cond.fieldLink RX5 27 (TX5 3).1 (TX5 3).2.1 (TX5 3).2.2.1 ∈ wsX5_init := by decide +kernel
theorem lkX5_init_4 : Cond.fieldLink RX5 34 (TX5 4).1 (TX5 4).2.1 (TX5 4).2.2.1 ∈ wsX5_init := by decide +kernel
theorem lkX5_init_5 : Cond.fieldLink RX5 41 (TX5 5).1 (TX5 5).2.1 (TX5 5).2.2.1 ∈ wsX5_init := by decide +kernel
theorem woX5_1 : Cond.methodLink RX5 1 objectInit ∈ wsX5_init := by decide +kernel
theorem woX5_2 : Cond.instanceMethod objectInit ∈ wsX5_init := by decide +kernel
theorem woX5_3 : Cond.code objectInit ⟨#[0xb1]⟩ 1 none ∈ wsX5_init := by decide +kernel
theorem woX5_ac : Cond.arrayClass .char ∈ wsX5_init := by decide +kernel
theorem woX5_X3c : Cond.classLink RX5 7 RX3 ∈ wsX5_init := by decide +kernel
theorem woX5_X3i : Cond.instantiable RX3 5 ∈ wsX5_init := by decide +kernel
theorem woX5_X3n : Cond.initialized RX3 ∈ wsX5_init := by decide +kernel
theorem woX5_X3l : Cond.methodLink RX5 9 yX3_init ∈ wsX5_init := by decide +kernel
theorem woX5_X3m : Cond.instanceMethod yX3_init ∈ wsX5_init := by decide +kernel
theorem woX5_X1c : Cond.classLink RX5 16 RX1 ∈ wsX5_init := by decide +kernel
theorem woX5_X1i : Cond.instantiable RX1 3 ∈ wsX5_init := by decide +kernel
theorem woX5_X1n : Cond.initialized RX1 ∈ wsX5_init := by decide +kernel
theorem woX5_X1l : Cond.methodLink RX5 18 yX1_init ∈ wsX5_init := by decide +kernel
theorem woX5_X1m : Cond.instanceMethod yX1_init ∈ wsX5_init := by decide +kernel
theorem woX5_X4c : Cond.classLink RX5 31 RX4 ∈ wsX5_init := by decide +kernel
theorem woX5_X4i : Cond.instantiable RX4 2 ∈ wsX5_init := by decide +kernel
theorem woX5_X4n : Cond.initialized RX4 ∈ wsX5_init := by decide +kernel
theorem woX5_X4m : Cond.instanceMethod yX4_init ∈ wsX5_init := by decide +kernel
theorem woX5_X0c : Cond.classLink RX5 38 RX0 ∈ wsX5_init := by decide +kernel
theorem woX5_X0i : Cond.instantiable RX0 11 ∈ wsX5_init := by decide +kernel
theorem woX5_X0n : Cond.initialized RX0 ∈ wsX5_init := by decide +kernel
theorem woX5_X0m : Cond.instanceMethod yX0_init ∈ wsX5_init := by decide +kernel
theorem dfX1 : ∀ j, j < 3 → defaultValue (tyX1 j) = vp_V [.null, .int 0, .int 0] j := fun j hj => by rcases (show j = 0 ∨ j = 1 ∨ j = 2 by omega) with rfl | rfl | rfl <;> rfl
theorem dfX4 : ∀ j, j < 2 → defaultValue (tyX4 j) = vp_V [.null, .int 0] j := fun j hj => by rcases (show j = 0 ∨ j = 1 by omega) with rfl | rfl <;> rfl
theorem dfX0 : ∀ j, j < 11 → defaultValue (tyX0 j) = vp_V [.int 0, .int 0, .int 0, .int 0, .int 0, .int 0, .int 0, .int 0, .int 0, .int 0, .int 0] j := fun j hj => by rcases (show j = 0 ∨ j = 1 ∨ j = 2 ∨ j = 3 ∨ j = 4 ∨ j = 5 ∨ j = 6 ∨ j = 7 ∨ j = 8 ∨ j = 9 ∨ j = 10 by omega) with rfl | rfl | rfl | rfl | rfl | rfl | rfl | rfl | rfl | rfl | rfl <;> rfl
theorem dfX5 : ∀ j, j < 6 → defaultValue (tyX5 j) = vp_V [.null, .null, .null, .int 0, .null, .null] j := fun j hj => by rcases (show j = 0 ∨ j = 1 ∨ j = 2 ∨ j = 3 ∨ j = 4 ∨ j = 5 by omega) with rfl | rfl | rfl | rfl | rfl | rfl <;> rfl
theorem room5X3 : rmX3_init.frames + 1 ≤ rmX5_init.frames ∧ 8 + (3 + 11) + rmX3_init.locals ≤ rmX5_init.locals := by decide
theorem room5X1 : rmX1_init.frames + 1 ≤ rmX5_init.frames ∧ 8 + (2 + 11) + rmX1_init.locals ≤ rmX5_init.locals := by decide
theorem room5X4 : rmX4_init.frames + 1 ≤ rmX5_init.frames ∧ 8 + (1 + 11) + rmX4_init.locals ≤ rmX5_init.locals := by decide
theorem room5X0 : rmX0_init.frames + 1 ≤ rmX5_init.frames ∧ 8 + (1 + 11) + rmX0_init.locals ≤ rmX5_init.locals := by decide
set_option maxHeartbeats 4000000 in
set_option maxRecDepth 100000 in
theorem c_X5_init (l : Launch) (D : va_G) (cA : Nat → ClassId) (x : Nat) : ∀ sz, Met l yX5_init wsX5_init rmX5_init (va_Pc [.ref x] (OKN D (tysX cA) (oX5 x) sz)) (va_Qv (fun _ => True) (fun u t => OKX D (tysX cA) (W5 cA x u) (va_A (oX5 x) sz) t) (va_A (oX5 x) sz)) 101 681 (va_A (oX5 x) sz) := by
  refine g_metI (Qc := fun sz => va_Qv (fun _ => True) (fun u t => OKX D (tysX cA) (W5 cA x u) (va_A (oX5 x) sz) t) (va_A (oX5 x) sz)) (own := RX5) (by decide) rfl rfl rfl (Nat.le_of_ble_eq_true rfl) (fun p e s m below meth c C hrt hlk hin hO hA => ?_)
  refine g_sub (lv2 := [(0, .ref x)]) [0] rfl ?_
  refine g_aload_n C 0 dX5_init_0 rfl rfl ?_
  refine g_objInit C woX5_1 woX5_2 woX5_3 (by decide) (by decide) dX5_init_1 ?_
  refine g_aload_n C 0 dX5_init_4 rfl rfl ?_
  refine g_new C hA inX5_init3 tyX3 tyX3_ok woX5_X3c woX5_X3i woX5_X3n (ci := 2) rfl [.null, .null, .int 0, .int 0, .int 0] dfX3 (by decide) (by decide) dX5_init_5 (fun n => ?_)
  refine g_dup C dX5_init_8 rfl ?_
  refine g_callI (wc := oSt n) C hO hA (c_X3_init l D cA n) gX5_init_X3_init rfl rfl rfl woX5_X3n woX5_X3l woX5_X3m rfl (by decide +kernel) room5X3 (Nat.le_of_ble_eq_true rfl) (by decide) dX5_init_9 (fun un _ => ?_)
  refine g_putF C hin ownX5 inX5_init tyX5 tyX5_ok nmX5 0 (fs := [.null, .null, .null, .int 0, .null, .null]) (w2 := b5 x (.ref n) .null .null .null .null ++ Wst cA n un) rfl rfl 0 (by decide) lkX5_init_0 rfl rfl rfl (Nat.le_of_ble_eq_true rfl) rfl dX5_init_12 ?_
  refine g_aload_n C 0 dX5_init_15 rfl rfl ?_
  refine g_new C hA inX5_init1 tyX1 tyX1_ok woX5_X1c woX5_X1i woX5_X1n (ci := 1) rfl [.null, .int 0, .int 0] dfX1 (by decide) (by decide) dX5_init_16 (fun h => ?_)
  refine g_dup C dX5_init_19 rfl ?_
  refine g_callI (wc := oHi h) C hO hA (c_X1_init l D cA h) gX5_init_X1_init rfl rfl rfl woX5_X1n woX5_X1l woX5_X1m rfl (by decide +kernel) room5X1 (Nat.le_of_ble_eq_true rfl) (by decide) dX5_init_20 (fun uh _ => ?_)
  refine g_putF C hin ownX5 inX5_init tyX5 tyX5_ok nmX5 0 (fs := [.ref n, .null, .null, .int 0, .null, .null]) (w2 := (b5 x (.ref n) (.ref h) .null .null .null ++ Wst cA n un) ++ WHs cA h uh) rfl rfl 1 (by decide) lkX5_init_1 rfl rfl rfl (Nat.le_of_ble_eq_true rfl) rfl dX5_init_23 ?_
  refine g_aload_n C 0 dX5_init_26 rfl rfl ?_
  refine g_bipush C (20 : Int32) dX5_init_27 (by decide) ?_
  refine g_newa C hA (atype := .char) woX5_ac rfl 0 (cB := cA 0) rfl 20 (20, .inl (fun _ => 0)) (fun _ => rfl) (by decide) (by decide) (by decide) (by decide) (by decide) dX5_init_29 (fun t => ?_)
  refine g_putF C hin ownX5 inX5_init tyX5 tyX5_ok nmX5 0 (fs := [.ref n, .ref h, .null, .int 0, .null, .null]) (w2 := ((b5 x (.ref n) (.ref h) (.ref t) .null .null ++ Wst cA n un) ++ WHs cA h uh) ++ [(t, .inl (cA 0, 20, .inl (fun _ => 0)))]) rfl rfl 2 (by decide) lkX5_init_2 rfl rfl rfl (Nat.le_of_ble_eq_true rfl) rfl dX5_init_31 ?_
  refine g_aload_n C 0 dX5_init_34 rfl rfl ?_
  refine g_iconst C (0 : Int32) dX5_init_35 (by decide) ?_
  refine g_put C inX5_init tyX5 tyX5_ok nmX5 0 (fs := [.ref n, .ref h, .ref t, .int 0, .null, .null]) (w2 := ((b5 x (.ref n) (.ref h) (.ref t) .null .null ++ Wst cA n un) ++ WHs cA h uh) ++ [(t, .inl (cA 0, 20, .inl (fun _ => 0)))]) rfl rfl 3 (by decide) lkX5_init_3 rfl rfl rfl (Nat.le_of_ble_eq_true rfl) rfl dX5_init_36 ?_
  refine g_aload_n C 0 dX5_init_39 rfl rfl ?_
  refine g_new C hA inX5_init4 tyX4 tyX4_ok woX5_X4c woX5_X4i woX5_X4n (ci := 3) rfl [.null, .int 0] dfX4 (by decide) (by decide) dX5_init_40 (fun y => ?_)
  refine g_dup C dX5_init_43 rfl ?_
  refine g_callIN (wc := oWa y) C hO hA (c_X4_init l D cA y) gX5_init_X4_init_n33 rfl rfl rfl woX5_X4n hO.2.2.1 woX5_X4m rfl (by decide +kernel) room5X4 (Nat.le_of_ble_eq_true rfl) (by decide) dX5_init_44 (fun yq _ => ?_)
  refine g_putF C hin ownX5 inX5_init tyX5 tyX5_ok nmX5 0 (fs := [.ref n, .ref h, .ref t, .int 0, .null, .null]) (w2 := (((b5 x (.ref n) (.ref h) (.ref t) (.ref y) .null ++ Wst cA n un) ++ WHs cA h uh) ++ [(t, .inl (cA 0, 20, .inl (fun _ => 0)))]) ++ WWa cA y yq) rfl rfl 4 (by decide) lkX5_init_4 rfl rfl rfl (Nat.le_of_ble_eq_true rfl) rfl dX5_init_47 ?_
  refine g_aload_n C 0 dX5_init_50 rfl rfl ?_
  refine g_new C hA inX5_init0 tyX0 tyX0_ok woX5_X0c woX5_X0i woX5_X0n (ci := 0) rfl [.int 0, .int 0, .int 0, .int 0, .int 0, .int 0, .int 0, .int 0, .int 0, .int 0, .int 0] dfX0 (by decide) (by decide) dX5_init_51 (fun ea => ?_)
  refine g_dup C dX5_init_54 rfl ?_
  refine g_callIN (wc := oEa ea) C hO hA (c_X0_init l D cA ea) gX5_init_X0_init_n40 rfl rfl rfl woX5_X0n hO.2.2.2 woX5_X0m rfl (by decide +kernel) room5X0 (Nat.le_of_ble_eq_true rfl) (by decide) dX5_init_55 (fun _ _ => ?_)
  refine g_putF C hin ownX5 inX5_init tyX5 tyX5_ok nmX5 0 (fs := [.ref n, .ref h, .ref t, .int 0, .ref y, .null]) (w2 := W5 cA x (n, un, h, uh, t, y, yq, ea)) rfl rfl 5 (by decide) lkX5_init_5 rfl rfl rfl (Nat.le_of_ble_eq_true rfl) rfl dX5_init_58 ?_
  exact g_vretN (Wu := W5 cA x) (kc := 101) (ks := 681) C hrt hlk (n, un, h, uh, t, y, yq, ea) rfl trivial dX5_init_61
end INK
