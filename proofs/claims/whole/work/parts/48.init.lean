section INK
variable {p : Program} {l : Launch} {e : Env} {R : Room} {s : State} {m : MethodId} {args : Array Value} {below : List Frame} {meth : Method} {c : Code} {Q : State → Prop}
variable {D : va_G} {A : Nat → Prop} {kc ks : Nat} {cA : Nat → ClassId}
/-- ScoreNumbers() -/
abbrev rmX5_init : Room := { frames := 3, cells := 101, slots := 681, locals := 55 }
abbrev oX5 (x : Nat) : va_W := [(x, .inr (4, [.null, .null, .null, .int 0, .null, .null]))]
abbrev U5 : Type := Nat × (Nat × Nat × (Nat → Nat) × (Nat → Nat)) × Nat × UH × Nat × Nat × Nat × Nat
abbrev b5 (x : Nat) (v0 v1 v2 v4 v5 : Value) : va_W := [(x, .inr (4, [v0, v1, v2, .int 0, v4, v5]))]
abbrev W5 (cA : Nat → ClassId) (x : Nat) (u : U5) : va_W := ((((b5 x (.ref u.1) (.ref u.2.2.1) (.ref u.2.2.2.2.1) (.ref u.2.2.2.2.2.1) (.ref u.2.2.2.2.2.2.2) ++ Wst cA u.1 u.2.1) ++ WHs cA u.2.2.1 u.2.2.2.1) ++ [(u.2.2.2.2.1, .inl (cA 0, 20, .inl (fun _ => 0)))]) ++ WWa cA u.2.2.2.2.2.1 u.2.2.2.2.2.2.1) ++ oEa u.2.2.2.2.2.2.2
theorem inX5_init : ∀ q ∈ u_ws RX5 TX5 6, q ∈ wsX5_init := by decide +kernel
theorem inX5_init0 : ∀ q ∈ u_ws RX0 TX0 11, q ∈ wsX5_init := by decide +kernel
theorem inX5_init1 : ∀ q ∈ u_ws RX1 TX1 3, q ∈ wsX5_init := by decide +kernel
theorem inX5_init3 : ∀ q ∈ u_ws RX3 TX3 5, q ∈ wsX5_init := by decide +kernel
theorem inX5_init4 : ∀ q ∈ u_ws RX4 TX4 2, q ∈ wsX5_init := by decide +kernel
theorem ownX5 : ∀ k9, k9 < 6 → (TX5 k9).1 = RX5 := by decide
theorem lkX5_init_0 : Cond.fieldLink RX5 10 (TX5 0).1 (TX5 0).2.1 (TX5 0).2.2.1 ∈ wsX5_init := by decide +kernel
theorem lkX5_init_1 : Cond.fieldLink RX5 19 (TX5 1).1 (TX5 1).2.1 (TX5 1).2.2.1 ∈ wsX5_init := by decide +kernel
theorem lkX5_init_2 : Cond.fieldLink RX5 23 (TX5 2).1 (TX5 2).2.1 (TX5 2).2.2.1 ∈ wsX5_init := by decide +kernel
theorem lkX5_init_3 : Cond.fieldLink RX5 27 (TX5 3).1 (TX5 3).2.1 (TX5 3).2.2.1 ∈ wsX5_init := by decide +kernel
theorem lkX5_init_4 : Cond.fieldLink RX5 34 (TX5 4).1 (TX5 4).2.1 (TX5 4).2.2.1 ∈ wsX5_init := by decide +kernel
theorem lkX5_init_5 : Cond.fieldLink RX5 41 (TX5 5).1 (TX5 5).2.1 (TX5 5).2.2.1 ∈ wsX5_init := by decide +kernel
theorem woX5_1 : Cond.methodLink RX5 1 objectInit ∈ wsX5_init := by decide +kernel
theorem woX5_2 : Cond.instanceMethod objectInit ∈ wsX5_init := by decide +kernel
theorem woX5_3 : Cond.code objectInit ⟨#[0xb1]⟩ 1 none ∈ wsX5_init := by decide +kernel
theorem woX5_ac : Cond.arrayClass .char ∈ wsX5_init := by decide +kernel
theorem woX5_X3c : Cond.classLink RX5 7 RX3 ∈ wsX5_init := by decide +kernel
theorem woX5_X3i : Cond.instantiable RX3 5 ∈ wsX5_init := by decide +kernel
theorem woX5_X3n : Cond.initialized RX3 ∈ wsX5_init := by decide +kernel
theorem woX5_X3l : Cond.methodLink RX5 9 yX3_init ∈ wsX5_init := by decide +kernel
theorem woX5_X3m : Cond.instanceMethod yX3_init ∈ wsX5_init := by decide +kernel
theorem woX5_X1c : Cond.classLink RX5 16 RX1 ∈ wsX5_init := by decide +kernel
theorem woX5_X1i : Cond.instantiable RX1 3 ∈ wsX5_init := by decide +kernel
theorem woX5_X1n : Cond.initialized RX1 ∈ wsX5_init := by decide +kernel
theorem woX5_X1l : Cond.methodLink RX5 18 yX1_init ∈ wsX5_init := by decide +kernel
theorem woX5_X1m : Cond.instanceMethod yX1_init ∈ wsX5_init := by decide +kernel
theorem woX5_X4c : Cond.classLink RX5 31 RX4 ∈ wsX5_init := by decide +kernel
theorem woX5_X4i : Cond.instantiable RX4 2 ∈ wsX5_init := by decide +kernel
theorem woX5_X4n : Cond.initialized RX4 ∈ wsX5_init := by decide +kernel
theorem woX5_X4m : Cond.instanceMethod yX4_init ∈ wsX5_init := by decide +kernel
theorem woX5_X0c : Cond.classLink RX5 38 RX0 ∈ wsX5_init := by decide +kernel
theorem woX5_X0i : Cond.instantiable RX0 11 ∈ wsX5_init := by decide +kernel
theorem woX5_X0n : Cond.initialized RX0 ∈ wsX5_init := by decide +kernel
theorem woX5_X0m : Cond.instanceMethod yX0_init ∈ wsX5_init := by decide +kernel
theorem dfX1 : ∀ j, j < 3 → defaultValue (tyX1 j) = vp_V [.null, .int 0, .int 0] j := fun j hj => by rcases (show j = 0 ∨ j = 1 ∨ j = 2 by omega) with rfl | rfl | rfl <;> rfl
theorem dfX4 : ∀ j, j < 2 → defaultValue (tyX4 j) = vp_V [.null, .int 0] j := fun j hj => by rcases (show j = 0 ∨ j = 1 by omega) with rfl | rfl <;> rfl
theorem dfX0 : ∀ j, j < 11 → defaultValue (tyX0 j) = vp_V [.int 0, .int 0, .int 0, .int 0, .int 0, .int 0, .int 0, .int 0, .int 0, .int 0, .int 0] j := fun j hj => by rcases (show j = 0 ∨ j = 1 ∨ j = 2 ∨ j = 3 ∨ j = 4 ∨ j = 5 ∨ j = 6 ∨ j = 7 ∨ j = 8 ∨ j = 9 ∨ j = 10 by omega) with rfl | rfl | rfl | rfl | rfl | rfl | rfl | rfl | rfl | rfl | rfl <;> rfl
theorem dfX5 : ∀ j, j < 6 → defaultValue (tyX5 j) = vp_V [.null, .null, .null, .int 0, .null, .null] j := fun j hj => by rcases (show j = 0 ∨ j = 1 ∨ j = 2 ∨ j = 3 ∨ j = 4 ∨ j = 5 by omega) with rfl | rfl | rfl | rfl | rfl | rfl <;> rfl
theorem dfX6 : ∀ j, j < 18 → defaultValue (tyX6 j) = vp_V [.null, .null, .null, .null, .null, .null, .null, .int 0, .int 0, .int 0, .int 0, .int 0, .int 0, .int 0, .int 0, .int 0, .int 0, .int 0] j := fun j hj => by rcases (show j = 0 ∨ j = 1 ∨ j = 2 ∨ j = 3 ∨ j = 4 ∨ j = 5 ∨ j = 6 ∨ j = 7 ∨ j = 8 ∨ j = 9 ∨ j = 10 ∨ j = 11 ∨ j = 12 ∨ j = 13 ∨ j = 14 ∨ j = 15 ∨ j = 16 ∨ j = 17 by omega) with rfl | rfl | rfl | rfl | rfl | rfl | rfl | rfl | rfl | rfl | rfl | rfl | rfl | rfl | rfl | rfl | rfl | rfl <;> rfl
theorem room5X3 : rmX3_init.frames + 1 ≤ rmX5_init.frames ∧ 8 + (3 + 11) + rmX3_init.locals ≤ rmX5_init.locals := by decide
theorem room5X1 : rmX1_init.frames + 1 ≤ rmX5_init.frames ∧ 8 + (2 + 11) + rmX1_init.locals ≤ rmX5_init.locals := by decide
theorem room5X4 : rmX4_init.frames + 1 ≤ rmX5_init.frames ∧ 8 + (1 + 11) + rmX4_init.locals ≤ rmX5_init.locals := by decide
theorem room5X0 : rmX0_init.frames + 1 ≤ rmX5_init.frames ∧ 8 + (1 + 11) + rmX0_init.locals ≤ rmX5_init.locals := by decide
set_option maxHeartbeats 4000000 in
set_option maxRecDepth 100000 in
theorem c_X5_init (l : Launch) (D : va_G) (cA : Nat → ClassId) (x : Nat) : ∀ sz, Met l yX5_init wsX5_init rmX5_init (va_Pc [.ref x] (OKN D (tysX cA) (oX5 x) sz)) (va_Qv (fun _ => True) (fun u t => OKX D (tysX cA) (W5 cA x u) (va_A (oX5 x) sz) t) (va_A (oX5 x) sz)) 101 681 (va_A (oX5 x) sz) := by
  refine g_metI (Qc := fun sz => va_Qv (fun _ => True) (fun u t => OKX D (tysX cA) (W5 cA x u) (va_A (oX5 x) sz) t) (va_A (oX5 x) sz)) (own := RX5) (by decide) rfl rfl rfl (Nat.le_of_ble_eq_true rfl) (fun p e s m below meth c C hrt hlk hin hO hA => ?_)
  refine g_sub (lv2 := [(0, .ref x)]) [0] rfl ?_
  refine g_aload_n C 0 dX5_init_0 rfl rfl ?_
  refine g_objInit C woX5_1 woX5_2 woX5_3 (by decide) (by decide) dX5_init_1 ?_
  refine g_aload_n C 0 dX5_init_4 rfl rfl ?_
  refine g_new C hA inX5_init3 tyX3 tyX3_ok woX5_X3c woX5_X3i woX5_X3n (ci := 2) rfl [.null, .null, .int 0, .int 0, .int 0] dfX3 (by decide) (by decide) dX5_init_5 (fun n => ?_)
  refine g_dup C dX5_init_8 rfl ?_
  refine g_callI (wc := oSt n) C hO hA (c_X3_init l D cA n) gX5_init_X3_init rfl rfl rfl woX5_X3n woX5_X3l woX5_X3m rfl (by decide +kernel) room5X3 (Nat.le_of_ble_eq_true rfl) (by decide) dX5_init_9 (fun un _ => ?_)
  refine g_putF C hin ownX5 inX5_init tyX5 tyX5_ok nmX5 0 (fs := [.null, .null, .null, .int 0, .null, .null]) (w2 := b5 x (.ref n) .null .null .null .null ++ Wst cA n un) rfl rfl 0 (by decide) lkX5_init_0 rfl rfl rfl (Nat.le_of_ble_eq_true rfl) rfl dX5_init_12 ?_
  refine g_aload_n C 0 dX5_init_15 rfl rfl ?_
  refine g_new C hA inX5_init1 tyX1 tyX1_ok woX5_X1c woX5_X1i woX5_X1n (ci := 1) rfl [.null, .int 0, .int 0] dfX1 (by decide) (by decide) dX5_init_16 (fun h => ?_)
  refine g_dup C dX5_init_19 rfl ?_
  refine g_callI (wc := oHi h) C hO hA (c_X1_init l D cA h) gX5_init_X1_init rfl rfl rfl woX5_X1n woX5_X1l woX5_X1m rfl (by decide +kernel) room5X1 (Nat.le_of_ble_eq_true rfl) (by decide) dX5_init_20 (fun uh _ => ?_)
  refine g_putF C hin ownX5 inX5_init tyX5 tyX5_ok nmX5 0 (fs := [.ref n, .null, .null, .int 0, .null, .null]) (w2 := (b5 x (.ref n) (.ref h) .null .null .null ++ Wst cA n un) ++ WHs cA h uh) rfl rfl 1 (by decide) lkX5_init_1 rfl rfl rfl (Nat.le_of_ble_eq_true rfl) rfl dX5_init_23 ?_
  refine g_aload_n C 0 dX5_init_26 rfl rfl ?_
  refine g_bipush C (20 : Int32) dX5_init_27 (by decide) ?_
  refine g_newa C hA (atype := .char) woX5_ac rfl 0 (cB := cA 0) rfl 20 (20, .inl (fun _ => 0)) (fun _ => rfl) (by decide) (by decide) (by decide) (by decide) (by decide) dX5_init_29 (fun t => ?_)
  refine g_putF C hin ownX5 inX5_init tyX5 tyX5_ok nmX5 0 (fs := [.ref n, .ref h, .null, .int 0, .null, .null]) (w2 := ((b5 x (.ref n) (.ref h) (.ref t) .null .null ++ Wst cA n un) ++ WHs cA h uh) ++ [(t, .inl (cA 0, 20, .inl (fun _ => 0)))]) rfl rfl 2 (by decide) lkX5_init_2 rfl rfl rfl (Nat.le_of_ble_eq_true rfl) rfl dX5_init_31 ?_
  refine g_aload_n C 0 dX5_init_34 rfl rfl ?_
  refine g_iconst C (0 : Int32) dX5_init_35 (by decide) ?_
  refine g_put C inX5_init tyX5 tyX5_ok nmX5 0 (fs := [.ref n, .ref h, .ref t, .int 0, .null, .null]) (w2 := ((b5 x (.ref n) (.ref h) (.ref t) .null .null ++ Wst cA n un) ++ WHs cA h uh) ++ [(t, .inl (cA 0, 20, .inl (fun _ => 0)))]) rfl rfl 3 (by decide) lkX5_init_3 rfl rfl rfl (Nat.le_of_ble_eq_true rfl) rfl dX5_init_36 ?_
  refine g_aload_n C 0 dX5_init_39 rfl rfl ?_
  refine g_new C hA inX5_init4 tyX4 tyX4_ok woX5_X4c woX5_X4i woX5_X4n (ci := 3) rfl [.null, .int 0] dfX4 (by decide) (by decide) dX5_init_40 (fun y => ?_)
  refine g_dup C dX5_init_43 rfl ?_
  refine g_callIN (wc := oWa y) C hO hA (c_X4_init l D cA y) gX5_init_X4_init_n33 rfl rfl rfl woX5_X4n hO.2.2.1 woX5_X4m rfl (by decide +kernel) room5X4 (Nat.le_of_ble_eq_true rfl) (by decide) dX5_init_44 (fun yq _ => ?_)
  refine g_putF C hin ownX5 inX5_init tyX5 tyX5_ok nmX5 0 (fs := [.ref n, .ref h, .ref t, .int 0, .null, .null]) (w2 := (((b5 x (.ref n) (.ref h) (.ref t) (.ref y) .null ++ Wst cA n un) ++ WHs cA h uh) ++ [(t, .inl (cA 0, 20, .inl (fun _ => 0)))]) ++ WWa cA y yq) rfl rfl 4 (by decide) lkX5_init_4 rfl rfl rfl (Nat.le_of_ble_eq_true rfl) rfl dX5_init_47 ?_
  refine g_aload_n C 0 dX5_init_50 rfl rfl ?_
  refine g_new C hA inX5_init0 tyX0 tyX0_ok woX5_X0c woX5_X0i woX5_X0n (ci := 0) rfl [.int 0, .int 0, .int 0, .int 0, .int 0, .int 0, .int 0, .int 0, .int 0, .int 0, .int 0] dfX0 (by decide) (by decide) dX5_init_51 (fun ea => ?_)
  refine g_dup C dX5_init_54 rfl ?_
  refine g_callIN (wc := oEa ea) C hO hA (c_X0_init l D cA ea) gX5_init_X0_init_n40 rfl rfl rfl woX5_X0n hO.2.2.2 woX5_X0m rfl (by decide +kernel) room5X0 (Nat.le_of_ble_eq_true rfl) (by decide) dX5_init_55 (fun _ _ => ?_)
  refine g_putF C hin ownX5 inX5_init tyX5 tyX5_ok nmX5 0 (fs := [.ref n, .ref h, .ref t, .int 0, .ref y, .null]) (w2 := W5 cA x (n, un, h, uh, t, y, yq, ea)) rfl rfl 5 (by decide) lkX5_init_5 rfl rfl rfl (Nat.le_of_ble_eq_true rfl) rfl dX5_init_58 ?_
  exact g_vretN (Wu := W5 cA x) (kc := 101) (ks := 681) C hrt hlk (n, un, h, uh, t, y, yq, ea) rfl trivial dX5_init_61
/-- ScoreNumbersModel() -/
abbrev rmX6_init : Room := { frames := 1, cells := 7, slots := 762, locals := 12 }
abbrev oX6 (x : Nat) : va_W := [(x, .inr (5, [.null, .null, .null, .null, .null, .null, .null, .int 0, .int 0, .int 0, .int 0, .int 0, .int 0, .int 0, .int 0, .int 0, .int 0, .int 0]))]
theorem inX6_init : ∀ q ∈ u_ws RX6 TX6 18, q ∈ wsX6_init := by decide +kernel
theorem ownX6 : ∀ k9, k9 < 18 → (TX6 k9).1 = RX6 := by decide
theorem lkX6_init_0 : Cond.fieldLink RX6 7 (TX6 0).1 (TX6 0).2.1 (TX6 0).2.2.1 ∈ wsX6_init := by decide +kernel
theorem lkX6_init_1 : Cond.fieldLink RX6 13 (TX6 1).1 (TX6 1).2.1 (TX6 1).2.2.1 ∈ wsX6_init := by decide +kernel
theorem lkX6_init_2 : Cond.fieldLink RX6 16 (TX6 2).1 (TX6 2).2.1 (TX6 2).2.2.1 ∈ wsX6_init := by decide +kernel
theorem lkX6_init_3 : Cond.fieldLink RX6 20 (TX6 3).1 (TX6 3).2.1 (TX6 3).2.2.1 ∈ wsX6_init := by decide +kernel
theorem lkX6_init_4 : Cond.fieldLink RX6 23 (TX6 4).1 (TX6 4).2.1 (TX6 4).2.2.1 ∈ wsX6_init := by decide +kernel
theorem lkX6_init_5 : Cond.fieldLink RX6 26 (TX6 5).1 (TX6 5).2.1 (TX6 5).2.2.1 ∈ wsX6_init := by decide +kernel
theorem lkX6_init_6 : Cond.fieldLink RX6 29 (TX6 6).1 (TX6 6).2.1 (TX6 6).2.2.1 ∈ wsX6_init := by decide +kernel
theorem woX6_1 : Cond.methodLink RX6 1 objectInit ∈ wsX6_init := by decide +kernel
theorem woX6_2 : Cond.instanceMethod objectInit ∈ wsX6_init := by decide +kernel
theorem woX6_3 : Cond.code objectInit ⟨#[0xb1]⟩ 1 none ∈ wsX6_init := by decide +kernel
theorem woX6_int : Cond.arrayClass .int ∈ wsX6_init := by decide +kernel
theorem woX6_char : Cond.arrayClass .char ∈ wsX6_init := by decide +kernel
abbrev adM (x : Nat) (u : Nat × Nat × Nat × Nat × Nat × Nat × Nat) : Nat → Nat := fun k => [x, u.1, u.2.1, u.2.2.1, u.2.2.2.1, u.2.2.2.2.1, u.2.2.2.2.2.1, u.2.2.2.2.2.2].getD k 0
abbrev zF : Nat → Int32 := fun _ => 0
def W6 (cA : Nat → ClassId) (x : Nat) (f : Nat → Int32) (u : Nat × Nat × Nat × Nat × Nat × Nat × Nat) : va_W := WM (adM x u) cA f zF zF zF zF zF zF 0 0 0 0 0 0 0 0 0 0 0
abbrev row6 (f : Nat → Int32) (iv : Int32) : Nat → Int32 := upd (upd (upd (upd f ((9 : Int32) * iv + 0).toNatClampNeg 1) ((9 : Int32) * iv + 1).toNatClampNeg 1) ((9 : Int32) * iv + 2).toNatClampNeg 1) ((9 : Int32) * iv + 6).toNatClampNeg 12
abbrev ms00 : Nat → Int32 := upd (row6 (row6 (row6 (row6 (row6 (row6 zF 0) 1) 2) 3) 4) 5) 54 2
set_option maxHeartbeats 4000000 in
set_option maxRecDepth 100000 in
theorem X6_row (C : CxX p s m args c D (tysX cA) RX6 cX6_init 2 wsX6_init) {x : Nat} {u : Nat × Nat × Nat × Nat × Nat × Nat × Nat} {f : Nat → Int32} {iv iv2 : Int32} (h1 : ¬ (6 : Int32) ≤ iv) (h2 : vp_in (9 * iv + 0) 106 ∧ vp_in (9 * iv + 1) 106 ∧ vp_in (9 * iv + 2) 106 ∧ vp_in (9 * iv + 6) 106) (h5 : iv + Int32.ofInt 1 = iv2)
    (K : GoX p l e R s m args below meth c D A 2 kc ks Q 64 [(1, .int iv2), (0, .ref x)] [] (W6 cA x (row6 f iv) u)) : GoX p l e R s m args below meth c D A 2 kc ks Q 64 [(1, .int iv), (0, .ref x)] [] (W6 cA x f u) := by
  refine g_iload_n C 0 dX6_init_64 rfl rfl ?_
  refine g_bipush C (6 : Int32) dX6_init_65 (by decide) ?_
  refine g_icmp_ge C 126 dX6_init_67 (by decide) (fun q => absurd q h1) (fun _ => ?_)
  refine g_aload_n C 1 dX6_init_70 rfl rfl ?_
  refine g_get C inX6_init 0 (a := x) (fs := [.ref u.1, .ref u.2.1, .ref u.2.2.1, .ref u.2.2.2.1, .ref u.2.2.2.2.1, .ref u.2.2.2.2.2.1, .ref u.2.2.2.2.2.2, .int 0, .int 0, .int 0, .int 0, .int 0, .int 0, .int 0, .int 0, .int 0, .int 0, .int 0]) rfl rfl 0 (by decide) lkX6_init_0 rfl dX6_init_71 ?_
  refine g_bipush C (9 : Int32) dX6_init_74 (by decide) ?_
  refine g_iload_n C 0 dX6_init_76 rfl rfl ?_
  refine g_imul C dX6_init_77 ?_
  refine g_iconst C (0 : Int32) dX6_init_78 (by decide) ?_
  refine g_iadd C dX6_init_79 ?_
  refine g_iconst C (1 : Int32) dX6_init_80 (by decide) ?_
  refine g_iast C 1 1 (cA := cA 1) (n := 106) (f := f) rfl rfl h2.1 (w2 := W6 cA x (upd f ((9 : Int32) * iv + 0).toNatClampNeg 1) u) rfl dX6_init_81 ?_
  refine g_aload_n C 1 dX6_init_82 rfl rfl ?_
  refine g_get C inX6_init 0 (a := x) (fs := [.ref u.1, .ref u.2.1, .ref u.2.2.1, .ref u.2.2.2.1, .ref u.2.2.2.2.1, .ref u.2.2.2.2.2.1, .ref u.2.2.2.2.2.2, .int 0, .int 0, .int 0, .int 0, .int 0, .int 0, .int 0, .int 0, .int 0, .int 0, .int 0]) rfl rfl 0 (by decide) lkX6_init_0 rfl dX6_init_83 ?_
  refine g_bipush C (9 : Int32) dX6_init_86 (by decide) ?_
  refine g_iload_n C 0 dX6_init_88 rfl rfl ?_
  refine g_imul C dX6_init_89 ?_
  refine g_iconst C (1 : Int32) dX6_init_90 (by decide) ?_
  refine g_iadd C dX6_init_91 ?_
  refine g_iconst C (1 : Int32) dX6_init_92 (by decide) ?_
  refine g_iast C 1 1 (cA := cA 1) (n := 106) (f := (upd f ((9 : Int32) * iv + 0).toNatClampNeg 1)) rfl rfl h2.2.1 (w2 := W6 cA x (upd (upd f ((9 : Int32) * iv + 0).toNatClampNeg 1) ((9 : Int32) * iv + 1).toNatClampNeg 1) u) rfl dX6_init_93 ?_
  refine g_aload_n C 1 dX6_init_94 rfl rfl ?_
  refine g_get C inX6_init 0 (a := x) (fs := [.ref u.1, .ref u.2.1, .ref u.2.2.1, .ref u.2.2.2.1, .ref u.2.2.2.2.1, .ref u.2.2.2.2.2.1, .ref u.2.2.2.2.2.2, .int 0, .int 0, .int 0, .int 0, .int 0, .int 0, .int 0, .int 0, .int 0, .int 0, .int 0]) rfl rfl 0 (by decide) lkX6_init_0 rfl dX6_init_95 ?_
  refine g_bipush C (9 : Int32) dX6_init_98 (by decide) ?_
  refine g_iload_n C 0 dX6_init_100 rfl rfl ?_
  refine g_imul C dX6_init_101 ?_
  refine g_iconst C (2 : Int32) dX6_init_102 (by decide) ?_
  refine g_iadd C dX6_init_103 ?_
  refine g_iconst C (1 : Int32) dX6_init_104 (by decide) ?_
  refine g_iast C 1 1 (cA := cA 1) (n := 106) (f := (upd (upd f ((9 : Int32) * iv + 0).toNatClampNeg 1) ((9 : Int32) * iv + 1).toNatClampNeg 1)) rfl rfl h2.2.2.1 (w2 := W6 cA x (upd (upd (upd f ((9 : Int32) * iv + 0).toNatClampNeg 1) ((9 : Int32) * iv + 1).toNatClampNeg 1) ((9 : Int32) * iv + 2).toNatClampNeg 1) u) rfl dX6_init_105 ?_
  refine g_aload_n C 1 dX6_init_106 rfl rfl ?_
  refine g_get C inX6_init 0 (a := x) (fs := [.ref u.1, .ref u.2.1, .ref u.2.2.1, .ref u.2.2.2.1, .ref u.2.2.2.2.1, .ref u.2.2.2.2.2.1, .ref u.2.2.2.2.2.2, .int 0, .int 0, .int 0, .int 0, .int 0, .int 0, .int 0, .int 0, .int 0, .int 0, .int 0]) rfl rfl 0 (by decide) lkX6_init_0 rfl dX6_init_107 ?_
  refine g_bipush C (9 : Int32) dX6_init_110 (by decide) ?_
  refine g_iload_n C 0 dX6_init_112 rfl rfl ?_
  refine g_imul C dX6_init_113 ?_
  refine g_bipush C (6 : Int32) dX6_init_114 (by decide) ?_
  refine g_iadd C dX6_init_116 ?_
  refine g_bipush C (12 : Int32) dX6_init_117 (by decide) ?_
  refine g_iast C 1 1 (cA := cA 1) (n := 106) (f := (upd (upd (upd f ((9 : Int32) * iv + 0).toNatClampNeg 1) ((9 : Int32) * iv + 1).toNatClampNeg 1) ((9 : Int32) * iv + 2).toNatClampNeg 1)) rfl rfl h2.2.2.2 (w2 := W6 cA x (upd (upd (upd (upd f ((9 : Int32) * iv + 0).toNatClampNeg 1) ((9 : Int32) * iv + 1).toNatClampNeg 1) ((9 : Int32) * iv + 2).toNatClampNeg 1) ((9 : Int32) * iv + 6).toNatClampNeg 12) u) rfl dX6_init_119 ?_
  refine g_iinc C (v := iv2) (lv2 := [(1, .int iv2), (0, .ref x)]) 0 dX6_init_120 rfl h5 (by decide) rfl ?_
  exact g_goto C 64 dX6_init_123 (by decide) K
set_option maxHeartbeats 4000000 in
set_option maxRecDepth 100000 in
theorem c_X6_init (l : Launch) (D : va_G) (cA : Nat → ClassId) (x : Nat) : ∀ sz, Met l yX6_init wsX6_init rmX6_init (va_Pc [.ref x] (OKN D (tysX cA) (oX6 x) sz)) (va_Qv (fun _ => True) (fun u t => OKX D (tysX cA) (W6 cA x ms00 u) (va_A (oX6 x) sz) t) (va_A (oX6 x) sz)) 7 762 (va_A (oX6 x) sz) := by
  refine g_metI (Qc := fun sz => va_Qv (fun _ => True) (fun u t => OKX D (tysX cA) (W6 cA x ms00 u) (va_A (oX6 x) sz) t) (va_A (oX6 x) sz)) (own := RX6) (by decide) rfl rfl rfl (Nat.le_of_ble_eq_true rfl) (fun p e s m below meth c C hrt hlk hin hO hA => ?_)
  refine g_sub (lv2 := [(0, .ref x)]) [0] rfl ?_
  refine g_aload_n C 0 dX6_init_0 rfl rfl ?_
  refine g_objInit C woX6_1 woX6_2 woX6_3 (by decide) (by decide) dX6_init_1 ?_
  refine g_aload_n C 0 dX6_init_4 rfl rfl ?_
  refine g_bipush C (106 : Int32) dX6_init_5 (by decide) ?_
  refine g_newa C hA (atype := .int) woX6_int rfl 1 (cB := cA 1) rfl 106 (106, .inl zF) (fun _ => rfl) (by decide) (by decide) (by decide) (by decide) (by decide) dX6_init_7 (fun a1 => ?_)
  refine g_putF C hin ownX6 inX6_init tyX6 tyX6_ok nmX6 0 (fs := [.null, .null, .null, .null, .null, .null, .null, .int 0, .int 0, .int 0, .int 0, .int 0, .int 0, .int 0, .int 0, .int 0, .int 0, .int 0]) (w2 := [(x, .inr (5, [.ref a1, .null, .null, .null, .null, .null, .null, .int 0, .int 0, .int 0, .int 0, .int 0, .int 0, .int 0, .int 0, .int 0, .int 0, .int 0])), (a1, .inl (cA 1, 106, .inl zF))]) rfl rfl 0 (by decide) lkX6_init_0 rfl rfl rfl (Nat.le_of_ble_eq_true rfl) rfl dX6_init_9 ?_
  refine g_aload_n C 0 dX6_init_12 rfl rfl ?_
  refine g_sipush C (424 : Int32) dX6_init_13 (by decide) ?_
  refine g_newa C hA (atype := .int) woX6_int rfl 1 (cB := cA 1) rfl 424 (424, .inl zF) (fun _ => rfl) (by decide) (by decide) (by decide) (by decide) (by decide) dX6_init_16 (fun a2 => ?_)
  refine g_putF C hin ownX6 inX6_init tyX6 tyX6_ok nmX6 0 (fs := [.ref a1, .null, .null, .null, .null, .null, .null, .int 0, .int 0, .int 0, .int 0, .int 0, .int 0, .int 0, .int 0, .int 0, .int 0, .int 0]) (w2 := [(x, .inr (5, [.ref a1, .ref a2, .null, .null, .null, .null, .null, .int 0, .int 0, .int 0, .int 0, .int 0, .int 0, .int 0, .int 0, .int 0, .int 0, .int 0])), (a1, .inl (cA 1, 106, .inl zF)), (a2, .inl (cA 1, 424, .inl zF))]) rfl rfl 1 (by decide) lkX6_init_1 rfl rfl rfl (Nat.le_of_ble_eq_true rfl) rfl dX6_init_18 ?_
  refine g_aload_n C 0 dX6_init_21 rfl rfl ?_
  refine g_bipush C (20 : Int32) dX6_init_22 (by decide) ?_
  refine g_newa C hA (atype := .char) woX6_char rfl 0 (cB := cA 0) rfl 20 (20, .inl zF) (fun _ => rfl) (by decide) (by decide) (by decide) (by decide) (by decide) dX6_init_24 (fun a3 => ?_)
  refine g_putF C hin ownX6 inX6_init tyX6 tyX6_ok nmX6 0 (fs := [.ref a1, .ref a2, .null, .null, .null, .null, .null, .int 0, .int 0, .int 0, .int 0, .int 0, .int 0, .int 0, .int 0, .int 0, .int 0, .int 0]) (w2 := [(x, .inr (5, [.ref a1, .ref a2, .ref a3, .null, .null, .null, .null, .int 0, .int 0, .int 0, .int 0, .int 0, .int 0, .int 0, .int 0, .int 0, .int 0, .int 0])), (a1, .inl (cA 1, 106, .inl zF)), (a2, .inl (cA 1, 424, .inl zF)), (a3, .inl (cA 0, 20, .inl zF))]) rfl rfl 2 (by decide) lkX6_init_2 rfl rfl rfl (Nat.le_of_ble_eq_true rfl) rfl dX6_init_26 ?_
  refine g_aload_n C 0 dX6_init_29 rfl rfl ?_
  refine g_bipush C (20 : Int32) dX6_init_30 (by decide) ?_
  refine g_newa C hA (atype := .char) woX6_char rfl 0 (cB := cA 0) rfl 20 (20, .inl zF) (fun _ => rfl) (by decide) (by decide) (by decide) (by decide) (by decide) dX6_init_32 (fun a4 => ?_)
  refine g_putF C hin ownX6 inX6_init tyX6 tyX6_ok nmX6 0 (fs := [.ref a1, .ref a2, .ref a3, .null, .null, .null, .null, .int 0, .int 0, .int 0, .int 0, .int 0, .int 0, .int 0, .int 0, .int 0, .int 0, .int 0]) (w2 := [(x, .inr (5, [.ref a1, .ref a2, .ref a3, .ref a4, .null, .null, .null, .int 0, .int 0, .int 0, .int 0, .int 0, .int 0, .int 0, .int 0, .int 0, .int 0, .int 0])), (a1, .inl (cA 1, 106, .inl zF)), (a2, .inl (cA 1, 424, .inl zF)), (a3, .inl (cA 0, 20, .inl zF)), (a4, .inl (cA 0, 20, .inl zF))]) rfl rfl 3 (by decide) lkX6_init_3 rfl rfl rfl (Nat.le_of_ble_eq_true rfl) rfl dX6_init_34 ?_
  refine g_aload_n C 0 dX6_init_37 rfl rfl ?_
  refine g_sipush C (160 : Int32) dX6_init_38 (by decide) ?_
  refine g_newa C hA (atype := .char) woX6_char rfl 0 (cB := cA 0) rfl 160 (160, .inl zF) (fun _ => rfl) (by decide) (by decide) (by decide) (by decide) (by decide) dX6_init_41 (fun a5 => ?_)
  refine g_putF C hin ownX6 inX6_init tyX6 tyX6_ok nmX6 0 (fs := [.ref a1, .ref a2, .ref a3, .ref a4, .null, .null, .null, .int 0, .int 0, .int 0, .int 0, .int 0, .int 0, .int 0, .int 0, .int 0, .int 0, .int 0]) (w2 := [(x, .inr (5, [.ref a1, .ref a2, .ref a3, .ref a4, .ref a5, .null, .null, .int 0, .int 0, .int 0, .int 0, .int 0, .int 0, .int 0, .int 0, .int 0, .int 0, .int 0])), (a1, .inl (cA 1, 106, .inl zF)), (a2, .inl (cA 1, 424, .inl zF)), (a3, .inl (cA 0, 20, .inl zF)), (a4, .inl (cA 0, 20, .inl zF)), (a5, .inl (cA 0, 160, .inl zF))]) rfl rfl 4 (by decide) lkX6_init_4 rfl rfl rfl (Nat.le_of_ble_eq_true rfl) rfl dX6_init_43 ?_
  refine g_aload_n C 0 dX6_init_46 rfl rfl ?_
  refine g_bipush C (16 : Int32) dX6_init_47 (by decide) ?_
  refine g_newa C hA (atype := .int) woX6_int rfl 1 (cB := cA 1) rfl 16 (16, .inl zF) (fun _ => rfl) (by decide) (by decide) (by decide) (by decide) (by decide) dX6_init_49 (fun a6 => ?_)
  refine g_putF C hin ownX6 inX6_init tyX6 tyX6_ok nmX6 0 (fs := [.ref a1, .ref a2, .ref a3, .ref a4, .ref a5, .null, .null, .int 0, .int 0, .int 0, .int 0, .int 0, .int 0, .int 0, .int 0, .int 0, .int 0, .int 0]) (w2 := [(x, .inr (5, [.ref a1, .ref a2, .ref a3, .ref a4, .ref a5, .ref a6, .null, .int 0, .int 0, .int 0, .int 0, .int 0, .int 0, .int 0, .int 0, .int 0, .int 0, .int 0])), (a1, .inl (cA 1, 106, .inl zF)), (a2, .inl (cA 1, 424, .inl zF)), (a3, .inl (cA 0, 20, .inl zF)), (a4, .inl (cA 0, 20, .inl zF)), (a5, .inl (cA 0, 160, .inl zF)), (a6, .inl (cA 1, 16, .inl zF))]) rfl rfl 5 (by decide) lkX6_init_5 rfl rfl rfl (Nat.le_of_ble_eq_true rfl) rfl dX6_init_51 ?_
  refine g_aload_n C 0 dX6_init_54 rfl rfl ?_
  refine g_bipush C (16 : Int32) dX6_init_55 (by decide) ?_
  refine g_newa C hA (atype := .int) woX6_int rfl 1 (cB := cA 1) rfl 16 (16, .inl zF) (fun _ => rfl) (by decide) (by decide) (by decide) (by decide) (by decide) dX6_init_57 (fun a7 => ?_)
  refine g_putF C hin ownX6 inX6_init tyX6 tyX6_ok nmX6 0 (fs := [.ref a1, .ref a2, .ref a3, .ref a4, .ref a5, .ref a6, .null, .int 0, .int 0, .int 0, .int 0, .int 0, .int 0, .int 0, .int 0, .int 0, .int 0, .int 0]) (w2 := [(x, .inr (5, [.ref a1, .ref a2, .ref a3, .ref a4, .ref a5, .ref a6, .ref a7, .int 0, .int 0, .int 0, .int 0, .int 0, .int 0, .int 0, .int 0, .int 0, .int 0, .int 0])), (a1, .inl (cA 1, 106, .inl zF)), (a2, .inl (cA 1, 424, .inl zF)), (a3, .inl (cA 0, 20, .inl zF)), (a4, .inl (cA 0, 20, .inl zF)), (a5, .inl (cA 0, 160, .inl zF)), (a6, .inl (cA 1, 16, .inl zF)), (a7, .inl (cA 1, 16, .inl zF))]) rfl rfl 6 (by decide) lkX6_init_6 rfl rfl rfl (Nat.le_of_ble_eq_true rfl) rfl dX6_init_59 ?_
  refine g_iconst C (0 : Int32) dX6_init_62 (by decide) ?_
  refine g_istore_n C (lv2 := [(1, .int 0), (0, .ref x)]) dX6_init_63 rfl (by decide) rfl ?_
  obtain ⟨u, hu⟩ : ∃ u, u = (a1, a2, a3, a4, a5, a6, a7) := ⟨_, rfl⟩
  refine g_world (w2 := W6 cA x zF u) (by rw [hu]; rfl) ?_
  refine X6_row C (iv := 0) (iv2 := 1) (by decide) ⟨vpD (by decide), vpD (by decide), vpD (by decide), vpD (by decide)⟩ (by decide) ?_
  refine X6_row C (iv := 1) (iv2 := 2) (by decide) ⟨vpD (by decide), vpD (by decide), vpD (by decide), vpD (by decide)⟩ (by decide) ?_
  refine X6_row C (iv := 2) (iv2 := 3) (by decide) ⟨vpD (by decide), vpD (by decide), vpD (by decide), vpD (by decide)⟩ (by decide) ?_
  refine X6_row C (iv := 3) (iv2 := 4) (by decide) ⟨vpD (by decide), vpD (by decide), vpD (by decide), vpD (by decide)⟩ (by decide) ?_
  refine X6_row C (iv := 4) (iv2 := 5) (by decide) ⟨vpD (by decide), vpD (by decide), vpD (by decide), vpD (by decide)⟩ (by decide) ?_
  refine X6_row C (iv := 5) (iv2 := 6) (by decide) ⟨vpD (by decide), vpD (by decide), vpD (by decide), vpD (by decide)⟩ (by decide) ?_
  refine g_iload_n C 0 dX6_init_64 rfl rfl ?_
  refine g_bipush C (6 : Int32) dX6_init_65 (by decide) ?_
  refine g_icmp_ge C 126 dX6_init_67 (by decide) (fun _ => ?_) (fun q => absurd (by decide) q)
  refine g_aload_n C 1 dX6_init_126 rfl rfl ?_
  refine g_get C inX6_init 0 (a := x) (fs := [.ref u.1, .ref u.2.1, .ref u.2.2.1, .ref u.2.2.2.1, .ref u.2.2.2.2.1, .ref u.2.2.2.2.2.1, .ref u.2.2.2.2.2.2, .int 0, .int 0, .int 0, .int 0, .int 0, .int 0, .int 0, .int 0, .int 0, .int 0, .int 0]) rfl rfl 0 (by decide) lkX6_init_0 rfl dX6_init_127 ?_
  refine g_bipush C (54 : Int32) dX6_init_130 (by decide) ?_
  refine g_iconst C (2 : Int32) dX6_init_132 (by decide) ?_
  refine g_iast C 1 1 (cA := cA 1) (n := 106) (f := row6 (row6 (row6 (row6 (row6 (row6 zF 0) 1) 2) 3) 4) 5) rfl rfl (vpD (by decide)) (w2 := W6 cA x ms00 u) rfl dX6_init_133 ?_
  exact g_vretN (Wu := W6 cA x ms00) (kc := 7) (ks := 762) C hrt hlk u rfl trivial dX6_init_134
end INK
