variable {p : Program} {l : Launch} {e : Env} {s : State} {m : MethodId} {args : Array Value} {below : List Frame} {meth : Method} {c : Code} {D : va_G} {A : Nat → Prop} {ad : Nat → Nat} {cA : Nat → ClassId}
variable {tl : Int32} {tx : (Nat → Int32)} {mn : Int32} {sd : (Nat → Int64)} {e0 : Int32} {e1 : Int32} {e2 : Int32} {e3 : Int32} {e4 : Int32} {e5 : Int32} {e6 : Int32} {e7 : Int32} {e8 : Int32} {e9 : Int32} {e10 : Int32} {fr : Int32} {hd : Int32} {nw : (Nat → Int32)} {kp : (Nat → Int32)} {pt : (Nat → Int32)} {hr : (Nat → Nat → Int32)} {lr : (Nat → Nat → Int32)}
/-! L_areSums -/
abbrev rmL_areSums : Room := { frames := 2, cells := 0, slots := 0, locals := 47 }
abbrev QC_L_areSums (D : va_G) (A : Nat → Prop) (ad : Nat → Nat) (cA : Nat → ClassId) (tl : Int32) (tx : (Nat → Int32)) (mn : Int32) (sd : (Nat → Int64)) (e0 : Int32) (e1 : Int32) (e2 : Int32) (e3 : Int32) (e4 : Int32) (e5 : Int32) (e6 : Int32) (e7 : Int32) (e8 : Int32) (e9 : Int32) (e10 : Int32) (fr : Int32) (hd : Int32) (nw : (Nat → Int32)) (kp : (Nat → Int32)) (pt : (Nat → Int32)) (hr : (Nat → Nat → Int32)) (lr : (Nat → Nat → Int32)) (Q : Int32 → Prop) : Array Value → State → Outcome → State → Prop := va_Qi (fun (r : Int32) (u : Unit) => Q r ) (fun u t => OKX D (tysX cA) ((fun u : Unit => WX ad cA tl tx mn sd e0 e1 e2 e3 e4 e5 e6 e7 e8 e9 e10 fr hd nw kp pt hr lr) u) A t) A
abbrev QP_L_areSums (D : va_G) (A : Nat → Prop) (ad : Nat → Nat) (cA : Nat → ClassId) (tl : Int32) (tx : (Nat → Int32)) (mn : Int32) (sd : (Nat → Int64)) (e0 : Int32) (e1 : Int32) (e2 : Int32) (e3 : Int32) (e4 : Int32) (e5 : Int32) (e6 : Int32) (e7 : Int32) (e8 : Int32) (e9 : Int32) (e10 : Int32) (fr : Int32) (hd : Int32) (nw : (Nat → Int32)) (kp : (Nat → Int32)) (pt : (Nat → Int32)) (hr : (Nat → Nat → Int32)) (lr : (Nat → Nat → Int32)) (Q : Int32 → Prop) (below : List Frame) (args : Array Value) (s : State) : State → Prop := MQ below (QC_L_areSums D A ad cA tl tx mn sd e0 e1 e2 e3 e4 e5 e6 e7 e8 e9 e10 fr hd nw kp pt hr lr Q) args s 0 0 A
def B_L_areSums_350  (Q : Int32 → Prop) (nw : (Nat → Int32)) (kp : (Nat → Int32)) (hr : (Nat → Nat → Int32)) (lr : (Nat → Nat → Int32)) (s0 : Int32)  : Prop := (isBo s0 ∧ (Q s0))
def B_L_areSums_349  (Q : Int32 → Prop) (nw : (Nat → Int32)) (kp : (Nat → Int32)) (hr : (Nat → Nat → Int32)) (lr : (Nat → Nat → Int32))   : Prop := (B_L_areSums_350  Q nw kp hr lr (0 : Int32))
def B_L_areSums_345  (Q : Int32 → Prop) (nw : (Nat → Int32)) (kp : (Nat → Int32)) (hr : (Nat → Nat → Int32)) (lr : (Nat → Nat → Int32))   : Prop := (B_L_areSums_350  Q nw kp hr lr (1 : Int32))
def B_L_areSums_323  (Q : Int32 → Prop) (nw : (Nat → Int32)) (kp : (Nat → Int32)) (hr : (Nat → Nat → Int32)) (lr : (Nat → Nat → Int32)) (v1 : Int32) (s1 : Int32)  : Prop := (F_X5_log s1 (0 : Int32) nw kp lr (fun r_1 => ((r_1 = (-5 : Int32) → ((v1 = 0 → (B_L_areSums_345  Q nw kp hr lr )) ∧ (¬ v1 = 0 → (F_X5_log (0 : Int32) (0 : Int32) nw kp lr (fun r_4 => ((r_4 < 0 → (B_L_areSums_349  Q nw kp hr lr )) ∧ (¬ r_4 < 0 → (B_L_areSums_345  Q nw kp hr lr )))))))) ∧ (¬ r_1 = (-5 : Int32) → (B_L_areSums_349  Q nw kp hr lr )))))
def B_L_areSums_256  (Q : Int32 → Prop) (nw : (Nat → Int32)) (kp : (Nat → Int32)) (hr : (Nat → Nat → Int32)) (lr : (Nat → Nat → Int32)) (v1 : Int32) (v2 : Int32) (v3 : Int32) (v4 : Int32) (v5 : Int32) (s0 : UInt32)  : Prop := ((v5 = 0 → (B_L_areSums_349  Q nw kp hr lr )) ∧ (¬ v5 = 0 → (F_X5_sum (0 : Int32) hr (fun r_7 => ((v1 = r_7 → (F_X5_sum (1 : Int32) hr (fun r_9 => ((v2 = r_9 → (F_X5_sum (2 : Int32) hr (fun r_11 => ((v3 = r_11 → (F_X5_sum (3 : Int32) hr (fun r_13 => ((v4 = r_13 → (F_X5_share hr (fun r_15 => (((Op.cmpValue (FP.fcmp r_15 s0) .l) = 0 → (((10 : Int32) ≤ v1 → (B_L_areSums_323  Q nw kp hr lr v1 (10 : Int32))) ∧ (¬ (10 : Int32) ≤ v1 → (B_L_areSums_323  Q nw kp hr lr v1 v1)))) ∧ (¬ (Op.cmpValue (FP.fcmp r_15 s0) .l) = 0 → (B_L_areSums_349  Q nw kp hr lr )))))) ∧ (¬ v4 = r_13 → (B_L_areSums_349  Q nw kp hr lr )))))) ∧ (¬ v3 = r_11 → (B_L_areSums_349  Q nw kp hr lr )))))) ∧ (¬ v2 = r_9 → (B_L_areSums_349  Q nw kp hr lr )))))) ∧ (¬ v1 = r_7 → (B_L_areSums_349  Q nw kp hr lr )))))))
def B_L_areSums_241  (Q : Int32 → Prop) (nw : (Nat → Int32)) (kp : (Nat → Int32)) (hr : (Nat → Nat → Int32)) (lr : (Nat → Nat → Int32)) (v1 : Int32) (v2 : Int32) (v3 : Int32) (v4 : Int32) (v5 : Int32)  : Prop := ((v1 = 0 → (B_L_areSums_256  Q nw kp hr lr v1 v2 v3 v4 v5 FP.fconst1)) ∧ (¬ v1 = 0 → (vf_n32 (FP.fdiv (FP.i2f (v1 - v2)) (FP.i2f v1)) ∧ (B_L_areSums_256  Q nw kp hr lr v1 v2 v3 v4 v5 (FP.fdiv (FP.i2f (v1 - v2)) (FP.i2f v1))))))
def B_L_areSums_233 (kh40 : Int32 → Int32 → Int32 → Int32 → Int32 → Int32 → Prop) (Q : Int32 → Prop) (nw : (Nat → Int32)) (kp : (Nat → Int32)) (hr : (Nat → Nat → Int32)) (lr : (Nat → Nat → Int32)) (v1 : Int32) (v2 : Int32) (v3 : Int32) (v4 : Int32) (v6 : Int32) (s0 : Int32)  : Prop := (kh40 v1 v2 v3 v4 s0 (v6 + (1 : Int32)))
def B_L_areSums_232 (kh40 : Int32 → Int32 → Int32 → Int32 → Int32 → Int32 → Prop) (Q : Int32 → Prop) (nw : (Nat → Int32)) (kp : (Nat → Int32)) (hr : (Nat → Nat → Int32)) (lr : (Nat → Nat → Int32)) (v1 : Int32) (v2 : Int32) (v3 : Int32) (v4 : Int32) (v6 : Int32)  : Prop := (B_L_areSums_233 kh40 Q nw kp hr lr v1 v2 v3 v4 v6 (0 : Int32))
def B_L_areSums_179 (kh40 : Int32 → Int32 → Int32 → Int32 → Int32 → Int32 → Prop) (Q : Int32 → Prop) (nw : (Nat → Int32)) (kp : (Nat → Int32)) (hr : (Nat → Nat → Int32)) (lr : (Nat → Nat → Int32)) (v1 : Int32) (v2 : Int32) (v3 : Int32) (v4 : Int32) (v5 : Int32) (v6 : Int32)  : Prop := ((v5 = 0 → (B_L_areSums_232 kh40 Q nw kp hr lr v1 v2 v3 v4 v6)) ∧ (¬ v5 = 0 → (F_X5_hearer v6 (8 : Int32) hr (fun r_20 => (F_X5_hearer v6 (7 : Int32) hr (fun r_21 => ((r_21 < r_20 → (B_L_areSums_232 kh40 Q nw kp hr lr v1 v2 v3 v4 v6)) ∧ (¬ r_21 < r_20 → (F_X5_hearer v6 (6 : Int32) hr (fun r_23 => ((r_23 < (1 : Int32) → (B_L_areSums_232 kh40 Q nw kp hr lr v1 v2 v3 v4 v6)) ∧ (¬ r_23 < (1 : Int32) → (F_X5_hearer v6 (6 : Int32) hr (fun r_25 => (((12 : Int32) < r_25 → (B_L_areSums_232 kh40 Q nw kp hr lr v1 v2 v3 v4 v6)) ∧ (¬ (12 : Int32) < r_25 → (B_L_areSums_233 kh40 Q nw kp hr lr v1 v2 v3 v4 v6 (1 : Int32))))))))))))))))))
def B_L_areSums_171 (kh40 : Int32 → Int32 → Int32 → Int32 → Int32 → Int32 → Prop) (kh77 : Int32 → Int32 → Int32 → Int32 → Int32 → Int32 → Int32 → Prop) (Q : Int32 → Prop) (nw : (Nat → Int32)) (kp : (Nat → Int32)) (hr : (Nat → Nat → Int32)) (lr : (Nat → Nat → Int32)) (v1 : Int32) (v2 : Int32) (v3 : Int32) (v4 : Int32) (v6 : Int32) (v7 : Int32) (s0 : Int32)  : Prop := (kh77 v1 v2 v3 v4 s0 v6 (v7 + (1 : Int32)))
def B_L_areSums_170 (kh40 : Int32 → Int32 → Int32 → Int32 → Int32 → Int32 → Prop) (kh77 : Int32 → Int32 → Int32 → Int32 → Int32 → Int32 → Int32 → Prop) (Q : Int32 → Prop) (nw : (Nat → Int32)) (kp : (Nat → Int32)) (hr : (Nat → Nat → Int32)) (lr : (Nat → Nat → Int32)) (v1 : Int32) (v2 : Int32) (v3 : Int32) (v4 : Int32) (v6 : Int32) (v7 : Int32)  : Prop := (B_L_areSums_171 kh40 kh77 Q nw kp hr lr v1 v2 v3 v4 v6 v7 (0 : Int32))
def B_L_areSums_166 (kh40 : Int32 → Int32 → Int32 → Int32 → Int32 → Int32 → Prop) (kh77 : Int32 → Int32 → Int32 → Int32 → Int32 → Int32 → Int32 → Prop) (Q : Int32 → Prop) (nw : (Nat → Int32)) (kp : (Nat → Int32)) (hr : (Nat → Nat → Int32)) (lr : (Nat → Nat → Int32)) (v1 : Int32) (v2 : Int32) (v3 : Int32) (v4 : Int32) (v6 : Int32) (v7 : Int32)  : Prop := (B_L_areSums_171 kh40 kh77 Q nw kp hr lr v1 v2 v3 v4 v6 v7 (1 : Int32))
noncomputable def L_L_areSums_77 (kh40 : Int32 → Int32 → Int32 → Int32 → Int32 → Int32 → Prop) (Q : Int32 → Prop) (nw : (Nat → Int32)) (kp : (Nat → Int32)) (hr : (Nat → Nat → Int32)) (lr : (Nat → Nat → Int32)) (n9 : Nat) : Int32 → Int32 → Int32 → Int32 → Int32 → Int32 → Int32 → Prop := Nat.rec (motive := fun _ => Int32 → Int32 → Int32 → Int32 → Int32 → Int32 → Int32 → Prop) (fun _ _ _ _ _ _ _ => False) (fun _ kh77 => fun v1 v2 v3 v4 v5 v6 v7 => (((3 : Int32) ≤ v7 → (B_L_areSums_179 kh40 Q nw kp hr lr v1 v2 v3 v4 v5 v6)) ∧ (¬ (3 : Int32) ≤ v7 → ((v5 = 0 → (B_L_areSums_179 kh40 Q nw kp hr lr v1 v2 v3 v4 v5 v6)) ∧ (¬ v5 = 0 → (F_X5_hearer v6 v7 hr (fun r_29 => (F_X5_hearer v6 ((3 : Int32) + v7) hr (fun r_30 => (F_X5_hearer v6 ((3 : Int32) + v7) hr (fun r_31 => ((r_31 < 0 → (B_L_areSums_170 kh40 kh77 Q nw kp hr lr v1 v2 (v3 + r_29) (v4 + r_30) v6 v7)) ∧ (¬ r_31 < 0 → (F_X5_hearer v6 ((3 : Int32) + v7) hr (fun r_33 => (((9 : Int32) < r_33 → (B_L_areSums_170 kh40 kh77 Q nw kp hr lr v1 v2 (v3 + r_29) (v4 + r_30) v6 v7)) ∧ (¬ (9 : Int32) < r_33 → (F_X5_hearer v6 v7 hr (fun r_35 => ((r_35 = 0 → (B_L_areSums_166 kh40 kh77 Q nw kp hr lr v1 v2 (v3 + r_29) (v4 + r_30) v6 v7)) ∧ (¬ r_35 = 0 → (F_X5_hearer v6 ((3 : Int32) + v7) hr (fun r_37 => ((r_37 = 0 → (B_L_areSums_166 kh40 kh77 Q nw kp hr lr v1 v2 (v3 + r_29) (v4 + r_30) v6 v7)) ∧ (¬ r_37 = 0 → (B_L_areSums_170 kh40 kh77 Q nw kp hr lr v1 v2 (v3 + r_29) (v4 + r_30) v6 v7)))))))))))))))))))))))))) n9
noncomputable def L_L_areSums_40  (Q : Int32 → Prop) (nw : (Nat → Int32)) (kp : (Nat → Int32)) (hr : (Nat → Nat → Int32)) (lr : (Nat → Nat → Int32)) (n9 : Nat) : Int32 → Int32 → Int32 → Int32 → Int32 → Int32 → Prop := Nat.rec (motive := fun _ => Int32 → Int32 → Int32 → Int32 → Int32 → Int32 → Prop) (fun _ _ _ _ _ _ => False) (fun _ kh40 => fun v1 v2 v3 v4 v5 v6 => (((6 : Int32) ≤ v6 → (B_L_areSums_241  Q nw kp hr lr v1 v2 v3 v4 v5)) ∧ (¬ (6 : Int32) ≤ v6 → ((v5 = 0 → (B_L_areSums_241  Q nw kp hr lr v1 v2 v3 v4 v5)) ∧ (¬ v5 = 0 → (F_X5_hearer v6 (7 : Int32) hr (fun r_41 => (F_X5_hearer v6 (8 : Int32) hr (fun r_42 => (∃ n9 : Nat, L_L_areSums_77 kh40 Q nw kp hr lr n9 (v1 + r_41) (v2 + r_42) v3 v4 v5 v6 (0 : Int32))))))))))) n9
def B_L_areSums_35  (Q : Int32 → Prop) (nw : (Nat → Int32)) (kp : (Nat → Int32)) (hr : (Nat → Nat → Int32)) (lr : (Nat → Nat → Int32)) (v1 : Int32) (v2 : Int32) (v3 : Int32) (v4 : Int32) (s0 : Int32)  : Prop := (∃ n9 : Nat, L_L_areSums_40  Q nw kp hr lr n9 v1 v2 v3 v4 s0 (0 : Int32))
def B_L_areSums_34  (Q : Int32 → Prop) (nw : (Nat → Int32)) (kp : (Nat → Int32)) (hr : (Nat → Nat → Int32)) (lr : (Nat → Nat → Int32)) (v1 : Int32) (v2 : Int32) (v3 : Int32) (v4 : Int32)  : Prop := (B_L_areSums_35  Q nw kp hr lr v1 v2 v3 v4 (0 : Int32))
def B_L_areSums_0  (Q : Int32 → Prop) (nw : (Nat → Int32)) (kp : (Nat → Int32)) (hr : (Nat → Nat → Int32)) (lr : (Nat → Nat → Int32))   : Prop := (F_X5_hearer (6 : Int32) (0 : Int32) hr (fun r_43 => ((r_43 = (-1 : Int32) → (F_X5_hearer (-1 : Int32) (0 : Int32) hr (fun r_45 => ((r_45 = (-1 : Int32) → (B_L_areSums_35  Q nw kp hr lr (0 : Int32) (0 : Int32) (0 : Int32) (0 : Int32) (1 : Int32))) ∧ (¬ r_45 = (-1 : Int32) → (B_L_areSums_34  Q nw kp hr lr (0 : Int32) (0 : Int32) (0 : Int32) (0 : Int32))))))) ∧ (¬ r_43 = (-1 : Int32) → (B_L_areSums_34  Q nw kp hr lr (0 : Int32) (0 : Int32) (0 : Int32) (0 : Int32))))))
def F_L_areSums  (nw : (Nat → Int32)) (kp : (Nat → Int32)) (hr : (Nat → Nat → Int32)) (lr : (Nat → Nat → Int32))  (Q : Int32 → Prop) : Prop := B_L_areSums_0 Q nw kp hr lr  
set_option maxHeartbeats 4000000 in
set_option maxRecDepth 100000 in
theorem t_B_L_areSums_350  {Q : Int32 → Prop} (C : CxX p s m args c D (tysX cA) RL cL_areSums 8 wsL_areSums) (hrt9 : meth.sig.returnType = (some .boolean)) (hlk : meth.locks = false) (s0 : Int32)   (h : B_L_areSums_350  Q nw kp hr lr s0) : GoX p l e rmL_areSums s m args below meth c D A 8 0 0 (QP_L_areSums D A ad cA tl tx mn sd e0 e1 e2 e3 e4 e5 e6 e7 e8 e9 e10 fr hd nw kp pt hr lr Q below args s) 350 [] [.int s0] (WX ad cA tl tx mn sd e0 e1 e2 e3 e4 e5 e6 e7 e8 e9 e10 fr hd nw kp pt hr lr) := by
  replace h : (isBo s0 ∧ (Q s0)) := h
  exact g_zret C hrt9 hlk h.1.n (u := ()) rfl h.2 dL_areSums_350
set_option maxHeartbeats 4000000 in
set_option maxRecDepth 100000 in
theorem t_B_L_areSums_349  {Q : Int32 → Prop} (C : CxX p s m args c D (tysX cA) RL cL_areSums 8 wsL_areSums) (hrt9 : meth.sig.returnType = (some .boolean)) (hlk : meth.locks = false)    (h : B_L_areSums_349  Q nw kp hr lr ) : GoX p l e rmL_areSums s m args below meth c D A 8 0 0 (QP_L_areSums D A ad cA tl tx mn sd e0 e1 e2 e3 e4 e5 e6 e7 e8 e9 e10 fr hd nw kp pt hr lr Q below args s) 349 [] [] (WX ad cA tl tx mn sd e0 e1 e2 e3 e4 e5 e6 e7 e8 e9 e10 fr hd nw kp pt hr lr) := by
  replace h : (B_L_areSums_350  Q nw kp hr lr (0 : Int32)) := h
  refine g_iconst C (0 : Int32) dL_areSums_349 (by decide) ?_
  exact g_sub [] rfl (t_B_L_areSums_350 C hrt9 hlk  (0 : Int32)  h)
set_option maxHeartbeats 4000000 in
set_option maxRecDepth 100000 in
theorem t_B_L_areSums_345  {Q : Int32 → Prop} (C : CxX p s m args c D (tysX cA) RL cL_areSums 8 wsL_areSums) (hrt9 : meth.sig.returnType = (some .boolean)) (hlk : meth.locks = false)    (h : B_L_areSums_345  Q nw kp hr lr ) : GoX p l e rmL_areSums s m args below meth c D A 8 0 0 (QP_L_areSums D A ad cA tl tx mn sd e0 e1 e2 e3 e4 e5 e6 e7 e8 e9 e10 fr hd nw kp pt hr lr Q below args s) 345 [] [] (WX ad cA tl tx mn sd e0 e1 e2 e3 e4 e5 e6 e7 e8 e9 e10 fr hd nw kp pt hr lr) := by
  replace h : (B_L_areSums_350  Q nw kp hr lr (1 : Int32)) := h
  refine g_iconst C (1 : Int32) dL_areSums_345 (by decide) ?_
  refine g_goto C 350 dL_areSums_346 (by decide) ?_
  exact g_sub [] rfl (t_B_L_areSums_350 C hrt9 hlk  (1 : Int32)  h)
set_option maxHeartbeats 4000000 in
set_option maxRecDepth 100000 in
theorem t_B_L_areSums_323  {Q : Int32 → Prop} (C : CxX p s m args c D (tysX cA) RL cL_areSums 8 wsL_areSums) (hrt9 : meth.sig.returnType = (some .boolean)) (hlk : meth.locks = false) (v1 : Int32) (s1 : Int32)   (h : B_L_areSums_323  Q nw kp hr lr v1 s1) : GoX p l e rmL_areSums s m args below meth c D A 8 0 0 (QP_L_areSums D A ad cA tl tx mn sd e0 e1 e2 e3 e4 e5 e6 e7 e8 e9 e10 fr hd nw kp pt hr lr Q below args s) 323 [(0, .ref (ad 0)), (1, .int v1)] [.int s1, .ref (ad 0)] (WX ad cA tl tx mn sd e0 e1 e2 e3 e4 e5 e6 e7 e8 e9 e10 fr hd nw kp pt hr lr) := by
  replace h : (F_X5_log s1 (0 : Int32) nw kp lr (fun r_1 => ((r_1 = (-5 : Int32) → ((v1 = 0 → (B_L_areSums_345  Q nw kp hr lr )) ∧ (¬ v1 = 0 → (F_X5_log (0 : Int32) (0 : Int32) nw kp lr (fun r_4 => ((r_4 < 0 → (B_L_areSums_349  Q nw kp hr lr )) ∧ (¬ r_4 < 0 → (B_L_areSums_345  Q nw kp hr lr )))))))) ∧ (¬ r_1 = (-5 : Int32) → (B_L_areSums_349  Q nw kp hr lr ))))) := h
  refine g_iconst C (0 : Int32) dL_areSums_323 (by decide) ?_
  refine k_X5_log C gL_areSums_X5_log ⟨Nat.le_of_ble_eq_true rfl, Nat.le_of_ble_eq_true rfl⟩ ⟨Nat.zero_le _, Nat.zero_le _⟩ (Nat.le_of_ble_eq_true rfl) dL_areSums_324  h (fun r_1 h => ?_)
  refine g_bipush C (-5 : Int32) dL_areSums_327 (by decide) ?_
  refine g_icmp_ne C 349 dL_areSums_329 (by decide) (fun c_2 => ?_) (fun c_2 => ?_)
  · replace h := h.2 c_2
    exact g_sub [] rfl (t_B_L_areSums_349 C hrt9 hlk    h)
  · replace h := h.1 c_2
    refine g_iload_n C 1 dL_areSums_332 rfl rfl ?_
    refine g_if_eq C 345 dL_areSums_333 (by decide) (fun c_3 => ?_) (fun c_3 => ?_)
    · replace h := h.1 c_3
      exact g_sub [] rfl (t_B_L_areSums_345 C hrt9 hlk    h)
    · replace h := h.2 c_3
      refine g_aload_n C 0 dL_areSums_336 rfl rfl ?_
      refine g_iconst C (0 : Int32) dL_areSums_337 (by decide) ?_
      refine g_iconst C (0 : Int32) dL_areSums_338 (by decide) ?_
      refine k_X5_log C gL_areSums_X5_log ⟨Nat.le_of_ble_eq_true rfl, Nat.le_of_ble_eq_true rfl⟩ ⟨Nat.zero_le _, Nat.zero_le _⟩ (Nat.le_of_ble_eq_true rfl) dL_areSums_339  h (fun r_4 h => ?_)
      refine g_if_lt C 349 dL_areSums_342 (by decide) (fun c_5 => ?_) (fun c_5 => ?_)
      · replace h := h.1 c_5
        exact g_sub [] rfl (t_B_L_areSums_349 C hrt9 hlk    h)
      · replace h := h.2 c_5
        exact g_sub [] rfl (t_B_L_areSums_345 C hrt9 hlk    h)
set_option maxHeartbeats 4000000 in
set_option maxRecDepth 100000 in
theorem t_B_L_areSums_256  {Q : Int32 → Prop} (C : CxX p s m args c D (tysX cA) RL cL_areSums 8 wsL_areSums) (hrt9 : meth.sig.returnType = (some .boolean)) (hlk : meth.locks = false) (v1 : Int32) (v2 : Int32) (v3 : Int32) (v4 : Int32) (v5 : Int32) (s0 : UInt32)   (h : B_L_areSums_256  Q nw kp hr lr v1 v2 v3 v4 v5 s0) : GoX p l e rmL_areSums s m args below meth c D A 8 0 0 (QP_L_areSums D A ad cA tl tx mn sd e0 e1 e2 e3 e4 e5 e6 e7 e8 e9 e10 fr hd nw kp pt hr lr Q below args s) 256 [(0, .ref (ad 0)), (1, .int v1), (2, .int v2), (3, .int v3), (4, .int v4), (5, .int v5)] [.float s0] (WX ad cA tl tx mn sd e0 e1 e2 e3 e4 e5 e6 e7 e8 e9 e10 fr hd nw kp pt hr lr) := by
  replace h : ((v5 = 0 → (B_L_areSums_349  Q nw kp hr lr )) ∧ (¬ v5 = 0 → (F_X5_sum (0 : Int32) hr (fun r_7 => ((v1 = r_7 → (F_X5_sum (1 : Int32) hr (fun r_9 => ((v2 = r_9 → (F_X5_sum (2 : Int32) hr (fun r_11 => ((v3 = r_11 → (F_X5_sum (3 : Int32) hr (fun r_13 => ((v4 = r_13 → (F_X5_share hr (fun r_15 => (((Op.cmpValue (FP.fcmp r_15 s0) .l) = 0 → (((10 : Int32) ≤ v1 → (B_L_areSums_323  Q nw kp hr lr v1 (10 : Int32))) ∧ (¬ (10 : Int32) ≤ v1 → (B_L_areSums_323  Q nw kp hr lr v1 v1)))) ∧ (¬ (Op.cmpValue (FP.fcmp r_15 s0) .l) = 0 → (B_L_areSums_349  Q nw kp hr lr )))))) ∧ (¬ v4 = r_13 → (B_L_areSums_349  Q nw kp hr lr )))))) ∧ (¬ v3 = r_11 → (B_L_areSums_349  Q nw kp hr lr )))))) ∧ (¬ v2 = r_9 → (B_L_areSums_349  Q nw kp hr lr )))))) ∧ (¬ v1 = r_7 → (B_L_areSums_349  Q nw kp hr lr ))))))) := h
  refine g_fstore C (lv2 := [(6, .float s0), (0, .ref (ad 0)), (1, .int v1), (2, .int v2), (3, .int v3), (4, .int v4), (5, .int v5)]) dL_areSums_256 (by decide) rfl ?_
  refine g_iload C 6 dL_areSums_258 rfl ?_
  refine g_if_eq C 349 dL_areSums_260 (by decide) (fun c_6 => ?_) (fun c_6 => ?_)
  · replace h := h.1 c_6
    exact g_sub [] rfl (t_B_L_areSums_349 C hrt9 hlk    h)
  · replace h := h.2 c_6
    refine g_iload_n C 2 dL_areSums_263 rfl rfl ?_
    refine g_aload_n C 1 dL_areSums_264 rfl rfl ?_
    refine g_iconst C (0 : Int32) dL_areSums_265 (by decide) ?_
    refine k_X5_sum C gL_areSums_X5_sum ⟨Nat.le_of_ble_eq_true rfl, Nat.le_of_ble_eq_true rfl⟩ ⟨Nat.zero_le _, Nat.zero_le _⟩ (Nat.le_of_ble_eq_true rfl) dL_areSums_266  h (fun r_7 h => ?_)
    refine g_icmp_ne C 349 dL_areSums_269 (by decide) (fun c_8 => ?_) (fun c_8 => ?_)
    · replace h := h.2 c_8
      exact g_sub [] rfl (t_B_L_areSums_349 C hrt9 hlk    h)
    · replace h := h.1 c_8
      refine g_iload_n C 3 dL_areSums_272 rfl rfl ?_
      refine g_aload_n C 1 dL_areSums_273 rfl rfl ?_
      refine g_iconst C (1 : Int32) dL_areSums_274 (by decide) ?_
      refine k_X5_sum C gL_areSums_X5_sum ⟨Nat.le_of_ble_eq_true rfl, Nat.le_of_ble_eq_true rfl⟩ ⟨Nat.zero_le _, Nat.zero_le _⟩ (Nat.le_of_ble_eq_true rfl) dL_areSums_275  h (fun r_9 h => ?_)
      refine g_icmp_ne C 349 dL_areSums_278 (by decide) (fun c_10 => ?_) (fun c_10 => ?_)
      · replace h := h.2 c_10
        exact g_sub [] rfl (t_B_L_areSums_349 C hrt9 hlk    h)
      · replace h := h.1 c_10
        refine g_iload_n C 4 dL_areSums_281 rfl rfl ?_
        refine g_aload_n C 1 dL_areSums_282 rfl rfl ?_
        refine g_iconst C (2 : Int32) dL_areSums_283 (by decide) ?_
        refine k_X5_sum C gL_areSums_X5_sum ⟨Nat.le_of_ble_eq_true rfl, Nat.le_of_ble_eq_true rfl⟩ ⟨Nat.zero_le _, Nat.zero_le _⟩ (Nat.le_of_ble_eq_true rfl) dL_areSums_284  h (fun r_11 h => ?_)
        refine g_icmp_ne C 349 dL_areSums_287 (by decide) (fun c_12 => ?_) (fun c_12 => ?_)
        · replace h := h.2 c_12
          exact g_sub [] rfl (t_B_L_areSums_349 C hrt9 hlk    h)
        · replace h := h.1 c_12
          refine g_iload C 5 dL_areSums_290 rfl ?_
          refine g_aload_n C 1 dL_areSums_292 rfl rfl ?_
          refine g_iconst C (3 : Int32) dL_areSums_293 (by decide) ?_
          refine k_X5_sum C gL_areSums_X5_sum ⟨Nat.le_of_ble_eq_true rfl, Nat.le_of_ble_eq_true rfl⟩ ⟨Nat.zero_le _, Nat.zero_le _⟩ (Nat.le_of_ble_eq_true rfl) dL_areSums_294  h (fun r_13 h => ?_)
          refine g_icmp_ne C 349 dL_areSums_297 (by decide) (fun c_14 => ?_) (fun c_14 => ?_)
          · replace h := h.2 c_14
            exact g_sub [] rfl (t_B_L_areSums_349 C hrt9 hlk    h)
          · replace h := h.1 c_14
            refine g_aload_n C 1 dL_areSums_300 rfl rfl ?_
            refine k_X5_share C gL_areSums_X5_share ⟨Nat.le_of_ble_eq_true rfl, Nat.le_of_ble_eq_true rfl⟩ ⟨Nat.zero_le _, Nat.zero_le _⟩ (Nat.le_of_ble_eq_true rfl) dL_areSums_301  h (fun r_15 h => ?_)
            refine g_fload C 0 dL_areSums_304 rfl ?_
            refine g_fcmp C dL_areSums_306 ?_
            refine g_if_ne C 349 dL_areSums_307 (by decide) (fun c_16 => ?_) (fun c_16 => ?_)
            · replace h := h.2 c_16
              exact g_sub [] rfl (t_B_L_areSums_349 C hrt9 hlk    h)
            · replace h := h.1 c_16
              refine g_aload_n C 1 dL_areSums_310 rfl rfl ?_
              refine g_iload_n C 2 dL_areSums_311 rfl rfl ?_
              refine g_bipush C (10 : Int32) dL_areSums_312 (by decide) ?_
              refine g_icmp_ge C 321 dL_areSums_314 (by decide) (fun c_17 => ?_) (fun c_17 => ?_)
              · replace h := h.1 c_17
                refine g_bipush C (10 : Int32) dL_areSums_321 (by decide) ?_
                exact g_sub [1, 2] rfl (t_B_L_areSums_323 C hrt9 hlk  v1 (10 : Int32)  h)
              · replace h := h.2 c_17
                refine g_iload_n C 2 dL_areSums_317 rfl rfl ?_
                refine g_goto C 323 dL_areSums_318 (by decide) ?_
                exact g_sub [1, 2] rfl (t_B_L_areSums_323 C hrt9 hlk  v1 v1  h)
set_option maxHeartbeats 4000000 in
set_option maxRecDepth 100000 in
theorem t_B_L_areSums_241  {Q : Int32 → Prop} (C : CxX p s m args c D (tysX cA) RL cL_areSums 8 wsL_areSums) (hrt9 : meth.sig.returnType = (some .boolean)) (hlk : meth.locks = false) (v1 : Int32) (v2 : Int32) (v3 : Int32) (v4 : Int32) (v5 : Int32)   (h : B_L_areSums_241  Q nw kp hr lr v1 v2 v3 v4 v5) : GoX p l e rmL_areSums s m args below meth c D A 8 0 0 (QP_L_areSums D A ad cA tl tx mn sd e0 e1 e2 e3 e4 e5 e6 e7 e8 e9 e10 fr hd nw kp pt hr lr Q below args s) 241 [(0, .ref (ad 0)), (1, .int v1), (2, .int v2), (3, .int v3), (4, .int v4), (5, .int v5)] [] (WX ad cA tl tx mn sd e0 e1 e2 e3 e4 e5 e6 e7 e8 e9 e10 fr hd nw kp pt hr lr) := by
  replace h : ((v1 = 0 → (B_L_areSums_256  Q nw kp hr lr v1 v2 v3 v4 v5 FP.fconst1)) ∧ (¬ v1 = 0 → (vf_n32 (FP.fdiv (FP.i2f (v1 - v2)) (FP.i2f v1)) ∧ (B_L_areSums_256  Q nw kp hr lr v1 v2 v3 v4 v5 (FP.fdiv (FP.i2f (v1 - v2)) (FP.i2f v1)))))) := h
  refine g_iload_n C 1 dL_areSums_241 rfl rfl ?_
  refine g_if_ne C 249 dL_areSums_242 (by decide) (fun c_18 => ?_) (fun c_18 => ?_)
  · replace h := h.2 c_18
    refine g_iload_n C 1 dL_areSums_249 rfl rfl ?_
    refine g_iload_n C 2 dL_areSums_250 rfl rfl ?_
    refine g_isub C dL_areSums_251 ?_
    refine g_i2f C dL_areSums_252 ?_
    refine g_iload_n C 1 dL_areSums_253 rfl rfl ?_
    refine g_i2f C dL_areSums_254 ?_
    refine g_fdiv C dL_areSums_255 h.1 ?_
    replace h := h.2
    exact g_sub [0, 1, 2, 3, 4, 5] rfl (t_B_L_areSums_256 C hrt9 hlk  v1 v2 v3 v4 v5 (FP.fdiv (FP.i2f (v1 - v2)) (FP.i2f v1))  h)
  · replace h := h.1 c_18
    refine g_fconst1 C dL_areSums_245 ?_
    refine g_goto C 256 dL_areSums_246 (by decide) ?_
    exact g_sub [0, 1, 2, 3, 4, 5] rfl (t_B_L_areSums_256 C hrt9 hlk  v1 v2 v3 v4 v5 FP.fconst1  h)
set_option maxHeartbeats 4000000 in
set_option maxRecDepth 100000 in
theorem t_B_L_areSums_233 {kh40 : Int32 → Int32 → Int32 → Int32 → Int32 → Int32 → Prop} {Q : Int32 → Prop} (C : CxX p s m args c D (tysX cA) RL cL_areSums 8 wsL_areSums) (hrt9 : meth.sig.returnType = (some .boolean)) (hlk : meth.locks = false) (Hk40 : ∀ (v1q : Int32) (v2q : Int32) (v3q : Int32) (v4q : Int32) (v5q : Int32) (v6q : Int32)  , kh40 v1q v2q v3q v4q v5q v6q → GoX p l e rmL_areSums s m args below meth c D A 8 0 0 (QP_L_areSums D A ad cA tl tx mn sd e0 e1 e2 e3 e4 e5 e6 e7 e8 e9 e10 fr hd nw kp pt hr lr Q below args s) 40 [(0, .ref (ad 0)), (1, .int v1q), (2, .int v2q), (3, .int v3q), (4, .int v4q), (5, .int v5q), (6, .int v6q)] [] (WX ad cA tl tx mn sd e0 e1 e2 e3 e4 e5 e6 e7 e8 e9 e10 fr hd nw kp pt hr lr)) (v1 : Int32) (v2 : Int32) (v3 : Int32) (v4 : Int32) (v6 : Int32) (s0 : Int32)   (h : B_L_areSums_233 kh40 Q nw kp hr lr v1 v2 v3 v4 v6 s0) : GoX p l e rmL_areSums s m args below meth c D A 8 0 0 (QP_L_areSums D A ad cA tl tx mn sd e0 e1 e2 e3 e4 e5 e6 e7 e8 e9 e10 fr hd nw kp pt hr lr Q below args s) 233 [(0, .ref (ad 0)), (1, .int v1), (2, .int v2), (3, .int v3), (4, .int v4), (6, .int v6)] [.int s0] (WX ad cA tl tx mn sd e0 e1 e2 e3 e4 e5 e6 e7 e8 e9 e10 fr hd nw kp pt hr lr) := by
  replace h : (kh40 v1 v2 v3 v4 s0 (v6 + (1 : Int32))) := h
  refine g_istore C (lv2 := [(5, .int s0), (0, .ref (ad 0)), (1, .int v1), (2, .int v2), (3, .int v3), (4, .int v4), (6, .int v6)]) dL_areSums_233 (by decide) rfl ?_
  refine g_iinc C (v := (v6 + (1 : Int32))) (lv2 := [(6, .int (v6 + (1 : Int32))), (5, .int s0), (0, .ref (ad 0)), (1, .int v1), (2, .int v2), (3, .int v3), (4, .int v4)]) 6 dL_areSums_235 rfl rfl (by decide) rfl ?_
  refine g_goto C 40 dL_areSums_238 (by decide) ?_
  exact g_sub [2, 3, 4, 5, 6, 1, 0] rfl (Hk40 v1 v2 v3 v4 s0 (v6 + (1 : Int32))  h)
set_option maxHeartbeats 4000000 in
set_option maxRecDepth 100000 in
theorem t_B_L_areSums_232 {kh40 : Int32 → Int32 → Int32 → Int32 → Int32 → Int32 → Prop} {Q : Int32 → Prop} (C : CxX p s m args c D (tysX cA) RL cL_areSums 8 wsL_areSums) (hrt9 : meth.sig.returnType = (some .boolean)) (hlk : meth.locks = false) (Hk40 : ∀ (v1q : Int32) (v2q : Int32) (v3q : Int32) (v4q : Int32) (v5q : Int32) (v6q : Int32)  , kh40 v1q v2q v3q v4q v5q v6q → GoX p l e rmL_areSums s m args below meth c D A 8 0 0 (QP_L_areSums D A ad cA tl tx mn sd e0 e1 e2 e3 e4 e5 e6 e7 e8 e9 e10 fr hd nw kp pt hr lr Q below args s) 40 [(0, .ref (ad 0)), (1, .int v1q), (2, .int v2q), (3, .int v3q), (4, .int v4q), (5, .int v5q), (6, .int v6q)] [] (WX ad cA tl tx mn sd e0 e1 e2 e3 e4 e5 e6 e7 e8 e9 e10 fr hd nw kp pt hr lr)) (v1 : Int32) (v2 : Int32) (v3 : Int32) (v4 : Int32) (v6 : Int32)   (h : B_L_areSums_232 kh40 Q nw kp hr lr v1 v2 v3 v4 v6) : GoX p l e rmL_areSums s m args below meth c D A 8 0 0 (QP_L_areSums D A ad cA tl tx mn sd e0 e1 e2 e3 e4 e5 e6 e7 e8 e9 e10 fr hd nw kp pt hr lr Q below args s) 232 [(0, .ref (ad 0)), (1, .int v1), (2, .int v2), (3, .int v3), (4, .int v4), (6, .int v6)] [] (WX ad cA tl tx mn sd e0 e1 e2 e3 e4 e5 e6 e7 e8 e9 e10 fr hd nw kp pt hr lr) := by
  replace h : (B_L_areSums_233 kh40 Q nw kp hr lr v1 v2 v3 v4 v6 (0 : Int32)) := h
  refine g_iconst C (0 : Int32) dL_areSums_232 (by decide) ?_
  exact g_sub [0, 1, 2, 3, 4, 5] rfl (t_B_L_areSums_233 C hrt9 hlk Hk40 v1 v2 v3 v4 v6 (0 : Int32)  h)
set_option maxHeartbeats 4000000 in
set_option maxRecDepth 100000 in
theorem t_B_L_areSums_179 {kh40 : Int32 → Int32 → Int32 → Int32 → Int32 → Int32 → Prop} {Q : Int32 → Prop} (C : CxX p s m args c D (tysX cA) RL cL_areSums 8 wsL_areSums) (hrt9 : meth.sig.returnType = (some .boolean)) (hlk : meth.locks = false) (Hk40 : ∀ (v1q : Int32) (v2q : Int32) (v3q : Int32) (v4q : Int32) (v5q : Int32) (v6q : Int32)  , kh40 v1q v2q v3q v4q v5q v6q → GoX p l e rmL_areSums s m args below meth c D A 8 0 0 (QP_L_areSums D A ad cA tl tx mn sd e0 e1 e2 e3 e4 e5 e6 e7 e8 e9 e10 fr hd nw kp pt hr lr Q below args s) 40 [(0, .ref (ad 0)), (1, .int v1q), (2, .int v2q), (3, .int v3q), (4, .int v4q), (5, .int v5q), (6, .int v6q)] [] (WX ad cA tl tx mn sd e0 e1 e2 e3 e4 e5 e6 e7 e8 e9 e10 fr hd nw kp pt hr lr)) (v1 : Int32) (v2 : Int32) (v3 : Int32) (v4 : Int32) (v5 : Int32) (v6 : Int32)   (h : B_L_areSums_179 kh40 Q nw kp hr lr v1 v2 v3 v4 v5 v6) : GoX p l e rmL_areSums s m args below meth c D A 8 0 0 (QP_L_areSums D A ad cA tl tx mn sd e0 e1 e2 e3 e4 e5 e6 e7 e8 e9 e10 fr hd nw kp pt hr lr Q below args s) 179 [(0, .ref (ad 0)), (1, .int v1), (2, .int v2), (3, .int v3), (4, .int v4), (5, .int v5), (6, .int v6)] [] (WX ad cA tl tx mn sd e0 e1 e2 e3 e4 e5 e6 e7 e8 e9 e10 fr hd nw kp pt hr lr) := by
  replace h : ((v5 = 0 → (B_L_areSums_232 kh40 Q nw kp hr lr v1 v2 v3 v4 v6)) ∧ (¬ v5 = 0 → (F_X5_hearer v6 (8 : Int32) hr (fun r_20 => (F_X5_hearer v6 (7 : Int32) hr (fun r_21 => ((r_21 < r_20 → (B_L_areSums_232 kh40 Q nw kp hr lr v1 v2 v3 v4 v6)) ∧ (¬ r_21 < r_20 → (F_X5_hearer v6 (6 : Int32) hr (fun r_23 => ((r_23 < (1 : Int32) → (B_L_areSums_232 kh40 Q nw kp hr lr v1 v2 v3 v4 v6)) ∧ (¬ r_23 < (1 : Int32) → (F_X5_hearer v6 (6 : Int32) hr (fun r_25 => (((12 : Int32) < r_25 → (B_L_areSums_232 kh40 Q nw kp hr lr v1 v2 v3 v4 v6)) ∧ (¬ (12 : Int32) < r_25 → (B_L_areSums_233 kh40 Q nw kp hr lr v1 v2 v3 v4 v6 (1 : Int32)))))))))))))))))) := h
  refine g_iload C 5 dL_areSums_179 rfl ?_
  refine g_if_eq C 232 dL_areSums_181 (by decide) (fun c_19 => ?_) (fun c_19 => ?_)
  · replace h := h.1 c_19
    exact g_sub [0, 1, 2, 3, 4, 6] rfl (t_B_L_areSums_232 C hrt9 hlk Hk40 v1 v2 v3 v4 v6  h)
  · replace h := h.2 c_19
    refine g_aload_n C 0 dL_areSums_184 rfl rfl ?_
    refine g_iload C 6 dL_areSums_185 rfl ?_
    refine g_bipush C (8 : Int32) dL_areSums_187 (by decide) ?_
    refine k_X5_hearer C gL_areSums_X5_hearer ⟨Nat.le_of_ble_eq_true rfl, Nat.le_of_ble_eq_true rfl⟩ ⟨Nat.zero_le _, Nat.zero_le _⟩ (Nat.le_of_ble_eq_true rfl) dL_areSums_189  h (fun r_20 h => ?_)
    refine g_aload_n C 0 dL_areSums_192 rfl rfl ?_
    refine g_iload C 6 dL_areSums_193 rfl ?_
    refine g_bipush C (7 : Int32) dL_areSums_195 (by decide) ?_
    refine k_X5_hearer C gL_areSums_X5_hearer ⟨Nat.le_of_ble_eq_true rfl, Nat.le_of_ble_eq_true rfl⟩ ⟨Nat.zero_le _, Nat.zero_le _⟩ (Nat.le_of_ble_eq_true rfl) dL_areSums_197  h (fun r_21 h => ?_)
    refine g_icmp_gt C 232 dL_areSums_200 (by decide) (fun c_22 => ?_) (fun c_22 => ?_)
    · replace h := h.1 c_22
      exact g_sub [0, 1, 2, 3, 4, 6] rfl (t_B_L_areSums_232 C hrt9 hlk Hk40 v1 v2 v3 v4 v6  h)
    · replace h := h.2 c_22
      refine g_aload_n C 0 dL_areSums_203 rfl rfl ?_
      refine g_iload C 6 dL_areSums_204 rfl ?_
      refine g_bipush C (6 : Int32) dL_areSums_206 (by decide) ?_
      refine k_X5_hearer C gL_areSums_X5_hearer ⟨Nat.le_of_ble_eq_true rfl, Nat.le_of_ble_eq_true rfl⟩ ⟨Nat.zero_le _, Nat.zero_le _⟩ (Nat.le_of_ble_eq_true rfl) dL_areSums_208  h (fun r_23 h => ?_)
      refine g_iconst C (1 : Int32) dL_areSums_211 (by decide) ?_
      refine g_icmp_lt C 232 dL_areSums_212 (by decide) (fun c_24 => ?_) (fun c_24 => ?_)
      · replace h := h.1 c_24
        exact g_sub [0, 1, 2, 3, 4, 6] rfl (t_B_L_areSums_232 C hrt9 hlk Hk40 v1 v2 v3 v4 v6  h)
      · replace h := h.2 c_24
        refine g_aload_n C 0 dL_areSums_215 rfl rfl ?_
        refine g_iload C 6 dL_areSums_216 rfl ?_
        refine g_bipush C (6 : Int32) dL_areSums_218 (by decide) ?_
        refine k_X5_hearer C gL_areSums_X5_hearer ⟨Nat.le_of_ble_eq_true rfl, Nat.le_of_ble_eq_true rfl⟩ ⟨Nat.zero_le _, Nat.zero_le _⟩ (Nat.le_of_ble_eq_true rfl) dL_areSums_220  h (fun r_25 h => ?_)
        refine g_bipush C (12 : Int32) dL_areSums_223 (by decide) ?_
        refine g_icmp_gt C 232 dL_areSums_225 (by decide) (fun c_26 => ?_) (fun c_26 => ?_)
        · replace h := h.1 c_26
          exact g_sub [0, 1, 2, 3, 4, 6] rfl (t_B_L_areSums_232 C hrt9 hlk Hk40 v1 v2 v3 v4 v6  h)
        · replace h := h.2 c_26
          refine g_iconst C (1 : Int32) dL_areSums_228 (by decide) ?_
          refine g_goto C 233 dL_areSums_229 (by decide) ?_
          exact g_sub [0, 1, 2, 3, 4, 6] rfl (t_B_L_areSums_233 C hrt9 hlk Hk40 v1 v2 v3 v4 v6 (1 : Int32)  h)
set_option maxHeartbeats 4000000 in
set_option maxRecDepth 100000 in
theorem t_B_L_areSums_171 {kh40 : Int32 → Int32 → Int32 → Int32 → Int32 → Int32 → Prop} {kh77 : Int32 → Int32 → Int32 → Int32 → Int32 → Int32 → Int32 → Prop} {Q : Int32 → Prop} (C : CxX p s m args c D (tysX cA) RL cL_areSums 8 wsL_areSums) (hrt9 : meth.sig.returnType = (some .boolean)) (hlk : meth.locks = false) (Hk40 : ∀ (v1q : Int32) (v2q : Int32) (v3q : Int32) (v4q : Int32) (v5q : Int32) (v6q : Int32)  , kh40 v1q v2q v3q v4q v5q v6q → GoX p l e rmL_areSums s m args below meth c D A 8 0 0 (QP_L_areSums D A ad cA tl tx mn sd e0 e1 e2 e3 e4 e5 e6 e7 e8 e9 e10 fr hd nw kp pt hr lr Q below args s) 40 [(0, .ref (ad 0)), (1, .int v1q), (2, .int v2q), (3, .int v3q), (4, .int v4q), (5, .int v5q), (6, .int v6q)] [] (WX ad cA tl tx mn sd e0 e1 e2 e3 e4 e5 e6 e7 e8 e9 e10 fr hd nw kp pt hr lr)) (Hk77 : ∀ (v1q : Int32) (v2q : Int32) (v3q : Int32) (v4q : Int32) (v5q : Int32) (v6q : Int32) (v7q : Int32)  , kh77 v1q v2q v3q v4q v5q v6q v7q → GoX p l e rmL_areSums s m args below meth c D A 8 0 0 (QP_L_areSums D A ad cA tl tx mn sd e0 e1 e2 e3 e4 e5 e6 e7 e8 e9 e10 fr hd nw kp pt hr lr Q below args s) 77 [(0, .ref (ad 0)), (1, .int v1q), (2, .int v2q), (3, .int v3q), (4, .int v4q), (5, .int v5q), (6, .int v6q), (7, .int v7q)] [] (WX ad cA tl tx mn sd e0 e1 e2 e3 e4 e5 e6 e7 e8 e9 e10 fr hd nw kp pt hr lr)) (v1 : Int32) (v2 : Int32) (v3 : Int32) (v4 : Int32) (v6 : Int32) (v7 : Int32) (s0 : Int32)   (h : B_L_areSums_171 kh40 kh77 Q nw kp hr lr v1 v2 v3 v4 v6 v7 s0) : GoX p l e rmL_areSums s m args below meth c D A 8 0 0 (QP_L_areSums D A ad cA tl tx mn sd e0 e1 e2 e3 e4 e5 e6 e7 e8 e9 e10 fr hd nw kp pt hr lr Q below args s) 171 [(0, .ref (ad 0)), (1, .int v1), (2, .int v2), (3, .int v3), (4, .int v4), (6, .int v6), (7, .int v7)] [.int s0] (WX ad cA tl tx mn sd e0 e1 e2 e3 e4 e5 e6 e7 e8 e9 e10 fr hd nw kp pt hr lr) := by
  replace h : (kh77 v1 v2 v3 v4 s0 v6 (v7 + (1 : Int32))) := h
  refine g_istore C (lv2 := [(5, .int s0), (0, .ref (ad 0)), (1, .int v1), (2, .int v2), (3, .int v3), (4, .int v4), (6, .int v6), (7, .int v7)]) dL_areSums_171 (by decide) rfl ?_
  refine g_iinc C (v := (v7 + (1 : Int32))) (lv2 := [(7, .int (v7 + (1 : Int32))), (5, .int s0), (0, .ref (ad 0)), (1, .int v1), (2, .int v2), (3, .int v3), (4, .int v4), (6, .int v6)]) 7 dL_areSums_173 rfl rfl (by decide) rfl ?_
  refine g_goto C 77 dL_areSums_176 (by decide) ?_
  exact g_sub [2, 3, 4, 5, 6, 1, 7, 0] rfl (Hk77 v1 v2 v3 v4 s0 v6 (v7 + (1 : Int32))  h)
set_option maxHeartbeats 4000000 in
set_option maxRecDepth 100000 in
theorem t_B_L_areSums_170 {kh40 : Int32 → Int32 → Int32 → Int32 → Int32 → Int32 → Prop} {kh77 : Int32 → Int32 → Int32 → Int32 → Int32 → Int32 → Int32 → Prop} {Q : Int32 → Prop} (C : CxX p s m args c D (tysX cA) RL cL_areSums 8 wsL_areSums) (hrt9 : meth.sig.returnType = (some .boolean)) (hlk : meth.locks = false) (Hk40 : ∀ (v1q : Int32) (v2q : Int32) (v3q : Int32) (v4q : Int32) (v5q : Int32) (v6q : Int32)  , kh40 v1q v2q v3q v4q v5q v6q → GoX p l e rmL_areSums s m args below meth c D A 8 0 0 (QP_L_areSums D A ad cA tl tx mn sd e0 e1 e2 e3 e4 e5 e6 e7 e8 e9 e10 fr hd nw kp pt hr lr Q below args s) 40 [(0, .ref (ad 0)), (1, .int v1q), (2, .int v2q), (3, .int v3q), (4, .int v4q), (5, .int v5q), (6, .int v6q)] [] (WX ad cA tl tx mn sd e0 e1 e2 e3 e4 e5 e6 e7 e8 e9 e10 fr hd nw kp pt hr lr)) (Hk77 : ∀ (v1q : Int32) (v2q : Int32) (v3q : Int32) (v4q : Int32) (v5q : Int32) (v6q : Int32) (v7q : Int32)  , kh77 v1q v2q v3q v4q v5q v6q v7q → GoX p l e rmL_areSums s m args below meth c D A 8 0 0 (QP_L_areSums D A ad cA tl tx mn sd e0 e1 e2 e3 e4 e5 e6 e7 e8 e9 e10 fr hd nw kp pt hr lr Q below args s) 77 [(0, .ref (ad 0)), (1, .int v1q), (2, .int v2q), (3, .int v3q), (4, .int v4q), (5, .int v5q), (6, .int v6q), (7, .int v7q)] [] (WX ad cA tl tx mn sd e0 e1 e2 e3 e4 e5 e6 e7 e8 e9 e10 fr hd nw kp pt hr lr)) (v1 : Int32) (v2 : Int32) (v3 : Int32) (v4 : Int32) (v6 : Int32) (v7 : Int32)   (h : B_L_areSums_170 kh40 kh77 Q nw kp hr lr v1 v2 v3 v4 v6 v7) : GoX p l e rmL_areSums s m args below meth c D A 8 0 0 (QP_L_areSums D A ad cA tl tx mn sd e0 e1 e2 e3 e4 e5 e6 e7 e8 e9 e10 fr hd nw kp pt hr lr Q below args s) 170 [(0, .ref (ad 0)), (1, .int v1), (2, .int v2), (3, .int v3), (4, .int v4), (6, .int v6), (7, .int v7)] [] (WX ad cA tl tx mn sd e0 e1 e2 e3 e4 e5 e6 e7 e8 e9 e10 fr hd nw kp pt hr lr) := by
  replace h : (B_L_areSums_171 kh40 kh77 Q nw kp hr lr v1 v2 v3 v4 v6 v7 (0 : Int32)) := h
  refine g_iconst C (0 : Int32) dL_areSums_170 (by decide) ?_
  exact g_sub [0, 1, 2, 3, 4, 5, 6] rfl (t_B_L_areSums_171 C hrt9 hlk Hk40 Hk77 v1 v2 v3 v4 v6 v7 (0 : Int32)  h)
set_option maxHeartbeats 4000000 in
set_option maxRecDepth 100000 in
theorem t_B_L_areSums_166 {kh40 : Int32 → Int32 → Int32 → Int32 → Int32 → Int32 → Prop} {kh77 : Int32 → Int32 → Int32 → Int32 → Int32 → Int32 → Int32 → Prop} {Q : Int32 → Prop} (C : CxX p s m args c D (tysX cA) RL cL_areSums 8 wsL_areSums) (hrt9 : meth.sig.returnType = (some .boolean)) (hlk : meth.locks = false) (Hk40 : ∀ (v1q : Int32) (v2q : Int32) (v3q : Int32) (v4q : Int32) (v5q : Int32) (v6q : Int32)  , kh40 v1q v2q v3q v4q v5q v6q → GoX p l e rmL_areSums s m args below meth c D A 8 0 0 (QP_L_areSums D A ad cA tl tx mn sd e0 e1 e2 e3 e4 e5 e6 e7 e8 e9 e10 fr hd nw kp pt hr lr Q below args s) 40 [(0, .ref (ad 0)), (1, .int v1q), (2, .int v2q), (3, .int v3q), (4, .int v4q), (5, .int v5q), (6, .int v6q)] [] (WX ad cA tl tx mn sd e0 e1 e2 e3 e4 e5 e6 e7 e8 e9 e10 fr hd nw kp pt hr lr)) (Hk77 : ∀ (v1q : Int32) (v2q : Int32) (v3q : Int32) (v4q : Int32) (v5q : Int32) (v6q : Int32) (v7q : Int32)  , kh77 v1q v2q v3q v4q v5q v6q v7q → GoX p l e rmL_areSums s m args below meth c D A 8 0 0 (QP_L_areSums D A ad cA tl tx mn sd e0 e1 e2 e3 e4 e5 e6 e7 e8 e9 e10 fr hd nw kp pt hr lr Q below args s) 77 [(0, .ref (ad 0)), (1, .int v1q), (2, .int v2q), (3, .int v3q), (4, .int v4q), (5, .int v5q), (6, .int v6q), (7, .int v7q)] [] (WX ad cA tl tx mn sd e0 e1 e2 e3 e4 e5 e6 e7 e8 e9 e10 fr hd nw kp pt hr lr)) (v1 : Int32) (v2 : Int32) (v3 : Int32) (v4 : Int32) (v6 : Int32) (v7 : Int32)   (h : B_L_areSums_166 kh40 kh77 Q nw kp hr lr v1 v2 v3 v4 v6 v7) : GoX p l e rmL_areSums s m args below meth c D A 8 0 0 (QP_L_areSums D A ad cA tl tx mn sd e0 e1 e2 e3 e4 e5 e6 e7 e8 e9 e10 fr hd nw kp pt hr lr Q below args s) 166 [(0, .ref (ad 0)), (1, .int v1), (2, .int v2), (3, .int v3), (4, .int v4), (6, .int v6), (7, .int v7)] [] (WX ad cA tl tx mn sd e0 e1 e2 e3 e4 e5 e6 e7 e8 e9 e10 fr hd nw kp pt hr lr) := by
  replace h : (B_L_areSums_171 kh40 kh77 Q nw kp hr lr v1 v2 v3 v4 v6 v7 (1 : Int32)) := h
  refine g_iconst C (1 : Int32) dL_areSums_166 (by decide) ?_
  refine g_goto C 171 dL_areSums_167 (by decide) ?_
  exact g_sub [0, 1, 2, 3, 4, 5, 6] rfl (t_B_L_areSums_171 C hrt9 hlk Hk40 Hk77 v1 v2 v3 v4 v6 v7 (1 : Int32)  h)
set_option maxHeartbeats 4000000 in
set_option maxRecDepth 100000 in
theorem t_L_L_areSums_77 {kh40 : Int32 → Int32 → Int32 → Int32 → Int32 → Int32 → Prop} {Q : Int32 → Prop} (C : CxX p s m args c D (tysX cA) RL cL_areSums 8 wsL_areSums) (hrt9 : meth.sig.returnType = (some .boolean)) (hlk : meth.locks = false) (Hk40 : ∀ (v1q : Int32) (v2q : Int32) (v3q : Int32) (v4q : Int32) (v5q : Int32) (v6q : Int32)  , kh40 v1q v2q v3q v4q v5q v6q → GoX p l e rmL_areSums s m args below meth c D A 8 0 0 (QP_L_areSums D A ad cA tl tx mn sd e0 e1 e2 e3 e4 e5 e6 e7 e8 e9 e10 fr hd nw kp pt hr lr Q below args s) 40 [(0, .ref (ad 0)), (1, .int v1q), (2, .int v2q), (3, .int v3q), (4, .int v4q), (5, .int v5q), (6, .int v6q)] [] (WX ad cA tl tx mn sd e0 e1 e2 e3 e4 e5 e6 e7 e8 e9 e10 fr hd nw kp pt hr lr)) (m9 : Nat) : ∀ (v1 : Int32) (v2 : Int32) (v3 : Int32) (v4 : Int32) (v5 : Int32) (v6 : Int32) (v7 : Int32)  , L_L_areSums_77 kh40 Q nw kp hr lr m9 v1 v2 v3 v4 v5 v6 v7 → GoX p l e rmL_areSums s m args below meth c D A 8 0 0 (QP_L_areSums D A ad cA tl tx mn sd e0 e1 e2 e3 e4 e5 e6 e7 e8 e9 e10 fr hd nw kp pt hr lr Q below args s) 77 [(0, .ref (ad 0)), (1, .int v1), (2, .int v2), (3, .int v3), (4, .int v4), (5, .int v5), (6, .int v6), (7, .int v7)] [] (WX ad cA tl tx mn sd e0 e1 e2 e3 e4 e5 e6 e7 e8 e9 e10 fr hd nw kp pt hr lr) := by
  induction m9 with
  | zero =>
    intro v1 v2 v3 v4 v5 v6 v7 h
    exact False.elim h
  | succ m9 Hk77 =>
    intro v1 v2 v3 v4 v5 v6 v7 h
    replace h : (((3 : Int32) ≤ v7 → (B_L_areSums_179 kh40 Q nw kp hr lr v1 v2 v3 v4 v5 v6)) ∧ (¬ (3 : Int32) ≤ v7 → ((v5 = 0 → (B_L_areSums_179 kh40 Q nw kp hr lr v1 v2 v3 v4 v5 v6)) ∧ (¬ v5 = 0 → (F_X5_hearer v6 v7 hr (fun r_29 => (F_X5_hearer v6 ((3 : Int32) + v7) hr (fun r_30 => (F_X5_hearer v6 ((3 : Int32) + v7) hr (fun r_31 => ((r_31 < 0 → (B_L_areSums_170 kh40 (L_L_areSums_77 kh40 Q nw kp hr lr m9) Q nw kp hr lr v1 v2 (v3 + r_29) (v4 + r_30) v6 v7)) ∧ (¬ r_31 < 0 → (F_X5_hearer v6 ((3 : Int32) + v7) hr (fun r_33 => (((9 : Int32) < r_33 → (B_L_areSums_170 kh40 (L_L_areSums_77 kh40 Q nw kp hr lr m9) Q nw kp hr lr v1 v2 (v3 + r_29) (v4 + r_30) v6 v7)) ∧ (¬ (9 : Int32) < r_33 → (F_X5_hearer v6 v7 hr (fun r_35 => ((r_35 = 0 → (B_L_areSums_166 kh40 (L_L_areSums_77 kh40 Q nw kp hr lr m9) Q nw kp hr lr v1 v2 (v3 + r_29) (v4 + r_30) v6 v7)) ∧ (¬ r_35 = 0 → (F_X5_hearer v6 ((3 : Int32) + v7) hr (fun r_37 => ((r_37 = 0 → (B_L_areSums_166 kh40 (L_L_areSums_77 kh40 Q nw kp hr lr m9) Q nw kp hr lr v1 v2 (v3 + r_29) (v4 + r_30) v6 v7)) ∧ (¬ r_37 = 0 → (B_L_areSums_170 kh40 (L_L_areSums_77 kh40 Q nw kp hr lr m9) Q nw kp hr lr v1 v2 (v3 + r_29) (v4 + r_30) v6 v7))))))))))))))))))))))))) := h
    refine g_iload C 7 dL_areSums_77 rfl ?_
    refine g_iconst C (3 : Int32) dL_areSums_79 (by decide) ?_
    refine g_icmp_ge C 179 dL_areSums_80 (by decide) (fun c_27 => ?_) (fun c_27 => ?_)
    · replace h := h.1 c_27
      exact g_sub [0, 1, 2, 3, 4, 5, 6] rfl (t_B_L_areSums_179 C hrt9 hlk Hk40 v1 v2 v3 v4 v5 v6  h)
    · replace h := h.2 c_27
      refine g_iload C 5 dL_areSums_83 rfl ?_
      refine g_if_eq C 179 dL_areSums_85 (by decide) (fun c_28 => ?_) (fun c_28 => ?_)
      · replace h := h.1 c_28
        exact g_sub [0, 1, 2, 3, 4, 5, 6] rfl (t_B_L_areSums_179 C hrt9 hlk Hk40 v1 v2 v3 v4 v5 v6  h)
      · replace h := h.2 c_28
        refine g_iload_n C 3 dL_areSums_88 rfl rfl ?_
        refine g_aload_n C 0 dL_areSums_89 rfl rfl ?_
        refine g_iload C 6 dL_areSums_90 rfl ?_
        refine g_iload C 7 dL_areSums_92 rfl ?_
        refine k_X5_hearer C gL_areSums_X5_hearer ⟨Nat.le_of_ble_eq_true rfl, Nat.le_of_ble_eq_true rfl⟩ ⟨Nat.zero_le _, Nat.zero_le _⟩ (Nat.le_of_ble_eq_true rfl) dL_areSums_94  h (fun r_29 h => ?_)
        refine g_iadd C dL_areSums_97 ?_
        refine g_istore_n C (lv2 := [(3, .int (v3 + r_29)), (0, .ref (ad 0)), (1, .int v1), (2, .int v2), (4, .int v4), (5, .int v5), (6, .int v6), (7, .int v7)]) dL_areSums_98 rfl (by decide) rfl ?_
        refine g_iload C 4 dL_areSums_99 rfl ?_
        refine g_aload_n C 1 dL_areSums_101 rfl rfl ?_
        refine g_iload C 6 dL_areSums_102 rfl ?_
        refine g_iconst C (3 : Int32) dL_areSums_104 (by decide) ?_
        refine g_iload C 7 dL_areSums_105 rfl ?_
        refine g_iadd C dL_areSums_107 ?_
        refine k_X5_hearer C gL_areSums_X5_hearer ⟨Nat.le_of_ble_eq_true rfl, Nat.le_of_ble_eq_true rfl⟩ ⟨Nat.zero_le _, Nat.zero_le _⟩ (Nat.le_of_ble_eq_true rfl) dL_areSums_108  h (fun r_30 h => ?_)
        refine g_iadd C dL_areSums_111 ?_
        refine g_istore C (lv2 := [(4, .int (v4 + r_30)), (3, .int (v3 + r_29)), (0, .ref (ad 0)), (1, .int v1), (2, .int v2), (5, .int v5), (6, .int v6), (7, .int v7)]) dL_areSums_112 (by decide) rfl ?_
        refine g_aload_n C 2 dL_areSums_114 rfl rfl ?_
        refine g_iload C 6 dL_areSums_115 rfl ?_
        refine g_iconst C (3 : Int32) dL_areSums_117 (by decide) ?_
        refine g_iload C 7 dL_areSums_118 rfl ?_
        refine g_iadd C dL_areSums_120 ?_
        refine k_X5_hearer C gL_areSums_X5_hearer ⟨Nat.le_of_ble_eq_true rfl, Nat.le_of_ble_eq_true rfl⟩ ⟨Nat.zero_le _, Nat.zero_le _⟩ (Nat.le_of_ble_eq_true rfl) dL_areSums_121  h (fun r_31 h => ?_)
        refine g_if_lt C 170 dL_areSums_124 (by decide) (fun c_32 => ?_) (fun c_32 => ?_)
        · replace h := h.1 c_32
          exact g_sub [2, 3, 4, 1, 0, 6, 7] rfl (t_B_L_areSums_170 C hrt9 hlk Hk40 Hk77 v1 v2 (v3 + r_29) (v4 + r_30) v6 v7  h)
        · replace h := h.2 c_32
          refine g_aload_n C 2 dL_areSums_127 rfl rfl ?_
          refine g_iload C 6 dL_areSums_128 rfl ?_
          refine g_iconst C (3 : Int32) dL_areSums_130 (by decide) ?_
          refine g_iload C 7 dL_areSums_131 rfl ?_
          refine g_iadd C dL_areSums_133 ?_
          refine k_X5_hearer C gL_areSums_X5_hearer ⟨Nat.le_of_ble_eq_true rfl, Nat.le_of_ble_eq_true rfl⟩ ⟨Nat.zero_le _, Nat.zero_le _⟩ (Nat.le_of_ble_eq_true rfl) dL_areSums_134  h (fun r_33 h => ?_)
          refine g_bipush C (9 : Int32) dL_areSums_137 (by decide) ?_
          refine g_icmp_gt C 170 dL_areSums_139 (by decide) (fun c_34 => ?_) (fun c_34 => ?_)
          · replace h := h.1 c_34
            exact g_sub [2, 3, 4, 1, 0, 6, 7] rfl (t_B_L_areSums_170 C hrt9 hlk Hk40 Hk77 v1 v2 (v3 + r_29) (v4 + r_30) v6 v7  h)
          · replace h := h.2 c_34
            refine g_aload_n C 2 dL_areSums_142 rfl rfl ?_
            refine g_iload C 6 dL_areSums_143 rfl ?_
            refine g_iload C 7 dL_areSums_145 rfl ?_
            refine k_X5_hearer C gL_areSums_X5_hearer ⟨Nat.le_of_ble_eq_true rfl, Nat.le_of_ble_eq_true rfl⟩ ⟨Nat.zero_le _, Nat.zero_le _⟩ (Nat.le_of_ble_eq_true rfl) dL_areSums_147  h (fun r_35 h => ?_)
            refine g_if_eq C 166 dL_areSums_150 (by decide) (fun c_36 => ?_) (fun c_36 => ?_)
            · replace h := h.1 c_36
              exact g_sub [2, 3, 4, 1, 0, 6, 7] rfl (t_B_L_areSums_166 C hrt9 hlk Hk40 Hk77 v1 v2 (v3 + r_29) (v4 + r_30) v6 v7  h)
            · replace h := h.2 c_36
              refine g_aload_n C 2 dL_areSums_153 rfl rfl ?_
              refine g_iload C 6 dL_areSums_154 rfl ?_
              refine g_iconst C (3 : Int32) dL_areSums_156 (by decide) ?_
              refine g_iload C 7 dL_areSums_157 rfl ?_
              refine g_iadd C dL_areSums_159 ?_
              refine k_X5_hearer C gL_areSums_X5_hearer ⟨Nat.le_of_ble_eq_true rfl, Nat.le_of_ble_eq_true rfl⟩ ⟨Nat.zero_le _, Nat.zero_le _⟩ (Nat.le_of_ble_eq_true rfl) dL_areSums_160  h (fun r_37 h => ?_)
              refine g_if_ne C 170 dL_areSums_163 (by decide) (fun c_38 => ?_) (fun c_38 => ?_)
              · replace h := h.2 c_38
                exact g_sub [2, 3, 4, 1, 0, 6, 7] rfl (t_B_L_areSums_170 C hrt9 hlk Hk40 Hk77 v1 v2 (v3 + r_29) (v4 + r_30) v6 v7  h)
              · replace h := h.1 c_38
                exact g_sub [2, 3, 4, 1, 0, 6, 7] rfl (t_B_L_areSums_166 C hrt9 hlk Hk40 Hk77 v1 v2 (v3 + r_29) (v4 + r_30) v6 v7  h)
set_option maxHeartbeats 4000000 in
set_option maxRecDepth 100000 in
theorem t_L_L_areSums_40  {Q : Int32 → Prop} (C : CxX p s m args c D (tysX cA) RL cL_areSums 8 wsL_areSums) (hrt9 : meth.sig.returnType = (some .boolean)) (hlk : meth.locks = false) (m9 : Nat) : ∀ (v1 : Int32) (v2 : Int32) (v3 : Int32) (v4 : Int32) (v5 : Int32) (v6 : Int32)  , L_L_areSums_40  Q nw kp hr lr m9 v1 v2 v3 v4 v5 v6 → GoX p l e rmL_areSums s m args below meth c D A 8 0 0 (QP_L_areSums D A ad cA tl tx mn sd e0 e1 e2 e3 e4 e5 e6 e7 e8 e9 e10 fr hd nw kp pt hr lr Q below args s) 40 [(0, .ref (ad 0)), (1, .int v1), (2, .int v2), (3, .int v3), (4, .int v4), (5, .int v5), (6, .int v6)] [] (WX ad cA tl tx mn sd e0 e1 e2 e3 e4 e5 e6 e7 e8 e9 e10 fr hd nw kp pt hr lr) := by
  induction m9 with
  | zero =>
    intro v1 v2 v3 v4 v5 v6 h
    exact False.elim h
  | succ m9 Hk40 =>
    intro v1 v2 v3 v4 v5 v6 h
    replace h : (((6 : Int32) ≤ v6 → (B_L_areSums_241  Q nw kp hr lr v1 v2 v3 v4 v5)) ∧ (¬ (6 : Int32) ≤ v6 → ((v5 = 0 → (B_L_areSums_241  Q nw kp hr lr v1 v2 v3 v4 v5)) ∧ (¬ v5 = 0 → (F_X5_hearer v6 (7 : Int32) hr (fun r_41 => (F_X5_hearer v6 (8 : Int32) hr (fun r_42 => (∃ n9 : Nat, L_L_areSums_77 (L_L_areSums_40  Q nw kp hr lr m9) Q nw kp hr lr n9 (v1 + r_41) (v2 + r_42) v3 v4 v5 v6 (0 : Int32)))))))))) := h
    refine g_iload C 6 dL_areSums_40 rfl ?_
    refine g_bipush C (6 : Int32) dL_areSums_42 (by decide) ?_
    refine g_icmp_ge C 241 dL_areSums_44 (by decide) (fun c_39 => ?_) (fun c_39 => ?_)
    · replace h := h.1 c_39
      exact g_sub [0, 1, 2, 3, 4, 5] rfl (t_B_L_areSums_241 C hrt9 hlk  v1 v2 v3 v4 v5  h)
    · replace h := h.2 c_39
      refine g_iload C 5 dL_areSums_47 rfl ?_
      refine g_if_eq C 241 dL_areSums_49 (by decide) (fun c_40 => ?_) (fun c_40 => ?_)
      · replace h := h.1 c_40
        exact g_sub [0, 1, 2, 3, 4, 5] rfl (t_B_L_areSums_241 C hrt9 hlk  v1 v2 v3 v4 v5  h)
      · replace h := h.2 c_40
        refine g_iload_n C 1 dL_areSums_52 rfl rfl ?_
        refine g_aload_n C 0 dL_areSums_53 rfl rfl ?_
        refine g_iload C 6 dL_areSums_54 rfl ?_
        refine g_bipush C (7 : Int32) dL_areSums_56 (by decide) ?_
        refine k_X5_hearer C gL_areSums_X5_hearer ⟨Nat.le_of_ble_eq_true rfl, Nat.le_of_ble_eq_true rfl⟩ ⟨Nat.zero_le _, Nat.zero_le _⟩ (Nat.le_of_ble_eq_true rfl) dL_areSums_58  h (fun r_41 h => ?_)
        refine g_iadd C dL_areSums_61 ?_
        refine g_istore_n C (lv2 := [(1, .int (v1 + r_41)), (0, .ref (ad 0)), (2, .int v2), (3, .int v3), (4, .int v4), (5, .int v5), (6, .int v6)]) dL_areSums_62 rfl (by decide) rfl ?_
        refine g_iload_n C 2 dL_areSums_63 rfl rfl ?_
        refine g_aload_n C 1 dL_areSums_64 rfl rfl ?_
        refine g_iload C 6 dL_areSums_65 rfl ?_
        refine g_bipush C (8 : Int32) dL_areSums_67 (by decide) ?_
        refine k_X5_hearer C gL_areSums_X5_hearer ⟨Nat.le_of_ble_eq_true rfl, Nat.le_of_ble_eq_true rfl⟩ ⟨Nat.zero_le _, Nat.zero_le _⟩ (Nat.le_of_ble_eq_true rfl) dL_areSums_69  h (fun r_42 h => ?_)
        refine g_iadd C dL_areSums_72 ?_
        refine g_istore_n C (lv2 := [(2, .int (v2 + r_42)), (1, .int (v1 + r_41)), (0, .ref (ad 0)), (3, .int v3), (4, .int v4), (5, .int v5), (6, .int v6)]) dL_areSums_73 rfl (by decide) rfl ?_
        refine g_iconst C (0 : Int32) dL_areSums_74 (by decide) ?_
        refine g_istore C (lv2 := [(7, .int (0 : Int32)), (2, .int (v2 + r_42)), (1, .int (v1 + r_41)), (0, .ref (ad 0)), (3, .int v3), (4, .int v4), (5, .int v5), (6, .int v6)]) dL_areSums_75 (by decide) rfl ?_
        obtain ⟨n9, h⟩ := h
        exact g_sub [3, 2, 1, 4, 5, 6, 7, 0] rfl (t_L_L_areSums_77 C hrt9 hlk Hk40 n9 (v1 + r_41) (v2 + r_42) v3 v4 v5 v6 (0 : Int32)  h)
set_option maxHeartbeats 4000000 in
set_option maxRecDepth 100000 in
theorem t_B_L_areSums_35  {Q : Int32 → Prop} (C : CxX p s m args c D (tysX cA) RL cL_areSums 8 wsL_areSums) (hrt9 : meth.sig.returnType = (some .boolean)) (hlk : meth.locks = false) (v1 : Int32) (v2 : Int32) (v3 : Int32) (v4 : Int32) (s0 : Int32)   (h : B_L_areSums_35  Q nw kp hr lr v1 v2 v3 v4 s0) : GoX p l e rmL_areSums s m args below meth c D A 8 0 0 (QP_L_areSums D A ad cA tl tx mn sd e0 e1 e2 e3 e4 e5 e6 e7 e8 e9 e10 fr hd nw kp pt hr lr Q below args s) 35 [(0, .ref (ad 0)), (1, .int v1), (2, .int v2), (3, .int v3), (4, .int v4)] [.int s0] (WX ad cA tl tx mn sd e0 e1 e2 e3 e4 e5 e6 e7 e8 e9 e10 fr hd nw kp pt hr lr) := by
  replace h : (∃ n9 : Nat, L_L_areSums_40  Q nw kp hr lr n9 v1 v2 v3 v4 s0 (0 : Int32)) := h
  refine g_istore C (lv2 := [(5, .int s0), (0, .ref (ad 0)), (1, .int v1), (2, .int v2), (3, .int v3), (4, .int v4)]) dL_areSums_35 (by decide) rfl ?_
  refine g_iconst C (0 : Int32) dL_areSums_37 (by decide) ?_
  refine g_istore C (lv2 := [(6, .int (0 : Int32)), (5, .int s0), (0, .ref (ad 0)), (1, .int v1), (2, .int v2), (3, .int v3), (4, .int v4)]) dL_areSums_38 (by decide) rfl ?_
  obtain ⟨n9, h⟩ := h
  exact g_sub [2, 3, 4, 5, 6, 1, 0] rfl (t_L_L_areSums_40 C hrt9 hlk  n9 v1 v2 v3 v4 s0 (0 : Int32)  h)
set_option maxHeartbeats 4000000 in
set_option maxRecDepth 100000 in
theorem t_B_L_areSums_34  {Q : Int32 → Prop} (C : CxX p s m args c D (tysX cA) RL cL_areSums 8 wsL_areSums) (hrt9 : meth.sig.returnType = (some .boolean)) (hlk : meth.locks = false) (v1 : Int32) (v2 : Int32) (v3 : Int32) (v4 : Int32)   (h : B_L_areSums_34  Q nw kp hr lr v1 v2 v3 v4) : GoX p l e rmL_areSums s m args below meth c D A 8 0 0 (QP_L_areSums D A ad cA tl tx mn sd e0 e1 e2 e3 e4 e5 e6 e7 e8 e9 e10 fr hd nw kp pt hr lr Q below args s) 34 [(0, .ref (ad 0)), (1, .int v1), (2, .int v2), (3, .int v3), (4, .int v4)] [] (WX ad cA tl tx mn sd e0 e1 e2 e3 e4 e5 e6 e7 e8 e9 e10 fr hd nw kp pt hr lr) := by
  replace h : (B_L_areSums_35  Q nw kp hr lr v1 v2 v3 v4 (0 : Int32)) := h
  refine g_iconst C (0 : Int32) dL_areSums_34 (by decide) ?_
  exact g_sub [0, 1, 2, 3, 4] rfl (t_B_L_areSums_35 C hrt9 hlk  v1 v2 v3 v4 (0 : Int32)  h)
set_option maxHeartbeats 4000000 in
set_option maxRecDepth 100000 in
theorem t_B_L_areSums_0  {Q : Int32 → Prop} (C : CxX p s m args c D (tysX cA) RL cL_areSums 8 wsL_areSums) (hrt9 : meth.sig.returnType = (some .boolean)) (hlk : meth.locks = false)    (h : B_L_areSums_0  Q nw kp hr lr ) : GoX p l e rmL_areSums s m args below meth c D A 8 0 0 (QP_L_areSums D A ad cA tl tx mn sd e0 e1 e2 e3 e4 e5 e6 e7 e8 e9 e10 fr hd nw kp pt hr lr Q below args s) 0 [(0, .ref (ad 0))] [] (WX ad cA tl tx mn sd e0 e1 e2 e3 e4 e5 e6 e7 e8 e9 e10 fr hd nw kp pt hr lr) := by
  replace h : (F_X5_hearer (6 : Int32) (0 : Int32) hr (fun r_43 => ((r_43 = (-1 : Int32) → (F_X5_hearer (-1 : Int32) (0 : Int32) hr (fun r_45 => ((r_45 = (-1 : Int32) → (B_L_areSums_35  Q nw kp hr lr (0 : Int32) (0 : Int32) (0 : Int32) (0 : Int32) (1 : Int32))) ∧ (¬ r_45 = (-1 : Int32) → (B_L_areSums_34  Q nw kp hr lr (0 : Int32) (0 : Int32) (0 : Int32) (0 : Int32))))))) ∧ (¬ r_43 = (-1 : Int32) → (B_L_areSums_34  Q nw kp hr lr (0 : Int32) (0 : Int32) (0 : Int32) (0 : Int32)))))) := h
  refine g_iconst C (0 : Int32) dL_areSums_0 (by decide) ?_
  refine g_istore_n C (lv2 := [(1, .int (0 : Int32)), (0, .ref (ad 0))]) dL_areSums_1 rfl (by decide) rfl ?_
  refine g_iconst C (0 : Int32) dL_areSums_2 (by decide) ?_
  refine g_istore_n C (lv2 := [(2, .int (0 : Int32)), (1, .int (0 : Int32)), (0, .ref (ad 0))]) dL_areSums_3 rfl (by decide) rfl ?_
  refine g_iconst C (0 : Int32) dL_areSums_4 (by decide) ?_
  refine g_istore_n C (lv2 := [(3, .int (0 : Int32)), (2, .int (0 : Int32)), (1, .int (0 : Int32)), (0, .ref (ad 0))]) dL_areSums_5 rfl (by decide) rfl ?_
  refine g_iconst C (0 : Int32) dL_areSums_6 (by decide) ?_
  refine g_istore C (lv2 := [(4, .int (0 : Int32)), (3, .int (0 : Int32)), (2, .int (0 : Int32)), (1, .int (0 : Int32)), (0, .ref (ad 0))]) dL_areSums_7 (by decide) rfl ?_
  refine g_aload_n C 4 dL_areSums_9 rfl rfl ?_
  refine g_bipush C (6 : Int32) dL_areSums_10 (by decide) ?_
  refine g_iconst C (0 : Int32) dL_areSums_12 (by decide) ?_
  refine k_X5_hearer C gL_areSums_X5_hearer ⟨Nat.le_of_ble_eq_true rfl, Nat.le_of_ble_eq_true rfl⟩ ⟨Nat.zero_le _, Nat.zero_le _⟩ (Nat.le_of_ble_eq_true rfl) dL_areSums_13  h (fun r_43 h => ?_)
  refine g_iconst C (-1 : Int32) dL_areSums_16 (by decide) ?_
  refine g_icmp_ne C 34 dL_areSums_17 (by decide) (fun c_44 => ?_) (fun c_44 => ?_)
  · replace h := h.2 c_44
    exact g_sub [4, 3, 2, 1, 0] rfl (t_B_L_areSums_34 C hrt9 hlk  (0 : Int32) (0 : Int32) (0 : Int32) (0 : Int32)  h)
  · replace h := h.1 c_44
    refine g_aload_n C 4 dL_areSums_20 rfl rfl ?_
    refine g_iconst C (-1 : Int32) dL_areSums_21 (by decide) ?_
    refine g_iconst C (0 : Int32) dL_areSums_22 (by decide) ?_
    refine k_X5_hearer C gL_areSums_X5_hearer ⟨Nat.le_of_ble_eq_true rfl, Nat.le_of_ble_eq_true rfl⟩ ⟨Nat.zero_le _, Nat.zero_le _⟩ (Nat.le_of_ble_eq_true rfl) dL_areSums_23  h (fun r_45 h => ?_)
    refine g_iconst C (-1 : Int32) dL_areSums_26 (by decide) ?_
    refine g_icmp_ne C 34 dL_areSums_27 (by decide) (fun c_46 => ?_) (fun c_46 => ?_)
    · replace h := h.2 c_46
      exact g_sub [4, 3, 2, 1, 0] rfl (t_B_L_areSums_34 C hrt9 hlk  (0 : Int32) (0 : Int32) (0 : Int32) (0 : Int32)  h)
    · replace h := h.1 c_46
      refine g_iconst C (1 : Int32) dL_areSums_30 (by decide) ?_
      refine g_goto C 35 dL_areSums_31 (by decide) ?_
      exact g_sub [4, 3, 2, 1, 0] rfl (t_B_L_areSums_35 C hrt9 hlk  (0 : Int32) (0 : Int32) (0 : Int32) (0 : Int32) (1 : Int32)  h)
theorem c_L_areSums (l : Launch) (D : va_G) (A : Nat → Prop) (ad : Nat → Nat) (cA : Nat → ClassId)  {tl : Int32} {tx : (Nat → Int32)} {mn : Int32} {sd : (Nat → Int64)} {e0 : Int32} {e1 : Int32} {e2 : Int32} {e3 : Int32} {e4 : Int32} {e5 : Int32} {e6 : Int32} {e7 : Int32} {e8 : Int32} {e9 : Int32} {e10 : Int32} {fr : Int32} {hd : Int32} {nw : (Nat → Int32)} {kp : (Nat → Int32)} {pt : (Nat → Int32)} {hr : (Nat → Nat → Int32)} {lr : (Nat → Nat → Int32)}  (Q : Int32 → Prop) (h : F_L_areSums nw kp hr lr Q) : Met l yL_areSums wsL_areSums rmL_areSums (va_Pc [.ref (ad 0)] (OKX D (tysX cA) (WX ad cA tl tx mn sd e0 e1 e2 e3 e4 e5 e6 e7 e8 e9 e10 fr hd nw kp pt hr lr) A)) (QC_L_areSums D A ad cA tl tx mn sd e0 e1 e2 e3 e4 e5 e6 e7 e8 e9 e10 fr hd nw kp pt hr lr Q) 0 0 A :=
  g_met (own := RL) (by decide) rfl rfl (Nat.le_of_ble_eq_true rfl) (fun p e s m below meth c C hrt9 hlk _ => g_sub [0] rfl (t_B_L_areSums_0 C hrt9 hlk    h))
theorem k_L_areSums {ws : List Cond} {own : String} {cc : ByteArray} {nL pc index kc ks : Nat} {lv : List (Nat × Value)} {st : List Value} {Q : State → Prop} {R : Room} {K : Int32 → Prop}  (C : CxX p s m args c D (tysX cA) own cc nL ws) (hT : GoodIn ws (va_wsS own index yL_areSums wsL_areSums)) (hR : rmL_areSums.frames + 1 ≤ R.frames ∧ 8 + (8 + 11) + rmL_areSums.locals ≤ R.locals) (hk9 : kc ≤ R.cells ∧ ks ≤ R.slots) (hcat : (st.map fun v => v.category).sum ≤ 8) (hdg : decode cc pc = .ok (.invokestatic index, 3))  (h : F_L_areSums nw kp hr lr K) (kk : ∀ (r : Int32) , K r → GoX p l e R s m args below meth c D A nL kc ks Q (pc + 3) lv (.int r :: st) (WX ad cA tl tx mn sd e0 e1 e2 e3 e4 e5 e6 e7 e8 e9 e10 fr hd nw kp pt hr lr)) : GoX p l e R s m args below meth c D A nL kc ks Q pc lv (.ref (ad 0) :: st) (WX ad cA tl tx mn sd e0 e1 e2 e3 e4 e5 e6 e7 e8 e9 e10 fr hd nw kp pt hr lr) :=
  g_callSi C (As := [.ref (ad 0)]) 1 (c_L_areSums l D A ad cA   K h) hT rfl rfl rfl (by decide +kernel) hR hk9 rfl rfl hcat hdg (fun r u hu => kk r  hu)
/-! L_isTyped -/
abbrev rmL_isTyped : Room := { frames := 7, cells := 0, slots := 0, locals := 174 }
abbrev QC_L_isTyped (D : va_G) (A : Nat → Prop) (ad : Nat → Nat) (cA : Nat → ClassId) (fr : Int32) (hd : Int32) (nw : (Nat → Int32)) (kp : (Nat → Int32)) (pt : (Nat → Int32)) (hr : (Nat → Nat → Int32)) (lr : (Nat → Nat → Int32)) (Q : Int32 → Int32 → (Nat → Int32) → Int32 → (Nat → Int64) → Int32 → Int32 → Int32 → Int32 → Int32 → Int32 → Int32 → Int32 → Int32 → Int32 → Int32 → Prop) : Array Value → State → Outcome → State → Prop := va_Qi (fun (r : Int32) (u : Int32 × (Nat → Int32) × Int32 × (Nat → Int64) × Int32 × Int32 × Int32 × Int32 × Int32 × Int32 × Int32 × Int32 × Int32 × Int32 × Int32) => Q r u.1 u.2.1 u.2.2.1 u.2.2.2.1 u.2.2.2.2.1 u.2.2.2.2.2.1 u.2.2.2.2.2.2.1 u.2.2.2.2.2.2.2.1 u.2.2.2.2.2.2.2.2.1 u.2.2.2.2.2.2.2.2.2.1 u.2.2.2.2.2.2.2.2.2.2.1 u.2.2.2.2.2.2.2.2.2.2.2.1 u.2.2.2.2.2.2.2.2.2.2.2.2.1 u.2.2.2.2.2.2.2.2.2.2.2.2.2.1 u.2.2.2.2.2.2.2.2.2.2.2.2.2.2) (fun u t => OKX D (tysX cA) ((fun u : Int32 × (Nat → Int32) × Int32 × (Nat → Int64) × Int32 × Int32 × Int32 × Int32 × Int32 × Int32 × Int32 × Int32 × Int32 × Int32 × Int32 => WX ad cA u.1 u.2.1 u.2.2.1 u.2.2.2.1 u.2.2.2.2.1 u.2.2.2.2.2.1 u.2.2.2.2.2.2.1 u.2.2.2.2.2.2.2.1 u.2.2.2.2.2.2.2.2.1 u.2.2.2.2.2.2.2.2.2.1 u.2.2.2.2.2.2.2.2.2.2.1 u.2.2.2.2.2.2.2.2.2.2.2.1 u.2.2.2.2.2.2.2.2.2.2.2.2.1 u.2.2.2.2.2.2.2.2.2.2.2.2.2.1 u.2.2.2.2.2.2.2.2.2.2.2.2.2.2 fr hd nw kp pt hr lr) u) A t) A
abbrev QP_L_isTyped (D : va_G) (A : Nat → Prop) (ad : Nat → Nat) (cA : Nat → ClassId) (fr : Int32) (hd : Int32) (nw : (Nat → Int32)) (kp : (Nat → Int32)) (pt : (Nat → Int32)) (hr : (Nat → Nat → Int32)) (lr : (Nat → Nat → Int32)) (Q : Int32 → Int32 → (Nat → Int32) → Int32 → (Nat → Int64) → Int32 → Int32 → Int32 → Int32 → Int32 → Int32 → Int32 → Int32 → Int32 → Int32 → Int32 → Prop) (below : List Frame) (args : Array Value) (s : State) : State → Prop := MQ below (QC_L_isTyped D A ad cA fr hd nw kp pt hr lr Q) args s 0 0 A
def B_L_isTyped_153  (Q : Int32 → Int32 → (Nat → Int32) → Int32 → (Nat → Int64) → Int32 → Int32 → Int32 → Int32 → Int32 → Int32 → Int32 → Int32 → Int32 → Int32 → Int32 → Prop) (hr : (Nat → Nat → Int32)) (v4 : Int32) (tl : Int32) (tx : (Nat → Int32)) (mn : Int32) (sd : (Nat → Int64)) (e0 : Int32) (e1 : Int32) (e2 : Int32) (e3 : Int32) (e4 : Int32) (e5 : Int32) (e6 : Int32) (e7 : Int32) (e8 : Int32) (e9 : Int32) (e10 : Int32) : Prop := (isBo v4 ∧ (Q v4 tl tx mn sd e0 e1 e2 e3 e4 e5 e6 e7 e8 e9 e10))
def B_L_isTyped_145 (kh111 : Int32 → Int32 → Int32 → Int32 → Int32 → (Nat → Int32) → Int32 → (Nat → Int64) → Int32 → Int32 → Int32 → Int32 → Int32 → Int32 → Int32 → Int32 → Int32 → Int32 → Int32 → Prop) (Q : Int32 → Int32 → (Nat → Int32) → Int32 → (Nat → Int64) → Int32 → Int32 → Int32 → Int32 → Int32 → Int32 → Int32 → Int32 → Int32 → Int32 → Int32 → Prop) (hr : (Nat → Nat → Int32)) (v1 : Int32) (v2 : Int32) (v5 : Int32) (s0 : Int32) (tl : Int32) (tx : (Nat → Int32)) (mn : Int32) (sd : (Nat → Int64)) (e0 : Int32) (e1 : Int32) (e2 : Int32) (e3 : Int32) (e4 : Int32) (e5 : Int32) (e6 : Int32) (e7 : Int32) (e8 : Int32) (e9 : Int32) (e10 : Int32) : Prop := (kh111 v1 v2 s0 (v5 + (1 : Int32)) tl tx mn sd e0 e1 e2 e3 e4 e5 e6 e7 e8 e9 e10)
noncomputable def L_L_isTyped_111  (Q : Int32 → Int32 → (Nat → Int32) → Int32 → (Nat → Int64) → Int32 → Int32 → Int32 → Int32 → Int32 → Int32 → Int32 → Int32 → Int32 → Int32 → Int32 → Prop) (hr : (Nat → Nat → Int32)) (n9 : Nat) : Int32 → Int32 → Int32 → Int32 → Int32 → (Nat → Int32) → Int32 → (Nat → Int64) → Int32 → Int32 → Int32 → Int32 → Int32 → Int32 → Int32 → Int32 → Int32 → Int32 → Int32 → Prop := Nat.rec (motive := fun _ => Int32 → Int32 → Int32 → Int32 → Int32 → (Nat → Int32) → Int32 → (Nat → Int64) → Int32 → Int32 → Int32 → Int32 → Int32 → Int32 → Int32 → Int32 → Int32 → Int32 → Int32 → Prop) (fun _ _ _ _ _ _ _ _ _ _ _ _ _ _ _ _ _ _ _ => False) (fun _ kh111 => fun v1 v2 v4 v5 tl tx mn sd e0 e1 e2 e3 e4 e5 e6 e7 e8 e9 e10 => (((6 : Int32) ≤ v5 → (B_L_isTyped_153  Q hr v4 tl tx mn sd e0 e1 e2 e3 e4 e5 e6 e7 e8 e9 e10)) ∧ (¬ (6 : Int32) ≤ v5 → ((v4 = 0 → (B_L_isTyped_153  Q hr v4 tl tx mn sd e0 e1 e2 e3 e4 e5 e6 e7 e8 e9 e10)) ∧ (¬ v4 = 0 → (F_X5_understoodText v5 tl tx hr e0 e1 e2 e3 e4 e5 e6 e7 e8 e9 e10 (fun r_3 e0_4 e1_5 e2_6 e3_7 e4_8 e5_9 e6_10 e7_11 e8_12 e9_13 e10_14 => (F_X5_understood v5 v1 v2 hr mn sd e0_4 e1_5 e2_6 e3_7 e4_8 e5_9 e6_10 e7_11 e8_12 e9_13 e10_14 (fun r_15 mn_16 sd_17 e0_18 e1_19 e2_20 e3_21 e4_22 e5_23 e6_24 e7_25 e8_26 e9_27 e10_28 => ((r_3 = r_15 → (B_L_isTyped_145 kh111 Q hr v1 v2 v5 (1 : Int32) tl tx mn_16 sd_17 e0_18 e1_19 e2_20 e3_21 e4_22 e5_23 e6_24 e7_25 e8_26 e9_27 e10_28)) ∧ (¬ r_3 = r_15 → (B_L_isTyped_145 kh111 Q hr v1 v2 v5 (0 : Int32) tl tx mn_16 sd_17 e0_18 e1_19 e2_20 e3_21 e4_22 e5_23 e6_24 e7_25 e8_26 e9_27 e10_28)))))))))))) n9
def B_L_isTyped_106  (Q : Int32 → Int32 → (Nat → Int32) → Int32 → (Nat → Int64) → Int32 → Int32 → Int32 → Int32 → Int32 → Int32 → Int32 → Int32 → Int32 → Int32 → Int32 → Prop) (hr : (Nat → Nat → Int32)) (v1 : Int32) (v2 : Int32) (s0 : Int32) (tl : Int32) (tx : (Nat → Int32)) (mn : Int32) (sd : (Nat → Int64)) (e0 : Int32) (e1 : Int32) (e2 : Int32) (e3 : Int32) (e4 : Int32) (e5 : Int32) (e6 : Int32) (e7 : Int32) (e8 : Int32) (e9 : Int32) (e10 : Int32) : Prop := (∃ n9 : Nat, L_L_isTyped_111  Q hr n9 v1 v2 s0 (0 : Int32) tl tx mn sd e0 e1 e2 e3 e4 e5 e6 e7 e8 e9 e10)
def B_L_isTyped_105  (Q : Int32 → Int32 → (Nat → Int32) → Int32 → (Nat → Int64) → Int32 → Int32 → Int32 → Int32 → Int32 → Int32 → Int32 → Int32 → Int32 → Int32 → Int32 → Prop) (hr : (Nat → Nat → Int32)) (v1 : Int32) (v2 : Int32) (tl : Int32) (tx : (Nat → Int32)) (mn : Int32) (sd : (Nat → Int64)) (e0 : Int32) (e1 : Int32) (e2 : Int32) (e3 : Int32) (e4 : Int32) (e5 : Int32) (e6 : Int32) (e7 : Int32) (e8 : Int32) (e9 : Int32) (e10 : Int32) : Prop := (B_L_isTyped_106  Q hr v1 v2 (0 : Int32) tl tx mn sd e0 e1 e2 e3 e4 e5 e6 e7 e8 e9 e10)
def B_L_isTyped_71  (Q : Int32 → Int32 → (Nat → Int32) → Int32 → (Nat → Int64) → Int32 → Int32 → Int32 → Int32 → Int32 → Int32 → Int32 → Int32 → Int32 → Int32 → Int32 → Prop) (hr : (Nat → Nat → Int32)) (v1 : Int32) (v2 : Int32) (v4 : Int32) (tl : Int32) (tx : (Nat → Int32)) (mn : Int32) (sd : (Nat → Int64)) (e0 : Int32) (e1 : Int32) (e2 : Int32) (e3 : Int32) (e4 : Int32) (e5 : Int32) (e6 : Int32) (e7 : Int32) (e8 : Int32) (e9 : Int32) (e10 : Int32) : Prop := ((v4 = 0 → (B_L_isTyped_105  Q hr v1 v2 tl tx mn sd e0 e1 e2 e3 e4 e5 e6 e7 e8 e9 e10)) ∧ (¬ v4 = 0 → (F_X5_fault tl tx e0 e1 e2 e3 e4 e5 e6 e7 e8 e9 e10 (fun r_31 e0_32 e1_33 e2_34 e3_35 e4_36 e5_37 e6_38 e7_39 e8_40 e9_41 e10_42 => ((r_31 = (-5 : Int32) → (F_X5_meaning tl tx e0_32 e1_33 e2_34 e3_35 e4_36 e5_37 e6_38 e7_39 e8_40 e9_41 e10_42 (fun r_44 e0_45 e1_46 e2_47 e3_48 e4_49 e5_50 e6_51 e7_52 e8_53 e9_54 e10_55 => ((r_44 = v1 → (F_X5_placeOfText tl tx mn sd e0_45 e1_46 e2_47 e3_48 e4_49 e5_50 e6_51 e7_52 e8_53 e9_54 e10_55 (fun r_57 mn_58 sd_59 e0_60 e1_61 e2_62 e3_63 e4_64 e5_65 e6_66 e7_67 e8_68 e9_69 e10_70 => ((r_57 = v2 → (B_L_isTyped_106  Q hr v1 v2 (1 : Int32) tl tx mn_58 sd_59 e0_60 e1_61 e2_62 e3_63 e4_64 e5_65 e6_66 e7_67 e8_68 e9_69 e10_70)) ∧ (¬ r_57 = v2 → (B_L_isTyped_105  Q hr v1 v2 tl tx mn_58 sd_59 e0_60 e1_61 e2_62 e3_63 e4_64 e5_65 e6_66 e7_67 e8_68 e9_69 e10_70)))))) ∧ (¬ r_44 = v1 → (B_L_isTyped_105  Q hr v1 v2 tl tx mn sd e0_45 e1_46 e2_47 e3_48 e4_49 e5_50 e6_51 e7_52 e8_53 e9_54 e10_55)))))) ∧ (¬ r_31 = (-5 : Int32) → (B_L_isTyped_105  Q hr v1 v2 tl tx mn sd e0_32 e1_33 e2_34 e3_35 e4_36 e5_37 e6_38 e7_39 e8_40 e9_41 e10_42)))))))
def B_L_isTyped_63 (kh28 : Int32 → Int32 → Int32 → Int32 → Int32 → Int32 → (Nat → Int32) → Int32 → (Nat → Int64) → Int32 → Int32 → Int32 → Int32 → Int32 → Int32 → Int32 → Int32 → Int32 → Int32 → Int32 → Prop) (Q : Int32 → Int32 → (Nat → Int32) → Int32 → (Nat → Int64) → Int32 → Int32 → Int32 → Int32 → Int32 → Int32 → Int32 → Int32 → Int32 → Int32 → Int32 → Prop) (hr : (Nat → Nat → Int32)) (v1 : Int32) (v2 : Int32) (v3 : Int32) (v5 : Int32) (s0 : Int32) (tl : Int32) (tx : (Nat → Int32)) (mn : Int32) (sd : (Nat → Int64)) (e0 : Int32) (e1 : Int32) (e2 : Int32) (e3 : Int32) (e4 : Int32) (e5 : Int32) (e6 : Int32) (e7 : Int32) (e8 : Int32) (e9 : Int32) (e10 : Int32) : Prop := (kh28 v1 v2 v3 s0 (v5 + (1 : Int32)) tl tx mn sd e0 e1 e2 e3 e4 e5 e6 e7 e8 e9 e10)
noncomputable def L_L_isTyped_28  (Q : Int32 → Int32 → (Nat → Int32) → Int32 → (Nat → Int64) → Int32 → Int32 → Int32 → Int32 → Int32 → Int32 → Int32 → Int32 → Int32 → Int32 → Int32 → Prop) (hr : (Nat → Nat → Int32)) (n9 : Nat) : Int32 → Int32 → Int32 → Int32 → Int32 → Int32 → (Nat → Int32) → Int32 → (Nat → Int64) → Int32 → Int32 → Int32 → Int32 → Int32 → Int32 → Int32 → Int32 → Int32 → Int32 → Int32 → Prop := Nat.rec (motive := fun _ => Int32 → Int32 → Int32 → Int32 → Int32 → Int32 → (Nat → Int32) → Int32 → (Nat → Int64) → Int32 → Int32 → Int32 → Int32 → Int32 → Int32 → Int32 → Int32 → Int32 → Int32 → Int32 → Prop) (fun _ _ _ _ _ _ _ _ _ _ _ _ _ _ _ _ _ _ _ _ => False) (fun _ kh28 => fun v1 v2 v3 v4 v5 tl tx mn sd e0 e1 e2 e3 e4 e5 e6 e7 e8 e9 e10 => ((v3 ≤ v5 → (B_L_isTyped_71  Q hr v1 v2 v4 tl tx mn sd e0 e1 e2 e3 e4 e5 e6 e7 e8 e9 e10)) ∧ (¬ v3 ≤ v5 → ((v4 = 0 → (B_L_isTyped_71  Q hr v1 v2 v4 tl tx mn sd e0 e1 e2 e3 e4 e5 e6 e7 e8 e9 e10)) ∧ (¬ v4 = 0 → (F_X5_wayAt v1 v2 v5 mn sd (fun r_74 mn_75 sd_76 => (F_X5_append r_74 tl tx (fun r_77 tl_78 tx_79 => ((r_77 = (v5 + (1 : Int32)) → (B_L_isTyped_63 kh28 Q hr v1 v2 v3 v5 (1 : Int32) tl_78 tx_79 mn_75 sd_76 e0 e1 e2 e3 e4 e5 e6 e7 e8 e9 e10)) ∧ (¬ r_77 = (v5 + (1 : Int32)) → (B_L_isTyped_63 kh28 Q hr v1 v2 v3 v5 (0 : Int32) tl_78 tx_79 mn_75 sd_76 e0 e1 e2 e3 e4 e5 e6 e7 e8 e9 e10)))))))))))) n9
def B_L_isTyped_23  (Q : Int32 → Int32 → (Nat → Int32) → Int32 → (Nat → Int64) → Int32 → Int32 → Int32 → Int32 → Int32 → Int32 → Int32 → Int32 → Int32 → Int32 → Int32 → Prop) (hr : (Nat → Nat → Int32)) (v1 : Int32) (v2 : Int32) (v3 : Int32) (s0 : Int32) (tl : Int32) (tx : (Nat → Int32)) (mn : Int32) (sd : (Nat → Int64)) (e0 : Int32) (e1 : Int32) (e2 : Int32) (e3 : Int32) (e4 : Int32) (e5 : Int32) (e6 : Int32) (e7 : Int32) (e8 : Int32) (e9 : Int32) (e10 : Int32) : Prop := (∃ n9 : Nat, L_L_isTyped_28  Q hr n9 v1 v2 v3 s0 (0 : Int32) tl tx mn sd e0 e1 e2 e3 e4 e5 e6 e7 e8 e9 e10)
def B_L_isTyped_22  (Q : Int32 → Int32 → (Nat → Int32) → Int32 → (Nat → Int64) → Int32 → Int32 → Int32 → Int32 → Int32 → Int32 → Int32 → Int32 → Int32 → Int32 → Int32 → Prop) (hr : (Nat → Nat → Int32)) (v1 : Int32) (v2 : Int32) (v3 : Int32) (tl : Int32) (tx : (Nat → Int32)) (mn : Int32) (sd : (Nat → Int64)) (e0 : Int32) (e1 : Int32) (e2 : Int32) (e3 : Int32) (e4 : Int32) (e5 : Int32) (e6 : Int32) (e7 : Int32) (e8 : Int32) (e9 : Int32) (e10 : Int32) : Prop := (B_L_isTyped_23  Q hr v1 v2 v3 (0 : Int32) tl tx mn sd e0 e1 e2 e3 e4 e5 e6 e7 e8 e9 e10)
def B_L_isTyped_0  (Q : Int32 → Int32 → (Nat → Int32) → Int32 → (Nat → Int64) → Int32 → Int32 → Int32 → Int32 → Int32 → Int32 → Int32 → Int32 → Int32 → Int32 → Int32 → Prop) (hr : (Nat → Nat → Int32)) (v1 : Int32) (v2 : Int32) (tl : Int32) (tx : (Nat → Int32)) (mn : Int32) (sd : (Nat → Int64)) (e0 : Int32) (e1 : Int32) (e2 : Int32) (e3 : Int32) (e4 : Int32) (e5 : Int32) (e6 : Int32) (e7 : Int32) (e8 : Int32) (e9 : Int32) (e10 : Int32) : Prop := (F_X5_wayLength v1 v2 mn sd (fun r_81 mn_82 sd_83 => (F_X5_clearText tl (fun r_84 tl_85 => ((r_84 < 0 → (B_L_isTyped_22  Q hr v1 v2 r_81 tl_85 tx mn_82 sd_83 e0 e1 e2 e3 e4 e5 e6 e7 e8 e9 e10)) ∧ (¬ r_84 < 0 → ((r_81 ≤ 0 → (B_L_isTyped_22  Q hr v1 v2 r_81 tl_85 tx mn_82 sd_83 e0 e1 e2 e3 e4 e5 e6 e7 e8 e9 e10)) ∧ (¬ r_81 ≤ 0 → (B_L_isTyped_23  Q hr v1 v2 r_81 (1 : Int32) tl_85 tx mn_82 sd_83 e0 e1 e2 e3 e4 e5 e6 e7 e8 e9 e10)))))))))
def F_L_isTyped (v1 : Int32) (v2 : Int32) (hr : (Nat → Nat → Int32)) (tl : Int32) (tx : (Nat → Int32)) (mn : Int32) (sd : (Nat → Int64)) (e0 : Int32) (e1 : Int32) (e2 : Int32) (e3 : Int32) (e4 : Int32) (e5 : Int32) (e6 : Int32) (e7 : Int32) (e8 : Int32) (e9 : Int32) (e10 : Int32) (Q : Int32 → Int32 → (Nat → Int32) → Int32 → (Nat → Int64) → Int32 → Int32 → Int32 → Int32 → Int32 → Int32 → Int32 → Int32 → Int32 → Int32 → Int32 → Prop) : Prop := B_L_isTyped_0 Q hr v1 v2 tl tx mn sd e0 e1 e2 e3 e4 e5 e6 e7 e8 e9 e10
set_option maxHeartbeats 4000000 in
set_option maxRecDepth 100000 in
theorem t_B_L_isTyped_153  {Q : Int32 → Int32 → (Nat → Int32) → Int32 → (Nat → Int64) → Int32 → Int32 → Int32 → Int32 → Int32 → Int32 → Int32 → Int32 → Int32 → Int32 → Int32 → Prop} (C : CxX p s m args c D (tysX cA) RL cL_isTyped 6 wsL_isTyped) (hrt9 : meth.sig.returnType = (some .boolean)) (hlk : meth.locks = false) (v4 : Int32) (tl : Int32) (tx : (Nat → Int32)) (mn : Int32) (sd : (Nat → Int64)) (e0 : Int32) (e1 : Int32) (e2 : Int32) (e3 : Int32) (e4 : Int32) (e5 : Int32) (e6 : Int32) (e7 : Int32) (e8 : Int32) (e9 : Int32) (e10 : Int32)  (h : B_L_isTyped_153  Q hr v4 tl tx mn sd e0 e1 e2 e3 e4 e5 e6 e7 e8 e9 e10) : GoX p l e rmL_isTyped s m args below meth c D A 6 0 0 (QP_L_isTyped D A ad cA fr hd nw kp pt hr lr Q below args s) 153 [(4, .int v4)] [] (WX ad cA tl tx mn sd e0 e1 e2 e3 e4 e5 e6 e7 e8 e9 e10 fr hd nw kp pt hr lr) := by
  replace h : (isBo v4 ∧ (Q v4 tl tx mn sd e0 e1 e2 e3 e4 e5 e6 e7 e8 e9 e10)) := h
  refine g_iload C 0 dL_isTyped_153 rfl ?_
  exact g_zret C hrt9 hlk h.1.n (u := (tl, tx, mn, sd, e0, e1, e2, e3, e4, e5, e6, e7, e8, e9, e10)) rfl h.2 dL_isTyped_155
set_option maxHeartbeats 4000000 in
set_option maxRecDepth 100000 in
theorem t_B_L_isTyped_145 {kh111 : Int32 → Int32 → Int32 → Int32 → Int32 → (Nat → Int32) → Int32 → (Nat → Int64) → Int32 → Int32 → Int32 → Int32 → Int32 → Int32 → Int32 → Int32 → Int32 → Int32 → Int32 → Prop} {Q : Int32 → Int32 → (Nat → Int32) → Int32 → (Nat → Int64) → Int32 → Int32 → Int32 → Int32 → Int32 → Int32 → Int32 → Int32 → Int32 → Int32 → Int32 → Prop} (C : CxX p s m args c D (tysX cA) RL cL_isTyped 6 wsL_isTyped) (hrt9 : meth.sig.returnType = (some .boolean)) (hlk : meth.locks = false) (Hk111 : ∀ (v1q : Int32) (v2q : Int32) (v4q : Int32) (v5q : Int32) (tlq : Int32) (txq : (Nat → Int32)) (mnq : Int32) (sdq : (Nat → Int64)) (e0q : Int32) (e1q : Int32) (e2q : Int32) (e3q : Int32) (e4q : Int32) (e5q : Int32) (e6q : Int32) (e7q : Int32) (e8q : Int32) (e9q : Int32) (e10q : Int32) , kh111 v1q v2q v4q v5q tlq txq mnq sdq e0q e1q e2q e3q e4q e5q e6q e7q e8q e9q e10q → GoX p l e rmL_isTyped s m args below meth c D A 6 0 0 (QP_L_isTyped D A ad cA fr hd nw kp pt hr lr Q below args s) 111 [(0, .ref (ad 0)), (1, .int v1q), (2, .int v2q), (4, .int v4q), (5, .int v5q)] [] (WX ad cA tlq txq mnq sdq e0q e1q e2q e3q e4q e5q e6q e7q e8q e9q e10q fr hd nw kp pt hr lr)) (v1 : Int32) (v2 : Int32) (v5 : Int32) (s0 : Int32) (tl : Int32) (tx : (Nat → Int32)) (mn : Int32) (sd : (Nat → Int64)) (e0 : Int32) (e1 : Int32) (e2 : Int32) (e3 : Int32) (e4 : Int32) (e5 : Int32) (e6 : Int32) (e7 : Int32) (e8 : Int32) (e9 : Int32) (e10 : Int32)  (h : B_L_isTyped_145 kh111 Q hr v1 v2 v5 s0 tl tx mn sd e0 e1 e2 e3 e4 e5 e6 e7 e8 e9 e10) : GoX p l e rmL_isTyped s m args below meth c D A 6 0 0 (QP_L_isTyped D A ad cA fr hd nw kp pt hr lr Q below args s) 145 [(0, .ref (ad 0)), (1, .int v1), (2, .int v2), (5, .int v5)] [.int s0] (WX ad cA tl tx mn sd e0 e1 e2 e3 e4 e5 e6 e7 e8 e9 e10 fr hd nw kp pt hr lr) := by
  replace h : (kh111 v1 v2 s0 (v5 + (1 : Int32)) tl tx mn sd e0 e1 e2 e3 e4 e5 e6 e7 e8 e9 e10) := h
  refine g_istore C (lv2 := [(4, .int s0), (0, .ref (ad 0)), (1, .int v1), (2, .int v2), (5, .int v5)]) dL_isTyped_145 (by decide) rfl ?_
  refine g_iinc C (v := (v5 + (1 : Int32))) (lv2 := [(5, .int (v5 + (1 : Int32))), (4, .int s0), (0, .ref (ad 0)), (1, .int v1), (2, .int v2)]) 4 dL_isTyped_147 rfl rfl (by decide) rfl ?_
  refine g_goto C 111 dL_isTyped_150 (by decide) ?_
  exact g_sub [2, 3, 4, 1, 0] rfl (Hk111 v1 v2 s0 (v5 + (1 : Int32)) tl tx mn sd e0 e1 e2 e3 e4 e5 e6 e7 e8 e9 e10  h)
set_option maxHeartbeats 4000000 in
set_option maxRecDepth 100000 in
theorem t_L_L_isTyped_111  {Q : Int32 → Int32 → (Nat → Int32) → Int32 → (Nat → Int64) → Int32 → Int32 → Int32 → Int32 → Int32 → Int32 → Int32 → Int32 → Int32 → Int32 → Int32 → Prop} (C : CxX p s m args c D (tysX cA) RL cL_isTyped 6 wsL_isTyped) (hrt9 : meth.sig.returnType = (some .boolean)) (hlk : meth.locks = false) (m9 : Nat) : ∀ (v1 : Int32) (v2 : Int32) (v4 : Int32) (v5 : Int32) (tl : Int32) (tx : (Nat → Int32)) (mn : Int32) (sd : (Nat → Int64)) (e0 : Int32) (e1 : Int32) (e2 : Int32) (e3 : Int32) (e4 : Int32) (e5 : Int32) (e6 : Int32) (e7 : Int32) (e8 : Int32) (e9 : Int32) (e10 : Int32) , L_L_isTyped_111  Q hr m9 v1 v2 v4 v5 tl tx mn sd e0 e1 e2 e3 e4 e5 e6 e7 e8 e9 e10 → GoX p l e rmL_isTyped s m args below meth c D A 6 0 0 (QP_L_isTyped D A ad cA fr hd nw kp pt hr lr Q below args s) 111 [(0, .ref (ad 0)), (1, .int v1), (2, .int v2), (4, .int v4), (5, .int v5)] [] (WX ad cA tl tx mn sd e0 e1 e2 e3 e4 e5 e6 e7 e8 e9 e10 fr hd nw kp pt hr lr) := by
  induction m9 with
  | zero =>
    intro v1 v2 v4 v5 tl tx mn sd e0 e1 e2 e3 e4 e5 e6 e7 e8 e9 e10 h
    exact False.elim h
  | succ m9 Hk111 =>
    intro v1 v2 v4 v5 tl tx mn sd e0 e1 e2 e3 e4 e5 e6 e7 e8 e9 e10 h
    replace h : (((6 : Int32) ≤ v5 → (B_L_isTyped_153  Q hr v4 tl tx mn sd e0 e1 e2 e3 e4 e5 e6 e7 e8 e9 e10)) ∧ (¬ (6 : Int32) ≤ v5 → ((v4 = 0 → (B_L_isTyped_153  Q hr v4 tl tx mn sd e0 e1 e2 e3 e4 e5 e6 e7 e8 e9 e10)) ∧ (¬ v4 = 0 → (F_X5_understoodText v5 tl tx hr e0 e1 e2 e3 e4 e5 e6 e7 e8 e9 e10 (fun r_3 e0_4 e1_5 e2_6 e3_7 e4_8 e5_9 e6_10 e7_11 e8_12 e9_13 e10_14 => (F_X5_understood v5 v1 v2 hr mn sd e0_4 e1_5 e2_6 e3_7 e4_8 e5_9 e6_10 e7_11 e8_12 e9_13 e10_14 (fun r_15 mn_16 sd_17 e0_18 e1_19 e2_20 e3_21 e4_22 e5_23 e6_24 e7_25 e8_26 e9_27 e10_28 => ((r_3 = r_15 → (B_L_isTyped_145 (L_L_isTyped_111  Q hr m9) Q hr v1 v2 v5 (1 : Int32) tl tx mn_16 sd_17 e0_18 e1_19 e2_20 e3_21 e4_22 e5_23 e6_24 e7_25 e8_26 e9_27 e10_28)) ∧ (¬ r_3 = r_15 → (B_L_isTyped_145 (L_L_isTyped_111  Q hr m9) Q hr v1 v2 v5 (0 : Int32) tl tx mn_16 sd_17 e0_18 e1_19 e2_20 e3_21 e4_22 e5_23 e6_24 e7_25 e8_26 e9_27 e10_28))))))))))) := h
    refine g_iload C 4 dL_isTyped_111 rfl ?_
    refine g_bipush C (6 : Int32) dL_isTyped_113 (by decide) ?_
    refine g_icmp_ge C 153 dL_isTyped_115 (by decide) (fun c_1 => ?_) (fun c_1 => ?_)
    · replace h := h.1 c_1
      exact g_sub [3] rfl (t_B_L_isTyped_153 C hrt9 hlk  v4 tl tx mn sd e0 e1 e2 e3 e4 e5 e6 e7 e8 e9 e10  h)
    · replace h := h.2 c_1
      refine g_iload C 3 dL_isTyped_118 rfl ?_
      refine g_if_eq C 153 dL_isTyped_120 (by decide) (fun c_2 => ?_) (fun c_2 => ?_)
      · replace h := h.1 c_2
        exact g_sub [3] rfl (t_B_L_isTyped_153 C hrt9 hlk  v4 tl tx mn sd e0 e1 e2 e3 e4 e5 e6 e7 e8 e9 e10  h)
      · replace h := h.2 c_2
        refine g_aload_n C 0 dL_isTyped_123 rfl rfl ?_
        refine g_iload C 4 dL_isTyped_124 rfl ?_
        refine k_X5_understoodText C gL_isTyped_X5_understoodText ⟨Nat.le_of_ble_eq_true rfl, Nat.le_of_ble_eq_true rfl⟩ ⟨Nat.zero_le _, Nat.zero_le _⟩ (Nat.le_of_ble_eq_true rfl) dL_isTyped_126  h (fun r_3 e0_4 e1_5 e2_6 e3_7 e4_8 e5_9 e6_10 e7_11 e8_12 e9_13 e10_14 h => ?_)
        refine g_aload_n C 0 dL_isTyped_129 rfl rfl ?_
        refine g_iload C 4 dL_isTyped_130 rfl ?_
        refine g_iload_n C 1 dL_isTyped_132 rfl rfl ?_
        refine g_iload_n C 2 dL_isTyped_133 rfl rfl ?_
        refine k_X5_understood C gL_isTyped_X5_understood ⟨Nat.le_of_ble_eq_true rfl, Nat.le_of_ble_eq_true rfl⟩ ⟨Nat.zero_le _, Nat.zero_le _⟩ (Nat.le_of_ble_eq_true rfl) dL_isTyped_134  h (fun r_15 mn_16 sd_17 e0_18 e1_19 e2_20 e3_21 e4_22 e5_23 e6_24 e7_25 e8_26 e9_27 e10_28 h => ?_)
        refine g_icmp_ne C 144 dL_isTyped_137 (by decide) (fun c_29 => ?_) (fun c_29 => ?_)
        · replace h := h.2 c_29
          refine g_iconst C (0 : Int32) dL_isTyped_144 (by decide) ?_
          exact g_sub [0, 1, 2, 4] rfl (t_B_L_isTyped_145 C hrt9 hlk Hk111 v1 v2 v5 (0 : Int32) tl tx mn_16 sd_17 e0_18 e1_19 e2_20 e3_21 e4_22 e5_23 e6_24 e7_25 e8_26 e9_27 e10_28  h)
        · replace h := h.1 c_29
          refine g_iconst C (1 : Int32) dL_isTyped_140 (by decide) ?_
          refine g_goto C 145 dL_isTyped_141 (by decide) ?_
          exact g_sub [0, 1, 2, 4] rfl (t_B_L_isTyped_145 C hrt9 hlk Hk111 v1 v2 v5 (1 : Int32) tl tx mn_16 sd_17 e0_18 e1_19 e2_20 e3_21 e4_22 e5_23 e6_24 e7_25 e8_26 e9_27 e10_28  h)
set_option maxHeartbeats 4000000 in
set_option maxRecDepth 100000 in
theorem t_B_L_isTyped_106  {Q : Int32 → Int32 → (Nat → Int32) → Int32 → (Nat → Int64) → Int32 → Int32 → Int32 → Int32 → Int32 → Int32 → Int32 → Int32 → Int32 → Int32 → Int32 → Prop} (C : CxX p s m args c D (tysX cA) RL cL_isTyped 6 wsL_isTyped) (hrt9 : meth.sig.returnType = (some .boolean)) (hlk : meth.locks = false) (v1 : Int32) (v2 : Int32) (s0 : Int32) (tl : Int32) (tx : (Nat → Int32)) (mn : Int32) (sd : (Nat → Int64)) (e0 : Int32) (e1 : Int32) (e2 : Int32) (e3 : Int32) (e4 : Int32) (e5 : Int32) (e6 : Int32) (e7 : Int32) (e8 : Int32) (e9 : Int32) (e10 : Int32)  (h : B_L_isTyped_106  Q hr v1 v2 s0 tl tx mn sd e0 e1 e2 e3 e4 e5 e6 e7 e8 e9 e10) : GoX p l e rmL_isTyped s m args below meth c D A 6 0 0 (QP_L_isTyped D A ad cA fr hd nw kp pt hr lr Q below args s) 106 [(0, .ref (ad 0)), (1, .int v1), (2, .int v2)] [.int s0] (WX ad cA tl tx mn sd e0 e1 e2 e3 e4 e5 e6 e7 e8 e9 e10 fr hd nw kp pt hr lr) := by
  replace h : (∃ n9 : Nat, L_L_isTyped_111  Q hr n9 v1 v2 s0 (0 : Int32) tl tx mn sd e0 e1 e2 e3 e4 e5 e6 e7 e8 e9 e10) := h
  refine g_istore C (lv2 := [(4, .int s0), (0, .ref (ad 0)), (1, .int v1), (2, .int v2)]) dL_isTyped_106 (by decide) rfl ?_
  refine g_iconst C (0 : Int32) dL_isTyped_108 (by decide) ?_
  refine g_istore C (lv2 := [(5, .int (0 : Int32)), (4, .int s0), (0, .ref (ad 0)), (1, .int v1), (2, .int v2)]) dL_isTyped_109 (by decide) rfl ?_
  obtain ⟨n9, h⟩ := h
  exact g_sub [2, 3, 4, 1, 0] rfl (t_L_L_isTyped_111 C hrt9 hlk  n9 v1 v2 s0 (0 : Int32) tl tx mn sd e0 e1 e2 e3 e4 e5 e6 e7 e8 e9 e10  h)
set_option maxHeartbeats 4000000 in
set_option maxRecDepth 100000 in
theorem t_B_L_isTyped_105  {Q : Int32 → Int32 → (Nat → Int32) → Int32 → (Nat → Int64) → Int32 → Int32 → Int32 → Int32 → Int32 → Int32 → Int32 → Int32 → Int32 → Int32 → Int32 → Prop} (C : CxX p s m args c D (tysX cA) RL cL_isTyped 6 wsL_isTyped) (hrt9 : meth.sig.returnType = (some .boolean)) (hlk : meth.locks = false) (v1 : Int32) (v2 : Int32) (tl : Int32) (tx : (Nat → Int32)) (mn : Int32) (sd : (Nat → Int64)) (e0 : Int32) (e1 : Int32) (e2 : Int32) (e3 : Int32) (e4 : Int32) (e5 : Int32) (e6 : Int32) (e7 : Int32) (e8 : Int32) (e9 : Int32) (e10 : Int32)  (h : B_L_isTyped_105  Q hr v1 v2 tl tx mn sd e0 e1 e2 e3 e4 e5 e6 e7 e8 e9 e10) : GoX p l e rmL_isTyped s m args below meth c D A 6 0 0 (QP_L_isTyped D A ad cA fr hd nw kp pt hr lr Q below args s) 105 [(0, .ref (ad 0)), (1, .int v1), (2, .int v2)] [] (WX ad cA tl tx mn sd e0 e1 e2 e3 e4 e5 e6 e7 e8 e9 e10 fr hd nw kp pt hr lr) := by
  replace h : (B_L_isTyped_106  Q hr v1 v2 (0 : Int32) tl tx mn sd e0 e1 e2 e3 e4 e5 e6 e7 e8 e9 e10) := h
  refine g_iconst C (0 : Int32) dL_isTyped_105 (by decide) ?_
  exact g_sub [0, 1, 2] rfl (t_B_L_isTyped_106 C hrt9 hlk  v1 v2 (0 : Int32) tl tx mn sd e0 e1 e2 e3 e4 e5 e6 e7 e8 e9 e10  h)
set_option maxHeartbeats 4000000 in
set_option maxRecDepth 100000 in
theorem t_B_L_isTyped_71  {Q : Int32 → Int32 → (Nat → Int32) → Int32 → (Nat → Int64) → Int32 → Int32 → Int32 → Int32 → Int32 → Int32 → Int32 → Int32 → Int32 → Int32 → Int32 → Prop} (C : CxX p s m args c D (tysX cA) RL cL_isTyped 6 wsL_isTyped) (hrt9 : meth.sig.returnType = (some .boolean)) (hlk : meth.locks = false) (v1 : Int32) (v2 : Int32) (v4 : Int32) (tl : Int32) (tx : (Nat → Int32)) (mn : Int32) (sd : (Nat → Int64)) (e0 : Int32) (e1 : Int32) (e2 : Int32) (e3 : Int32) (e4 : Int32) (e5 : Int32) (e6 : Int32) (e7 : Int32) (e8 : Int32) (e9 : Int32) (e10 : Int32)  (h : B_L_isTyped_71  Q hr v1 v2 v4 tl tx mn sd e0 e1 e2 e3 e4 e5 e6 e7 e8 e9 e10) : GoX p l e rmL_isTyped s m args below meth c D A 6 0 0 (QP_L_isTyped D A ad cA fr hd nw kp pt hr lr Q below args s) 71 [(0, .ref (ad 0)), (1, .int v1), (2, .int v2), (4, .int v4)] [] (WX ad cA tl tx mn sd e0 e1 e2 e3 e4 e5 e6 e7 e8 e9 e10 fr hd nw kp pt hr lr) := by
  replace h : ((v4 = 0 → (B_L_isTyped_105  Q hr v1 v2 tl tx mn sd e0 e1 e2 e3 e4 e5 e6 e7 e8 e9 e10)) ∧ (¬ v4 = 0 → (F_X5_fault tl tx e0 e1 e2 e3 e4 e5 e6 e7 e8 e9 e10 (fun r_31 e0_32 e1_33 e2_34 e3_35 e4_36 e5_37 e6_38 e7_39 e8_40 e9_41 e10_42 => ((r_31 = (-5 : Int32) → (F_X5_meaning tl tx e0_32 e1_33 e2_34 e3_35 e4_36 e5_37 e6_38 e7_39 e8_40 e9_41 e10_42 (fun r_44 e0_45 e1_46 e2_47 e3_48 e4_49 e5_50 e6_51 e7_52 e8_53 e9_54 e10_55 => ((r_44 = v1 → (F_X5_placeOfText tl tx mn sd e0_45 e1_46 e2_47 e3_48 e4_49 e5_50 e6_51 e7_52 e8_53 e9_54 e10_55 (fun r_57 mn_58 sd_59 e0_60 e1_61 e2_62 e3_63 e4_64 e5_65 e6_66 e7_67 e8_68 e9_69 e10_70 => ((r_57 = v2 → (B_L_isTyped_106  Q hr v1 v2 (1 : Int32) tl tx mn_58 sd_59 e0_60 e1_61 e2_62 e3_63 e4_64 e5_65 e6_66 e7_67 e8_68 e9_69 e10_70)) ∧ (¬ r_57 = v2 → (B_L_isTyped_105  Q hr v1 v2 tl tx mn_58 sd_59 e0_60 e1_61 e2_62 e3_63 e4_64 e5_65 e6_66 e7_67 e8_68 e9_69 e10_70)))))) ∧ (¬ r_44 = v1 → (B_L_isTyped_105  Q hr v1 v2 tl tx mn sd e0_45 e1_46 e2_47 e3_48 e4_49 e5_50 e6_51 e7_52 e8_53 e9_54 e10_55)))))) ∧ (¬ r_31 = (-5 : Int32) → (B_L_isTyped_105  Q hr v1 v2 tl tx mn sd e0_32 e1_33 e2_34 e3_35 e4_36 e5_37 e6_38 e7_39 e8_40 e9_41 e10_42))))))) := h
  refine g_iload C 3 dL_isTyped_71 rfl ?_
  refine g_if_eq C 105 dL_isTyped_73 (by decide) (fun c_30 => ?_) (fun c_30 => ?_)
  · replace h := h.1 c_30
    exact g_sub [0, 1, 2] rfl (t_B_L_isTyped_105 C hrt9 hlk  v1 v2 tl tx mn sd e0 e1 e2 e3 e4 e5 e6 e7 e8 e9 e10  h)
  · replace h := h.2 c_30
    refine g_aload_n C 0 dL_isTyped_76 rfl rfl ?_
    refine k_X5_fault C gL_isTyped_X5_fault ⟨Nat.le_of_ble_eq_true rfl, Nat.le_of_ble_eq_true rfl⟩ ⟨Nat.zero_le _, Nat.zero_le _⟩ (Nat.le_of_ble_eq_true rfl) dL_isTyped_77  h (fun r_31 e0_32 e1_33 e2_34 e3_35 e4_36 e5_37 e6_38 e7_39 e8_40 e9_41 e10_42 h => ?_)
    refine g_bipush C (-5 : Int32) dL_isTyped_80 (by decide) ?_
    refine g_icmp_ne C 105 dL_isTyped_82 (by decide) (fun c_43 => ?_) (fun c_43 => ?_)
    · replace h := h.2 c_43
      exact g_sub [0, 1, 2] rfl (t_B_L_isTyped_105 C hrt9 hlk  v1 v2 tl tx mn sd e0_32 e1_33 e2_34 e3_35 e4_36 e5_37 e6_38 e7_39 e8_40 e9_41 e10_42  h)
    · replace h := h.1 c_43
      refine g_aload_n C 0 dL_isTyped_85 rfl rfl ?_
      refine k_X5_meaning C gL_isTyped_X5_meaning ⟨Nat.le_of_ble_eq_true rfl, Nat.le_of_ble_eq_true rfl⟩ ⟨Nat.zero_le _, Nat.zero_le _⟩ (Nat.le_of_ble_eq_true rfl) dL_isTyped_86  h (fun r_44 e0_45 e1_46 e2_47 e3_48 e4_49 e5_50 e6_51 e7_52 e8_53 e9_54 e10_55 h => ?_)
      refine g_iload_n C 1 dL_isTyped_89 rfl rfl ?_
      refine g_icmp_ne C 105 dL_isTyped_90 (by decide) (fun c_56 => ?_) (fun c_56 => ?_)
      · replace h := h.2 c_56
        exact g_sub [0, 1, 2] rfl (t_B_L_isTyped_105 C hrt9 hlk  v1 v2 tl tx mn sd e0_45 e1_46 e2_47 e3_48 e4_49 e5_50 e6_51 e7_52 e8_53 e9_54 e10_55  h)
      · replace h := h.1 c_56
        refine g_aload_n C 0 dL_isTyped_93 rfl rfl ?_
        refine k_X5_placeOfText C gL_isTyped_X5_placeOfText ⟨Nat.le_of_ble_eq_true rfl, Nat.le_of_ble_eq_true rfl⟩ ⟨Nat.zero_le _, Nat.zero_le _⟩ (Nat.le_of_ble_eq_true rfl) dL_isTyped_94  h (fun r_57 mn_58 sd_59 e0_60 e1_61 e2_62 e3_63 e4_64 e5_65 e6_66 e7_67 e8_68 e9_69 e10_70 h => ?_)
        refine g_iload_n C 2 dL_isTyped_97 rfl rfl ?_
        refine g_icmp_ne C 105 dL_isTyped_98 (by decide) (fun c_71 => ?_) (fun c_71 => ?_)
        · replace h := h.2 c_71
          exact g_sub [0, 1, 2] rfl (t_B_L_isTyped_105 C hrt9 hlk  v1 v2 tl tx mn_58 sd_59 e0_60 e1_61 e2_62 e3_63 e4_64 e5_65 e6_66 e7_67 e8_68 e9_69 e10_70  h)
        · replace h := h.1 c_71
          refine g_iconst C (1 : Int32) dL_isTyped_101 (by decide) ?_
          refine g_goto C 106 dL_isTyped_102 (by decide) ?_
          exact g_sub [0, 1, 2] rfl (t_B_L_isTyped_106 C hrt9 hlk  v1 v2 (1 : Int32) tl tx mn_58 sd_59 e0_60 e1_61 e2_62 e3_63 e4_64 e5_65 e6_66 e7_67 e8_68 e9_69 e10_70  h)
set_option maxHeartbeats 4000000 in
set_option maxRecDepth 100000 in
theorem t_B_L_isTyped_63 {kh28 : Int32 → Int32 → Int32 → Int32 → Int32 → Int32 → (Nat → Int32) → Int32 → (Nat → Int64) → Int32 → Int32 → Int32 → Int32 → Int32 → Int32 → Int32 → Int32 → Int32 → Int32 → Int32 → Prop} {Q : Int32 → Int32 → (Nat → Int32) → Int32 → (Nat → Int64) → Int32 → Int32 → Int32 → Int32 → Int32 → Int32 → Int32 → Int32 → Int32 → Int32 → Int32 → Prop} (C : CxX p s m args c D (tysX cA) RL cL_isTyped 6 wsL_isTyped) (hrt9 : meth.sig.returnType = (some .boolean)) (hlk : meth.locks = false) (Hk28 : ∀ (v1q : Int32) (v2q : Int32) (v3q : Int32) (v4q : Int32) (v5q : Int32) (tlq : Int32) (txq : (Nat → Int32)) (mnq : Int32) (sdq : (Nat → Int64)) (e0q : Int32) (e1q : Int32) (e2q : Int32) (e3q : Int32) (e4q : Int32) (e5q : Int32) (e6q : Int32) (e7q : Int32) (e8q : Int32) (e9q : Int32) (e10q : Int32) , kh28 v1q v2q v3q v4q v5q tlq txq mnq sdq e0q e1q e2q e3q e4q e5q e6q e7q e8q e9q e10q → GoX p l e rmL_isTyped s m args below meth c D A 6 0 0 (QP_L_isTyped D A ad cA fr hd nw kp pt hr lr Q below args s) 28 [(0, .ref (ad 0)), (1, .int v1q), (2, .int v2q), (3, .int v3q), (4, .int v4q), (5, .int v5q)] [] (WX ad cA tlq txq mnq sdq e0q e1q e2q e3q e4q e5q e6q e7q e8q e9q e10q fr hd nw kp pt hr lr)) (v1 : Int32) (v2 : Int32) (v3 : Int32) (v5 : Int32) (s0 : Int32) (tl : Int32) (tx : (Nat → Int32)) (mn : Int32) (sd : (Nat → Int64)) (e0 : Int32) (e1 : Int32) (e2 : Int32) (e3 : Int32) (e4 : Int32) (e5 : Int32) (e6 : Int32) (e7 : Int32) (e8 : Int32) (e9 : Int32) (e10 : Int32)  (h : B_L_isTyped_63 kh28 Q hr v1 v2 v3 v5 s0 tl tx mn sd e0 e1 e2 e3 e4 e5 e6 e7 e8 e9 e10) : GoX p l e rmL_isTyped s m args below meth c D A 6 0 0 (QP_L_isTyped D A ad cA fr hd nw kp pt hr lr Q below args s) 63 [(0, .ref (ad 0)), (1, .int v1), (2, .int v2), (3, .int v3), (5, .int v5)] [.int s0] (WX ad cA tl tx mn sd e0 e1 e2 e3 e4 e5 e6 e7 e8 e9 e10 fr hd nw kp pt hr lr) := by
  replace h : (kh28 v1 v2 v3 s0 (v5 + (1 : Int32)) tl tx mn sd e0 e1 e2 e3 e4 e5 e6 e7 e8 e9 e10) := h
  refine g_istore C (lv2 := [(4, .int s0), (0, .ref (ad 0)), (1, .int v1), (2, .int v2), (3, .int v3), (5, .int v5)]) dL_isTyped_63 (by decide) rfl ?_
  refine g_iinc C (v := (v5 + (1 : Int32))) (lv2 := [(5, .int (v5 + (1 : Int32))), (4, .int s0), (0, .ref (ad 0)), (1, .int v1), (2, .int v2), (3, .int v3)]) 5 dL_isTyped_65 rfl rfl (by decide) rfl ?_
  refine g_goto C 28 dL_isTyped_68 (by decide) ?_
  exact g_sub [2, 3, 4, 5, 1, 0] rfl (Hk28 v1 v2 v3 s0 (v5 + (1 : Int32)) tl tx mn sd e0 e1 e2 e3 e4 e5 e6 e7 e8 e9 e10  h)
set_option maxHeartbeats 4000000 in
set_option maxRecDepth 100000 in
theorem t_L_L_isTyped_28  {Q : Int32 → Int32 → (Nat → Int32) → Int32 → (Nat → Int64) → Int32 → Int32 → Int32 → Int32 → Int32 → Int32 → Int32 → Int32 → Int32 → Int32 → Int32 → Prop} (C : CxX p s m args c D (tysX cA) RL cL_isTyped 6 wsL_isTyped) (hrt9 : meth.sig.returnType = (some .boolean)) (hlk : meth.locks = false) (m9 : Nat) : ∀ (v1 : Int32) (v2 : Int32) (v3 : Int32) (v4 : Int32) (v5 : Int32) (tl : Int32) (tx : (Nat → Int32)) (mn : Int32) (sd : (Nat → Int64)) (e0 : Int32) (e1 : Int32) (e2 : Int32) (e3 : Int32) (e4 : Int32) (e5 : Int32) (e6 : Int32) (e7 : Int32) (e8 : Int32) (e9 : Int32) (e10 : Int32) , L_L_isTyped_28  Q hr m9 v1 v2 v3 v4 v5 tl tx mn sd e0 e1 e2 e3 e4 e5 e6 e7 e8 e9 e10 → GoX p l e rmL_isTyped s m args below meth c D A 6 0 0 (QP_L_isTyped D A ad cA fr hd nw kp pt hr lr Q below args s) 28 [(0, .ref (ad 0)), (1, .int v1), (2, .int v2), (3, .int v3), (4, .int v4), (5, .int v5)] [] (WX ad cA tl tx mn sd e0 e1 e2 e3 e4 e5 e6 e7 e8 e9 e10 fr hd nw kp pt hr lr) := by
  induction m9 with
  | zero =>
    intro v1 v2 v3 v4 v5 tl tx mn sd e0 e1 e2 e3 e4 e5 e6 e7 e8 e9 e10 h
    exact False.elim h
  | succ m9 Hk28 =>
    intro v1 v2 v3 v4 v5 tl tx mn sd e0 e1 e2 e3 e4 e5 e6 e7 e8 e9 e10 h
    replace h : ((v3 ≤ v5 → (B_L_isTyped_71  Q hr v1 v2 v4 tl tx mn sd e0 e1 e2 e3 e4 e5 e6 e7 e8 e9 e10)) ∧ (¬ v3 ≤ v5 → ((v4 = 0 → (B_L_isTyped_71  Q hr v1 v2 v4 tl tx mn sd e0 e1 e2 e3 e4 e5 e6 e7 e8 e9 e10)) ∧ (¬ v4 = 0 → (F_X5_wayAt v1 v2 v5 mn sd (fun r_74 mn_75 sd_76 => (F_X5_append r_74 tl tx (fun r_77 tl_78 tx_79 => ((r_77 = (v5 + (1 : Int32)) → (B_L_isTyped_63 (L_L_isTyped_28  Q hr m9) Q hr v1 v2 v3 v5 (1 : Int32) tl_78 tx_79 mn_75 sd_76 e0 e1 e2 e3 e4 e5 e6 e7 e8 e9 e10)) ∧ (¬ r_77 = (v5 + (1 : Int32)) → (B_L_isTyped_63 (L_L_isTyped_28  Q hr m9) Q hr v1 v2 v3 v5 (0 : Int32) tl_78 tx_79 mn_75 sd_76 e0 e1 e2 e3 e4 e5 e6 e7 e8 e9 e10))))))))))) := h
    refine g_iload C 5 dL_isTyped_28 rfl ?_
    refine g_iload_n C 3 dL_isTyped_30 rfl rfl ?_
    refine g_icmp_ge C 71 dL_isTyped_31 (by decide) (fun c_72 => ?_) (fun c_72 => ?_)
    · replace h := h.1 c_72
      exact g_sub [0, 1, 2, 4] rfl (t_B_L_isTyped_71 C hrt9 hlk  v1 v2 v4 tl tx mn sd e0 e1 e2 e3 e4 e5 e6 e7 e8 e9 e10  h)
    · replace h := h.2 c_72
      refine g_iload C 4 dL_isTyped_34 rfl ?_
      refine g_if_eq C 71 dL_isTyped_36 (by decide) (fun c_73 => ?_) (fun c_73 => ?_)
      · replace h := h.1 c_73
        exact g_sub [0, 1, 2, 4] rfl (t_B_L_isTyped_71 C hrt9 hlk  v1 v2 v4 tl tx mn sd e0 e1 e2 e3 e4 e5 e6 e7 e8 e9 e10  h)
      · replace h := h.2 c_73
        refine g_aload_n C 0 dL_isTyped_39 rfl rfl ?_
        refine g_aload_n C 0 dL_isTyped_40 rfl rfl ?_
        refine g_iload_n C 1 dL_isTyped_41 rfl rfl ?_
        refine g_iload_n C 2 dL_isTyped_42 rfl rfl ?_
        refine g_iload C 5 dL_isTyped_43 rfl ?_
        refine k_X5_wayAt C gL_isTyped_X5_wayAt ⟨Nat.le_of_ble_eq_true rfl, Nat.le_of_ble_eq_true rfl⟩ ⟨Nat.zero_le _, Nat.zero_le _⟩ (Nat.le_of_ble_eq_true rfl) dL_isTyped_45  h (fun r_74 mn_75 sd_76 h => ?_)
        refine k_X5_append C gL_isTyped_X5_append ⟨Nat.le_of_ble_eq_true rfl, Nat.le_of_ble_eq_true rfl⟩ ⟨Nat.zero_le _, Nat.zero_le _⟩ (Nat.le_of_ble_eq_true rfl) dL_isTyped_48  h (fun r_77 tl_78 tx_79 h => ?_)
        refine g_iload C 5 dL_isTyped_51 rfl ?_
        refine g_iconst C (1 : Int32) dL_isTyped_53 (by decide) ?_
        refine g_iadd C dL_isTyped_54 ?_
        refine g_icmp_ne C 62 dL_isTyped_55 (by decide) (fun c_80 => ?_) (fun c_80 => ?_)
        · replace h := h.2 c_80
          refine g_iconst C (0 : Int32) dL_isTyped_62 (by decide) ?_
          exact g_sub [0, 1, 2, 3, 5] rfl (t_B_L_isTyped_63 C hrt9 hlk Hk28 v1 v2 v3 v5 (0 : Int32) tl_78 tx_79 mn_75 sd_76 e0 e1 e2 e3 e4 e5 e6 e7 e8 e9 e10  h)
        · replace h := h.1 c_80
          refine g_iconst C (1 : Int32) dL_isTyped_58 (by decide) ?_
          refine g_goto C 63 dL_isTyped_59 (by decide) ?_
          exact g_sub [0, 1, 2, 3, 5] rfl (t_B_L_isTyped_63 C hrt9 hlk Hk28 v1 v2 v3 v5 (1 : Int32) tl_78 tx_79 mn_75 sd_76 e0 e1 e2 e3 e4 e5 e6 e7 e8 e9 e10  h)
set_option maxHeartbeats 4000000 in
set_option maxRecDepth 100000 in
theorem t_B_L_isTyped_23  {Q : Int32 → Int32 → (Nat → Int32) → Int32 → (Nat → Int64) → Int32 → Int32 → Int32 → Int32 → Int32 → Int32 → Int32 → Int32 → Int32 → Int32 → Int32 → Prop} (C : CxX p s m args c D (tysX cA) RL cL_isTyped 6 wsL_isTyped) (hrt9 : meth.sig.returnType = (some .boolean)) (hlk : meth.locks = false) (v1 : Int32) (v2 : Int32) (v3 : Int32) (s0 : Int32) (tl : Int32) (tx : (Nat → Int32)) (mn : Int32) (sd : (Nat → Int64)) (e0 : Int32) (e1 : Int32) (e2 : Int32) (e3 : Int32) (e4 : Int32) (e5 : Int32) (e6 : Int32) (e7 : Int32) (e8 : Int32) (e9 : Int32) (e10 : Int32)  (h : B_L_isTyped_23  Q hr v1 v2 v3 s0 tl tx mn sd e0 e1 e2 e3 e4 e5 e6 e7 e8 e9 e10) : GoX p l e rmL_isTyped s m args below meth c D A 6 0 0 (QP_L_isTyped D A ad cA fr hd nw kp pt hr lr Q below args s) 23 [(0, .ref (ad 0)), (1, .int v1), (2, .int v2), (3, .int v3)] [.int s0] (WX ad cA tl tx mn sd e0 e1 e2 e3 e4 e5 e6 e7 e8 e9 e10 fr hd nw kp pt hr lr) := by
  replace h : (∃ n9 : Nat, L_L_isTyped_28  Q hr n9 v1 v2 v3 s0 (0 : Int32) tl tx mn sd e0 e1 e2 e3 e4 e5 e6 e7 e8 e9 e10) := h
  refine g_istore C (lv2 := [(4, .int s0), (0, .ref (ad 0)), (1, .int v1), (2, .int v2), (3, .int v3)]) dL_isTyped_23 (by decide) rfl ?_
  refine g_iconst C (0 : Int32) dL_isTyped_25 (by decide) ?_
  refine g_istore C (lv2 := [(5, .int (0 : Int32)), (4, .int s0), (0, .ref (ad 0)), (1, .int v1), (2, .int v2), (3, .int v3)]) dL_isTyped_26 (by decide) rfl ?_
  obtain ⟨n9, h⟩ := h
  exact g_sub [2, 3, 4, 5, 1, 0] rfl (t_L_L_isTyped_28 C hrt9 hlk  n9 v1 v2 v3 s0 (0 : Int32) tl tx mn sd e0 e1 e2 e3 e4 e5 e6 e7 e8 e9 e10  h)
set_option maxHeartbeats 4000000 in
set_option maxRecDepth 100000 in
theorem t_B_L_isTyped_22  {Q : Int32 → Int32 → (Nat → Int32) → Int32 → (Nat → Int64) → Int32 → Int32 → Int32 → Int32 → Int32 → Int32 → Int32 → Int32 → Int32 → Int32 → Int32 → Prop} (C : CxX p s m args c D (tysX cA) RL cL_isTyped 6 wsL_isTyped) (hrt9 : meth.sig.returnType = (some .boolean)) (hlk : meth.locks = false) (v1 : Int32) (v2 : Int32) (v3 : Int32) (tl : Int32) (tx : (Nat → Int32)) (mn : Int32) (sd : (Nat → Int64)) (e0 : Int32) (e1 : Int32) (e2 : Int32) (e3 : Int32) (e4 : Int32) (e5 : Int32) (e6 : Int32) (e7 : Int32) (e8 : Int32) (e9 : Int32) (e10 : Int32)  (h : B_L_isTyped_22  Q hr v1 v2 v3 tl tx mn sd e0 e1 e2 e3 e4 e5 e6 e7 e8 e9 e10) : GoX p l e rmL_isTyped s m args below meth c D A 6 0 0 (QP_L_isTyped D A ad cA fr hd nw kp pt hr lr Q below args s) 22 [(0, .ref (ad 0)), (1, .int v1), (2, .int v2), (3, .int v3)] [] (WX ad cA tl tx mn sd e0 e1 e2 e3 e4 e5 e6 e7 e8 e9 e10 fr hd nw kp pt hr lr) := by
  replace h : (B_L_isTyped_23  Q hr v1 v2 v3 (0 : Int32) tl tx mn sd e0 e1 e2 e3 e4 e5 e6 e7 e8 e9 e10) := h
  refine g_iconst C (0 : Int32) dL_isTyped_22 (by decide) ?_
  exact g_sub [0, 1, 2, 3] rfl (t_B_L_isTyped_23 C hrt9 hlk  v1 v2 v3 (0 : Int32) tl tx mn sd e0 e1 e2 e3 e4 e5 e6 e7 e8 e9 e10  h)
set_option maxHeartbeats 4000000 in
set_option maxRecDepth 100000 in
theorem t_B_L_isTyped_0  {Q : Int32 → Int32 → (Nat → Int32) → Int32 → (Nat → Int64) → Int32 → Int32 → Int32 → Int32 → Int32 → Int32 → Int32 → Int32 → Int32 → Int32 → Int32 → Prop} (C : CxX p s m args c D (tysX cA) RL cL_isTyped 6 wsL_isTyped) (hrt9 : meth.sig.returnType = (some .boolean)) (hlk : meth.locks = false) (v1 : Int32) (v2 : Int32) (tl : Int32) (tx : (Nat → Int32)) (mn : Int32) (sd : (Nat → Int64)) (e0 : Int32) (e1 : Int32) (e2 : Int32) (e3 : Int32) (e4 : Int32) (e5 : Int32) (e6 : Int32) (e7 : Int32) (e8 : Int32) (e9 : Int32) (e10 : Int32)  (h : B_L_isTyped_0  Q hr v1 v2 tl tx mn sd e0 e1 e2 e3 e4 e5 e6 e7 e8 e9 e10) : GoX p l e rmL_isTyped s m args below meth c D A 6 0 0 (QP_L_isTyped D A ad cA fr hd nw kp pt hr lr Q below args s) 0 [(0, .ref (ad 0)), (1, .int v1), (2, .int v2)] [] (WX ad cA tl tx mn sd e0 e1 e2 e3 e4 e5 e6 e7 e8 e9 e10 fr hd nw kp pt hr lr) := by
  replace h : (F_X5_wayLength v1 v2 mn sd (fun r_81 mn_82 sd_83 => (F_X5_clearText tl (fun r_84 tl_85 => ((r_84 < 0 → (B_L_isTyped_22  Q hr v1 v2 r_81 tl_85 tx mn_82 sd_83 e0 e1 e2 e3 e4 e5 e6 e7 e8 e9 e10)) ∧ (¬ r_84 < 0 → ((r_81 ≤ 0 → (B_L_isTyped_22  Q hr v1 v2 r_81 tl_85 tx mn_82 sd_83 e0 e1 e2 e3 e4 e5 e6 e7 e8 e9 e10)) ∧ (¬ r_81 ≤ 0 → (B_L_isTyped_23  Q hr v1 v2 r_81 (1 : Int32) tl_85 tx mn_82 sd_83 e0 e1 e2 e3 e4 e5 e6 e7 e8 e9 e10))))))))) := h
  refine g_aload_n C 0 dL_isTyped_0 rfl rfl ?_
  refine g_iload_n C 1 dL_isTyped_1 rfl rfl ?_
  refine g_iload_n C 2 dL_isTyped_2 rfl rfl ?_
  refine k_X5_wayLength C gL_isTyped_X5_wayLength ⟨Nat.le_of_ble_eq_true rfl, Nat.le_of_ble_eq_true rfl⟩ ⟨Nat.zero_le _, Nat.zero_le _⟩ (Nat.le_of_ble_eq_true rfl) dL_isTyped_3  h (fun r_81 mn_82 sd_83 h => ?_)
  refine g_istore_n C (lv2 := [(3, .int r_81), (0, .ref (ad 0)), (1, .int v1), (2, .int v2)]) dL_isTyped_6 rfl (by decide) rfl ?_
  refine g_aload_n C 1 dL_isTyped_7 rfl rfl ?_
  refine k_X5_clearText C gL_isTyped_X5_clearText ⟨Nat.le_of_ble_eq_true rfl, Nat.le_of_ble_eq_true rfl⟩ ⟨Nat.zero_le _, Nat.zero_le _⟩ (Nat.le_of_ble_eq_true rfl) dL_isTyped_8  h (fun r_84 tl_85 h => ?_)
  refine g_if_lt C 22 dL_isTyped_11 (by decide) (fun c_86 => ?_) (fun c_86 => ?_)
  · replace h := h.1 c_86
    exact g_sub [1, 2, 3, 0] rfl (t_B_L_isTyped_22 C hrt9 hlk  v1 v2 r_81 tl_85 tx mn_82 sd_83 e0 e1 e2 e3 e4 e5 e6 e7 e8 e9 e10  h)
  · replace h := h.2 c_86
    refine g_iload_n C 0 dL_isTyped_14 rfl rfl ?_
    refine g_if_le C 22 dL_isTyped_15 (by decide) (fun c_87 => ?_) (fun c_87 => ?_)
    · replace h := h.1 c_87
      exact g_sub [1, 2, 3, 0] rfl (t_B_L_isTyped_22 C hrt9 hlk  v1 v2 r_81 tl_85 tx mn_82 sd_83 e0 e1 e2 e3 e4 e5 e6 e7 e8 e9 e10  h)
    · replace h := h.2 c_87
      refine g_iconst C (1 : Int32) dL_isTyped_18 (by decide) ?_
      refine g_goto C 23 dL_isTyped_19 (by decide) ?_
      exact g_sub [1, 2, 3, 0] rfl (t_B_L_isTyped_23 C hrt9 hlk  v1 v2 r_81 (1 : Int32) tl_85 tx mn_82 sd_83 e0 e1 e2 e3 e4 e5 e6 e7 e8 e9 e10  h)
theorem c_L_isTyped (l : Launch) (D : va_G) (A : Nat → Prop) (ad : Nat → Nat) (cA : Nat → ClassId) (v1 : Int32) (v2 : Int32) {tl : Int32} {tx : (Nat → Int32)} {mn : Int32} {sd : (Nat → Int64)} {e0 : Int32} {e1 : Int32} {e2 : Int32} {e3 : Int32} {e4 : Int32} {e5 : Int32} {e6 : Int32} {e7 : Int32} {e8 : Int32} {e9 : Int32} {e10 : Int32} {fr : Int32} {hd : Int32} {nw : (Nat → Int32)} {kp : (Nat → Int32)} {pt : (Nat → Int32)} {hr : (Nat → Nat → Int32)} {lr : (Nat → Nat → Int32)}  (Q : Int32 → Int32 → (Nat → Int32) → Int32 → (Nat → Int64) → Int32 → Int32 → Int32 → Int32 → Int32 → Int32 → Int32 → Int32 → Int32 → Int32 → Int32 → Prop) (h : F_L_isTyped v1 v2 hr tl tx mn sd e0 e1 e2 e3 e4 e5 e6 e7 e8 e9 e10 Q) : Met l yL_isTyped wsL_isTyped rmL_isTyped (va_Pc [.ref (ad 0), .int v1, .int v2] (OKX D (tysX cA) (WX ad cA tl tx mn sd e0 e1 e2 e3 e4 e5 e6 e7 e8 e9 e10 fr hd nw kp pt hr lr) A)) (QC_L_isTyped D A ad cA fr hd nw kp pt hr lr Q) 0 0 A :=
  g_met (own := RL) (by decide) rfl rfl (Nat.le_of_ble_eq_true rfl) (fun p e s m below meth c C hrt9 hlk _ => g_sub [0, 1, 2] rfl (t_B_L_isTyped_0 C hrt9 hlk v1 v2 tl tx mn sd e0 e1 e2 e3 e4 e5 e6 e7 e8 e9 e10  h))
theorem k_L_isTyped {ws : List Cond} {own : String} {cc : ByteArray} {nL pc index kc ks : Nat} {lv : List (Nat × Value)} {st : List Value} {Q : State → Prop} {R : Room} {K : Int32 → Int32 → (Nat → Int32) → Int32 → (Nat → Int64) → Int32 → Int32 → Int32 → Int32 → Int32 → Int32 → Int32 → Int32 → Int32 → Int32 → Int32 → Prop} {v1 : Int32} {v2 : Int32} (C : CxX p s m args c D (tysX cA) own cc nL ws) (hT : GoodIn ws (va_wsS own index yL_isTyped wsL_isTyped)) (hR : rmL_isTyped.frames + 1 ≤ R.frames ∧ 8 + (6 + 11) + rmL_isTyped.locals ≤ R.locals) (hk9 : kc ≤ R.cells ∧ ks ≤ R.slots) (hcat : (st.map fun v => v.category).sum ≤ 8) (hdg : decode cc pc = .ok (.invokestatic index, 3))  (h : F_L_isTyped v1 v2 hr tl tx mn sd e0 e1 e2 e3 e4 e5 e6 e7 e8 e9 e10 K) (kk : ∀ (r : Int32) (tlq : Int32) (txq : (Nat → Int32)) (mnq : Int32) (sdq : (Nat → Int64)) (e0q : Int32) (e1q : Int32) (e2q : Int32) (e3q : Int32) (e4q : Int32) (e5q : Int32) (e6q : Int32) (e7q : Int32) (e8q : Int32) (e9q : Int32) (e10q : Int32), K r tlq txq mnq sdq e0q e1q e2q e3q e4q e5q e6q e7q e8q e9q e10q → GoX p l e R s m args below meth c D A nL kc ks Q (pc + 3) lv (.int r :: st) (WX ad cA tlq txq mnq sdq e0q e1q e2q e3q e4q e5q e6q e7q e8q e9q e10q fr hd nw kp pt hr lr)) : GoX p l e R s m args below meth c D A nL kc ks Q pc lv (.int v2 :: .int v1 :: .ref (ad 0) :: st) (WX ad cA tl tx mn sd e0 e1 e2 e3 e4 e5 e6 e7 e8 e9 e10 fr hd nw kp pt hr lr) :=
  g_callSi C (As := [.ref (ad 0), .int v1, .int v2]) 3 (c_L_isTyped l D A ad cA v1 v2  K h) hT rfl rfl rfl (by decide +kernel) hR hk9 rfl rfl hcat hdg (fun r u hu => kk r u.1 u.2.1 u.2.2.1 u.2.2.2.1 u.2.2.2.2.1 u.2.2.2.2.2.1 u.2.2.2.2.2.2.1 u.2.2.2.2.2.2.2.1 u.2.2.2.2.2.2.2.2.1 u.2.2.2.2.2.2.2.2.2.1 u.2.2.2.2.2.2.2.2.2.2.1 u.2.2.2.2.2.2.2.2.2.2.2.1 u.2.2.2.2.2.2.2.2.2.2.2.2.1 u.2.2.2.2.2.2.2.2.2.2.2.2.2.1 u.2.2.2.2.2.2.2.2.2.2.2.2.2.2 hu)
/-! L_isTold -/
abbrev rmL_isTold : Room := { frames := 7, cells := 0, slots := 0, locals := 171 }
abbrev QC_L_isTold (D : va_G) (A : Nat → Prop) (ad : Nat → Nat) (cA : Nat → ClassId) (tl : Int32) (tx : (Nat → Int32)) (Q : Int32 → Int32 → (Nat → Int64) → Int32 → Int32 → Int32 → Int32 → Int32 → Int32 → Int32 → Int32 → Int32 → Int32 → Int32 → Int32 → Int32 → (Nat → Int32) → (Nat → Int32) → (Nat → Int32) → (Nat → Nat → Int32) → (Nat → Nat → Int32) → Prop) : Array Value → State → Outcome → State → Prop := va_Qi (fun (r : Int32) (u : Int32 × (Nat → Int64) × Int32 × Int32 × Int32 × Int32 × Int32 × Int32 × Int32 × Int32 × Int32 × Int32 × Int32 × Int32 × Int32 × (Nat → Int32) × (Nat → Int32) × (Nat → Int32) × (Nat → Nat → Int32) × (Nat → Nat → Int32)) => Q r u.1 u.2.1 u.2.2.1 u.2.2.2.1 u.2.2.2.2.1 u.2.2.2.2.2.1 u.2.2.2.2.2.2.1 u.2.2.2.2.2.2.2.1 u.2.2.2.2.2.2.2.2.1 u.2.2.2.2.2.2.2.2.2.1 u.2.2.2.2.2.2.2.2.2.2.1 u.2.2.2.2.2.2.2.2.2.2.2.1 u.2.2.2.2.2.2.2.2.2.2.2.2.1 u.2.2.2.2.2.2.2.2.2.2.2.2.2.1 u.2.2.2.2.2.2.2.2.2.2.2.2.2.2.1 u.2.2.2.2.2.2.2.2.2.2.2.2.2.2.2.1 u.2.2.2.2.2.2.2.2.2.2.2.2.2.2.2.2.1 u.2.2.2.2.2.2.2.2.2.2.2.2.2.2.2.2.2.1 u.2.2.2.2.2.2.2.2.2.2.2.2.2.2.2.2.2.2.1 u.2.2.2.2.2.2.2.2.2.2.2.2.2.2.2.2.2.2.2) (fun u t => OKX D (tysX cA) ((fun u : Int32 × (Nat → Int64) × Int32 × Int32 × Int32 × Int32 × Int32 × Int32 × Int32 × Int32 × Int32 × Int32 × Int32 × Int32 × Int32 × (Nat → Int32) × (Nat → Int32) × (Nat → Int32) × (Nat → Nat → Int32) × (Nat → Nat → Int32) => WX ad cA tl tx u.1 u.2.1 u.2.2.1 u.2.2.2.1 u.2.2.2.2.1 u.2.2.2.2.2.1 u.2.2.2.2.2.2.1 u.2.2.2.2.2.2.2.1 u.2.2.2.2.2.2.2.2.1 u.2.2.2.2.2.2.2.2.2.1 u.2.2.2.2.2.2.2.2.2.2.1 u.2.2.2.2.2.2.2.2.2.2.2.1 u.2.2.2.2.2.2.2.2.2.2.2.2.1 u.2.2.2.2.2.2.2.2.2.2.2.2.2.1 u.2.2.2.2.2.2.2.2.2.2.2.2.2.2.1 u.2.2.2.2.2.2.2.2.2.2.2.2.2.2.2.1 u.2.2.2.2.2.2.2.2.2.2.2.2.2.2.2.2.1 u.2.2.2.2.2.2.2.2.2.2.2.2.2.2.2.2.2.1 u.2.2.2.2.2.2.2.2.2.2.2.2.2.2.2.2.2.2.1 u.2.2.2.2.2.2.2.2.2.2.2.2.2.2.2.2.2.2.2) u) A t) A
abbrev QP_L_isTold (D : va_G) (A : Nat → Prop) (ad : Nat → Nat) (cA : Nat → ClassId) (tl : Int32) (tx : (Nat → Int32)) (Q : Int32 → Int32 → (Nat → Int64) → Int32 → Int32 → Int32 → Int32 → Int32 → Int32 → Int32 → Int32 → Int32 → Int32 → Int32 → Int32 → Int32 → (Nat → Int32) → (Nat → Int32) → (Nat → Int32) → (Nat → Nat → Int32) → (Nat → Nat → Int32) → Prop) (below : List Frame) (args : Array Value) (s : State) : State → Prop := MQ below (QC_L_isTold D A ad cA tl tx Q) args s 0 0 A
def B_L_isTold_278  (Q : Int32 → Int32 → (Nat → Int64) → Int32 → Int32 → Int32 → Int32 → Int32 → Int32 → Int32 → Int32 → Int32 → Int32 → Int32 → Int32 → Int32 → (Nat → Int32) → (Nat → Int32) → (Nat → Int32) → (Nat → Nat → Int32) → (Nat → Nat → Int32) → Prop)  (s0 : Int32) (mn : Int32) (sd : (Nat → Int64)) (e0 : Int32) (e1 : Int32) (e2 : Int32) (e3 : Int32) (e4 : Int32) (e5 : Int32) (e6 : Int32) (e7 : Int32) (e8 : Int32) (e9 : Int32) (e10 : Int32) (fr : Int32) (hd : Int32) (nw : (Nat → Int32)) (kp : (Nat → Int32)) (pt : (Nat → Int32)) (hr : (Nat → Nat → Int32)) (lr : (Nat → Nat → Int32)) : Prop := (isBo s0 ∧ (Q s0 mn sd e0 e1 e2 e3 e4 e5 e6 e7 e8 e9 e10 fr hd nw kp pt hr lr))
def B_L_isTold_277  (Q : Int32 → Int32 → (Nat → Int64) → Int32 → Int32 → Int32 → Int32 → Int32 → Int32 → Int32 → Int32 → Int32 → Int32 → Int32 → Int32 → Int32 → (Nat → Int32) → (Nat → Int32) → (Nat → Int32) → (Nat → Nat → Int32) → (Nat → Nat → Int32) → Prop)   (mn : Int32) (sd : (Nat → Int64)) (e0 : Int32) (e1 : Int32) (e2 : Int32) (e3 : Int32) (e4 : Int32) (e5 : Int32) (e6 : Int32) (e7 : Int32) (e8 : Int32) (e9 : Int32) (e10 : Int32) (fr : Int32) (hd : Int32) (nw : (Nat → Int32)) (kp : (Nat → Int32)) (pt : (Nat → Int32)) (hr : (Nat → Nat → Int32)) (lr : (Nat → Nat → Int32)) : Prop := (B_L_isTold_278  Q  (0 : Int32) mn sd e0 e1 e2 e3 e4 e5 e6 e7 e8 e9 e10 fr hd nw kp pt hr lr)
def B_L_isTold_273  (Q : Int32 → Int32 → (Nat → Int64) → Int32 → Int32 → Int32 → Int32 → Int32 → Int32 → Int32 → Int32 → Int32 → Int32 → Int32 → Int32 → Int32 → (Nat → Int32) → (Nat → Int32) → (Nat → Int32) → (Nat → Nat → Int32) → (Nat → Nat → Int32) → Prop)   (mn : Int32) (sd : (Nat → Int64)) (e0 : Int32) (e1 : Int32) (e2 : Int32) (e3 : Int32) (e4 : Int32) (e5 : Int32) (e6 : Int32) (e7 : Int32) (e8 : Int32) (e9 : Int32) (e10 : Int32) (fr : Int32) (hd : Int32) (nw : (Nat → Int32)) (kp : (Nat → Int32)) (pt : (Nat → Int32)) (hr : (Nat → Nat → Int32)) (lr : (Nat → Nat → Int32)) : Prop := (B_L_isTold_278  Q  (1 : Int32) mn sd e0 e1 e2 e3 e4 e5 e6 e7 e8 e9 e10 fr hd nw kp pt hr lr)
def B_L_isTold_260  (Q : Int32 → Int32 → (Nat → Int64) → Int32 → Int32 → Int32 → Int32 → Int32 → Int32 → Int32 → Int32 → Int32 → Int32 → Int32 → Int32 → Int32 → (Nat → Int32) → (Nat → Int32) → (Nat → Int32) → (Nat → Nat → Int32) → (Nat → Nat → Int32) → Prop)  (v9 : Int32) (v11 : Int32) (s0 : Int32) (s1 : Int32) (mn : Int32) (sd : (Nat → Int64)) (e0 : Int32) (e1 : Int32) (e2 : Int32) (e3 : Int32) (e4 : Int32) (e5 : Int32) (e6 : Int32) (e7 : Int32) (e8 : Int32) (e9 : Int32) (e10 : Int32) (fr : Int32) (hd : Int32) (nw : (Nat → Int32)) (kp : (Nat → Int32)) (pt : (Nat → Int32)) (hr : (Nat → Nat → Int32)) (lr : (Nat → Nat → Int32)) : Prop := ((s0 = s1 → ((0 < v9 → (B_L_isTold_273  Q  mn sd e0 e1 e2 e3 e4 e5 e6 e7 e8 e9 e10 fr hd nw kp pt hr lr)) ∧ (¬ 0 < v9 → ((v11 = 0 → (B_L_isTold_273  Q  mn sd e0 e1 e2 e3 e4 e5 e6 e7 e8 e9 e10 fr hd nw kp pt hr lr)) ∧ (¬ v11 = 0 → (B_L_isTold_277  Q  mn sd e0 e1 e2 e3 e4 e5 e6 e7 e8 e9 e10 fr hd nw kp pt hr lr)))))) ∧ (¬ s0 = s1 → (B_L_isTold_277  Q  mn sd e0 e1 e2 e3 e4 e5 e6 e7 e8 e9 e10 fr hd nw kp pt hr lr)))
def B_L_isTold_239  (Q : Int32 → Int32 → (Nat → Int64) → Int32 → Int32 → Int32 → Int32 → Int32 → Int32 → Int32 → Int32 → Int32 → Int32 → Int32 → Int32 → Int32 → (Nat → Int32) → (Nat → Int32) → (Nat → Int32) → (Nat → Nat → Int32) → (Nat → Nat → Int32) → Prop)  (v8 : Int32) (v9 : Int32) (v11 : Int32) (v12 : Int32) (s0 : Int32) (s1 : Int32) (mn : Int32) (sd : (Nat → Int64)) (e0 : Int32) (e1 : Int32) (e2 : Int32) (e3 : Int32) (e4 : Int32) (e5 : Int32) (e6 : Int32) (e7 : Int32) (e8 : Int32) (e9 : Int32) (e10 : Int32) (fr : Int32) (hd : Int32) (nw : (Nat → Int32)) (kp : (Nat → Int32)) (pt : (Nat → Int32)) (hr : (Nat → Nat → Int32)) (lr : (Nat → Nat → Int32)) : Prop := ((s0 = s1 → (F_X5_log (0 : Int32) (4 : Int32) nw kp lr (fun r_5 => ((v12 ≤ v8 → (B_L_isTold_260  Q  v9 v11 r_5 (0 : Int32) mn sd e0 e1 e2 e3 e4 e5 e6 e7 e8 e9 e10 fr hd nw kp pt hr lr)) ∧ (¬ v12 ≤ v8 → (B_L_isTold_260  Q  v9 v11 r_5 (1 : Int32) mn sd e0 e1 e2 e3 e4 e5 e6 e7 e8 e9 e10 fr hd nw kp pt hr lr)))))) ∧ (¬ s0 = s1 → (B_L_isTold_277  Q  mn sd e0 e1 e2 e3 e4 e5 e6 e7 e8 e9 e10 fr hd nw kp pt hr lr)))
def B_L_isTold_184  (Q : Int32 → Int32 → (Nat → Int64) → Int32 → Int32 → Int32 → Int32 → Int32 → Int32 → Int32 → Int32 → Int32 → Int32 → Int32 → Int32 → Int32 → (Nat → Int32) → (Nat → Int32) → (Nat → Int32) → (Nat → Nat → Int32) → (Nat → Nat → Int32) → Prop)  (v1 : Int32) (v2 : Int32) (v4 : Int32) (v5 : Int32) (v8 : Int32) (v9 : Int32) (v11 : Int32) (v12 : Int32) (mn : Int32) (sd : (Nat → Int64)) (e0 : Int32) (e1 : Int32) (e2 : Int32) (e3 : Int32) (e4 : Int32) (e5 : Int32) (e6 : Int32) (e7 : Int32) (e8 : Int32) (e9 : Int32) (e10 : Int32) (fr : Int32) (hd : Int32) (nw : (Nat → Int32)) (kp : (Nat → Int32)) (pt : (Nat → Int32)) (hr : (Nat → Nat → Int32)) (lr : (Nat → Nat → Int32)) : Prop := (F_X5_log (0 : Int32) (0 : Int32) nw kp lr (fun r_7 => ((r_7 = v1 → (F_X5_log (0 : Int32) (1 : Int32) nw kp lr (fun r_9 => ((r_9 = v2 → (F_X5_log (0 : Int32) (2 : Int32) nw kp lr (fun r_11 => (F_X5_wayLength v2 v4 mn sd (fun r_12 mn_13 sd_14 => ((r_11 = r_12 → (F_X5_log (0 : Int32) (3 : Int32) nw kp lr (fun r_16 => ((v5 = (-5 : Int32) → (B_L_isTold_239  Q  v8 v9 v11 v12 r_16 (0 : Int32) mn_13 sd_14 e0 e1 e2 e3 e4 e5 e6 e7 e8 e9 e10 fr hd nw kp pt hr lr)) ∧ (¬ v5 = (-5 : Int32) → (B_L_isTold_239  Q  v8 v9 v11 v12 r_16 v5 mn_13 sd_14 e0 e1 e2 e3 e4 e5 e6 e7 e8 e9 e10 fr hd nw kp pt hr lr)))))) ∧ (¬ r_11 = r_12 → (B_L_isTold_277  Q  mn_13 sd_14 e0 e1 e2 e3 e4 e5 e6 e7 e8 e9 e10 fr hd nw kp pt hr lr)))))))) ∧ (¬ r_9 = v2 → (B_L_isTold_277  Q  mn sd e0 e1 e2 e3 e4 e5 e6 e7 e8 e9 e10 fr hd nw kp pt hr lr)))))) ∧ (¬ r_7 = v1 → (B_L_isTold_277  Q  mn sd e0 e1 e2 e3 e4 e5 e6 e7 e8 e9 e10 fr hd nw kp pt hr lr)))))
def B_L_isTold_158  (Q : Int32 → Int32 → (Nat → Int64) → Int32 → Int32 → Int32 → Int32 → Int32 → Int32 → Int32 → Int32 → Int32 → Int32 → Int32 → Int32 → Int32 → (Nat → Int32) → (Nat → Int32) → (Nat → Int32) → (Nat → Nat → Int32) → (Nat → Nat → Int32) → Prop)  (v1 : Int32) (v2 : Int32) (v4 : Int32) (v5 : Int32) (v8 : Int32) (v9 : Int32) (v11 : Int32) (v12 : Int32) (s0 : Int32) (s1 : Int32) (s2 : Int32) (mn : Int32) (sd : (Nat → Int64)) (e0 : Int32) (e1 : Int32) (e2 : Int32) (e3 : Int32) (e4 : Int32) (e5 : Int32) (e6 : Int32) (e7 : Int32) (e8 : Int32) (e9 : Int32) (e10 : Int32) (fr : Int32) (hd : Int32) (nw : (Nat → Int32)) (kp : (Nat → Int32)) (pt : (Nat → Int32)) (hr : (Nat → Nat → Int32)) (lr : (Nat → Nat → Int32)) : Prop := ((s0 = (s1 + s2) → ((v11 = 0 → ((v12 < v8 → (B_L_isTold_277  Q  mn sd e0 e1 e2 e3 e4 e5 e6 e7 e8 e9 e10 fr hd nw kp pt hr lr)) ∧ (¬ v12 < v8 → (B_L_isTold_184  Q  v1 v2 v4 v5 v8 v9 v11 v12 mn sd e0 e1 e2 e3 e4 e5 e6 e7 e8 e9 e10 fr hd nw kp pt hr lr)))) ∧ (¬ v11 = 0 → ((v12 = v8 → (B_L_isTold_184  Q  v1 v2 v4 v5 v8 v9 v11 v12 mn sd e0 e1 e2 e3 e4 e5 e6 e7 e8 e9 e10 fr hd nw kp pt hr lr)) ∧ (¬ v12 = v8 → (B_L_isTold_277  Q  mn sd e0 e1 e2 e3 e4 e5 e6 e7 e8 e9 e10 fr hd nw kp pt hr lr)))))) ∧ (¬ s0 = (s1 + s2) → (B_L_isTold_277  Q  mn sd e0 e1 e2 e3 e4 e5 e6 e7 e8 e9 e10 fr hd nw kp pt hr lr)))
def B_L_isTold_122  (Q : Int32 → Int32 → (Nat → Int64) → Int32 → Int32 → Int32 → Int32 → Int32 → Int32 → Int32 → Int32 → Int32 → Int32 → Int32 → Int32 → Int32 → (Nat → Int32) → (Nat → Int32) → (Nat → Int32) → (Nat → Nat → Int32) → (Nat → Nat → Int32) → Prop)  (v1 : Int32) (v2 : Int32) (v4 : Int32) (v5 : Int32) (v6 : Int32) (v7 : Int32) (v8 : Int32) (v9 : Int32) (v11 : Int32) (v12 : Int32) (s0 : Int32) (s1 : Int32) (mn : Int32) (sd : (Nat → Int64)) (e0 : Int32) (e1 : Int32) (e2 : Int32) (e3 : Int32) (e4 : Int32) (e5 : Int32) (e6 : Int32) (e7 : Int32) (e8 : Int32) (e9 : Int32) (e10 : Int32) (fr : Int32) (hd : Int32) (nw : (Nat → Int32)) (kp : (Nat → Int32)) (pt : (Nat → Int32)) (hr : (Nat → Nat → Int32)) (lr : (Nat → Nat → Int32)) : Prop := ((s0 = s1 → (F_X5_hearer v1 (7 : Int32) hr (fun r_23 => ((r_23 = (v6 + (1 : Int32)) → (F_X5_hearer v1 (8 : Int32) hr (fun r_25 => ((v11 = 0 → (B_L_isTold_158  Q  v1 v2 v4 v5 v8 v9 v11 v12 r_25 v7 (1 : Int32) mn sd e0 e1 e2 e3 e4 e5 e6 e7 e8 e9 e10 fr hd nw kp pt hr lr)) ∧ (¬ v11 = 0 → (B_L_isTold_158  Q  v1 v2 v4 v5 v8 v9 v11 v12 r_25 v7 (0 : Int32) mn sd e0 e1 e2 e3 e4 e5 e6 e7 e8 e9 e10 fr hd nw kp pt hr lr)))))) ∧ (¬ r_23 = (v6 + (1 : Int32)) → (B_L_isTold_277  Q  mn sd e0 e1 e2 e3 e4 e5 e6 e7 e8 e9 e10 fr hd nw kp pt hr lr)))))) ∧ (¬ s0 = s1 → (B_L_isTold_277  Q  mn sd e0 e1 e2 e3 e4 e5 e6 e7 e8 e9 e10 fr hd nw kp pt hr lr)))
def B_L_isTold_86  (Q : Int32 → Int32 → (Nat → Int64) → Int32 → Int32 → Int32 → Int32 → Int32 → Int32 → Int32 → Int32 → Int32 → Int32 → Int32 → Int32 → Int32 → (Nat → Int32) → (Nat → Int32) → (Nat → Int32) → (Nat → Nat → Int32) → (Nat → Nat → Int32) → Prop)  (v1 : Int32) (v2 : Int32) (v4 : Int32) (v5 : Int32) (v6 : Int32) (v7 : Int32) (v8 : Int32) (v9 : Int32) (v10 : Int32) (s0 : Int32) (mn : Int32) (sd : (Nat → Int64)) (e0 : Int32) (e1 : Int32) (e2 : Int32) (e3 : Int32) (e4 : Int32) (e5 : Int32) (e6 : Int32) (e7 : Int32) (e8 : Int32) (e9 : Int32) (e10 : Int32) (fr : Int32) (hd : Int32) (nw : (Nat → Int32)) (kp : (Nat → Int32)) (pt : (Nat → Int32)) (hr : (Nat → Nat → Int32)) (lr : (Nat → Nat → Int32)) : Prop := (F_X5_hearer v1 (0 : Int32) hr (fun r_27 => (F_X5_hearer v1 (1 : Int32) hr (fun r_28 => (F_X5_hearer v1 (2 : Int32) hr (fun r_29 => ((s0 = 0 → (B_L_isTold_122  Q  v1 v2 v4 v5 v6 v7 v8 v9 s0 ((r_27 + r_28) + r_29) v10 (0 : Int32) mn sd e0 e1 e2 e3 e4 e5 e6 e7 e8 e9 e10 fr hd nw kp pt hr lr)) ∧ (¬ s0 = 0 → (B_L_isTold_122  Q  v1 v2 v4 v5 v6 v7 v8 v9 s0 ((r_27 + r_28) + r_29) v10 (1 : Int32) mn sd e0 e1 e2 e3 e4 e5 e6 e7 e8 e9 e10 fr hd nw kp pt hr lr)))))))))
def B_L_isTold_0  (Q : Int32 → Int32 → (Nat → Int64) → Int32 → Int32 → Int32 → Int32 → Int32 → Int32 → Int32 → Int32 → Int32 → Int32 → Int32 → Int32 → Int32 → (Nat → Int32) → (Nat → Int32) → (Nat → Int32) → (Nat → Nat → Int32) → (Nat → Nat → Int32) → Prop)  (v1 : Int32) (v2 : Int32) (v3 : Int32) (mn : Int32) (sd : (Nat → Int64)) (e0 : Int32) (e1 : Int32) (e2 : Int32) (e3 : Int32) (e4 : Int32) (e5 : Int32) (e6 : Int32) (e7 : Int32) (e8 : Int32) (e9 : Int32) (e10 : Int32) (fr : Int32) (hd : Int32) (nw : (Nat → Int32)) (kp : (Nat → Int32)) (pt : (Nat → Int32)) (hr : (Nat → Nat → Int32)) (lr : (Nat → Nat → Int32)) : Prop := (F_X5_styled v2 v3 mn sd (fun r_31 mn_32 sd_33 => (F_X5_understood v1 v2 r_31 hr mn_32 sd_33 e0 e1 e2 e3 e4 e5 e6 e7 e8 e9 e10 (fun r_34 mn_35 sd_36 e0_37 e1_38 e2_39 e3_40 e4_41 e5_42 e6_43 e7_44 e8_45 e9_46 e10_47 => (F_X5_hearer v1 (7 : Int32) hr (fun r_48 => (F_X5_hearer v1 (8 : Int32) hr (fun r_49 => (F_X5_hearer v1 (0 : Int32) hr (fun r_50 => (F_X5_hearer v1 (1 : Int32) hr (fun r_51 => (F_X5_hearer v1 (2 : Int32) hr (fun r_52 => (F_X5_reach v2 v3 hr mn_35 sd_36 e0_37 e1_38 e2_39 e3_40 e4_41 e5_42 e6_43 e7_44 e8_45 e9_46 e10_47 (fun r_53 mn_54 sd_55 e0_56 e1_57 e2_58 e3_59 e4_60 e5_61 e6_62 e7_63 e8_64 e9_65 e10_66 => (F_X5_tell v1 v2 v3 mn_54 sd_55 e0_56 e1_57 e2_58 e3_59 e4_60 e5_61 e6_62 e7_63 e8_64 e9_65 e10_66 fr hd nw kp pt hr lr (fun r_67 mn_68 sd_69 e0_70 e1_71 e2_72 e3_73 e4_74 e5_75 e6_76 e7_77 e8_78 e9_79 e10_80 fr_81 hd_82 nw_83 kp_84 pt_85 hr_86 lr_87 => ((r_34 = v2 → (B_L_isTold_86  Q  v1 v2 r_31 r_34 r_48 r_49 ((r_50 + r_51) + r_52) r_53 r_67 (1 : Int32) mn_68 sd_69 e0_70 e1_71 e2_72 e3_73 e4_74 e5_75 e6_76 e7_77 e8_78 e9_79 e10_80 fr_81 hd_82 nw_83 kp_84 pt_85 hr_86 lr_87)) ∧ (¬ r_34 = v2 → (B_L_isTold_86  Q  v1 v2 r_31 r_34 r_48 r_49 ((r_50 + r_51) + r_52) r_53 r_67 (0 : Int32) mn_68 sd_69 e0_70 e1_71 e2_72 e3_73 e4_74 e5_75 e6_76 e7_77 e8_78 e9_79 e10_80 fr_81 hd_82 nw_83 kp_84 pt_85 hr_86 lr_87)))))))))))))))))))))
def F_L_isTold (v1 : Int32) (v2 : Int32) (v3 : Int32)  (mn : Int32) (sd : (Nat → Int64)) (e0 : Int32) (e1 : Int32) (e2 : Int32) (e3 : Int32) (e4 : Int32) (e5 : Int32) (e6 : Int32) (e7 : Int32) (e8 : Int32) (e9 : Int32) (e10 : Int32) (fr : Int32) (hd : Int32) (nw : (Nat → Int32)) (kp : (Nat → Int32)) (pt : (Nat → Int32)) (hr : (Nat → Nat → Int32)) (lr : (Nat → Nat → Int32)) (Q : Int32 → Int32 → (Nat → Int64) → Int32 → Int32 → Int32 → Int32 → Int32 → Int32 → Int32 → Int32 → Int32 → Int32 → Int32 → Int32 → Int32 → (Nat → Int32) → (Nat → Int32) → (Nat → Int32) → (Nat → Nat → Int32) → (Nat → Nat → Int32) → Prop) : Prop := B_L_isTold_0 Q  v1 v2 v3 mn sd e0 e1 e2 e3 e4 e5 e6 e7 e8 e9 e10 fr hd nw kp pt hr lr
set_option maxHeartbeats 4000000 in
set_option maxRecDepth 100000 in
theorem t_B_L_isTold_278  {Q : Int32 → Int32 → (Nat → Int64) → Int32 → Int32 → Int32 → Int32 → Int32 → Int32 → Int32 → Int32 → Int32 → Int32 → Int32 → Int32 → Int32 → (Nat → Int32) → (Nat → Int32) → (Nat → Int32) → (Nat → Nat → Int32) → (Nat → Nat → Int32) → Prop} (C : CxX p s m args c D (tysX cA) RL cL_isTold 13 wsL_isTold) (hrt9 : meth.sig.returnType = (some .boolean)) (hlk : meth.locks = false) (s0 : Int32) (mn : Int32) (sd : (Nat → Int64)) (e0 : Int32) (e1 : Int32) (e2 : Int32) (e3 : Int32) (e4 : Int32) (e5 : Int32) (e6 : Int32) (e7 : Int32) (e8 : Int32) (e9 : Int32) (e10 : Int32) (fr : Int32) (hd : Int32) (nw : (Nat → Int32)) (kp : (Nat → Int32)) (pt : (Nat → Int32)) (hr : (Nat → Nat → Int32)) (lr : (Nat → Nat → Int32))  (h : B_L_isTold_278  Q  s0 mn sd e0 e1 e2 e3 e4 e5 e6 e7 e8 e9 e10 fr hd nw kp pt hr lr) : GoX p l e rmL_isTold s m args below meth c D A 13 0 0 (QP_L_isTold D A ad cA tl tx Q below args s) 278 [] [.int s0] (WX ad cA tl tx mn sd e0 e1 e2 e3 e4 e5 e6 e7 e8 e9 e10 fr hd nw kp pt hr lr) := by
  replace h : (isBo s0 ∧ (Q s0 mn sd e0 e1 e2 e3 e4 e5 e6 e7 e8 e9 e10 fr hd nw kp pt hr lr)) := h
  exact g_zret C hrt9 hlk h.1.n (u := (mn, sd, e0, e1, e2, e3, e4, e5, e6, e7, e8, e9, e10, fr, hd, nw, kp, pt, hr, lr)) rfl h.2 dL_isTold_278
set_option maxHeartbeats 4000000 in
set_option maxRecDepth 100000 in
theorem t_B_L_isTold_277  {Q : Int32 → Int32 → (Nat → Int64) → Int32 → Int32 → Int32 → Int32 → Int32 → Int32 → Int32 → Int32 → Int32 → Int32 → Int32 → Int32 → Int32 → (Nat → Int32) → (Nat → Int32) → (Nat → Int32) → (Nat → Nat → Int32) → (Nat → Nat → Int32) → Prop} (C : CxX p s m args c D (tysX cA) RL cL_isTold 13 wsL_isTold) (hrt9 : meth.sig.returnType = (some .boolean)) (hlk : meth.locks = false)  (mn : Int32) (sd : (Nat → Int64)) (e0 : Int32) (e1 : Int32) (e2 : Int32) (e3 : Int32) (e4 : Int32) (e5 : Int32) (e6 : Int32) (e7 : Int32) (e8 : Int32) (e9 : Int32) (e10 : Int32) (fr : Int32) (hd : Int32) (nw : (Nat → Int32)) (kp : (Nat → Int32)) (pt : (Nat → Int32)) (hr : (Nat → Nat → Int32)) (lr : (Nat → Nat → Int32))  (h : B_L_isTold_277  Q  mn sd e0 e1 e2 e3 e4 e5 e6 e7 e8 e9 e10 fr hd nw kp pt hr lr) : GoX p l e rmL_isTold s m args below meth c D A 13 0 0 (QP_L_isTold D A ad cA tl tx Q below args s) 277 [] [] (WX ad cA tl tx mn sd e0 e1 e2 e3 e4 e5 e6 e7 e8 e9 e10 fr hd nw kp pt hr lr) := by
  replace h : (B_L_isTold_278  Q  (0 : Int32) mn sd e0 e1 e2 e3 e4 e5 e6 e7 e8 e9 e10 fr hd nw kp pt hr lr) := h
  refine g_iconst C (0 : Int32) dL_isTold_277 (by decide) ?_
  exact g_sub [] rfl (t_B_L_isTold_278 C hrt9 hlk  (0 : Int32) mn sd e0 e1 e2 e3 e4 e5 e6 e7 e8 e9 e10 fr hd nw kp pt hr lr  h)
set_option maxHeartbeats 4000000 in
set_option maxRecDepth 100000 in
theorem t_B_L_isTold_273  {Q : Int32 → Int32 → (Nat → Int64) → Int32 → Int32 → Int32 → Int32 → Int32 → Int32 → Int32 → Int32 → Int32 → Int32 → Int32 → Int32 → Int32 → (Nat → Int32) → (Nat → Int32) → (Nat → Int32) → (Nat → Nat → Int32) → (Nat → Nat → Int32) → Prop} (C : CxX p s m args c D (tysX cA) RL cL_isTold 13 wsL_isTold) (hrt9 : meth.sig.returnType = (some .boolean)) (hlk : meth.locks = false)  (mn : Int32) (sd : (Nat → Int64)) (e0 : Int32) (e1 : Int32) (e2 : Int32) (e3 : Int32) (e4 : Int32) (e5 : Int32) (e6 : Int32) (e7 : Int32) (e8 : Int32) (e9 : Int32) (e10 : Int32) (fr : Int32) (hd : Int32) (nw : (Nat → Int32)) (kp : (Nat → Int32)) (pt : (Nat → Int32)) (hr : (Nat → Nat → Int32)) (lr : (Nat → Nat → Int32))  (h : B_L_isTold_273  Q  mn sd e0 e1 e2 e3 e4 e5 e6 e7 e8 e9 e10 fr hd nw kp pt hr lr) : GoX p l e rmL_isTold s m args below meth c D A 13 0 0 (QP_L_isTold D A ad cA tl tx Q below args s) 273 [] [] (WX ad cA tl tx mn sd e0 e1 e2 e3 e4 e5 e6 e7 e8 e9 e10 fr hd nw kp pt hr lr) := by
  replace h : (B_L_isTold_278  Q  (1 : Int32) mn sd e0 e1 e2 e3 e4 e5 e6 e7 e8 e9 e10 fr hd nw kp pt hr lr) := h
  refine g_iconst C (1 : Int32) dL_isTold_273 (by decide) ?_
  refine g_goto C 278 dL_isTold_274 (by decide) ?_
  exact g_sub [] rfl (t_B_L_isTold_278 C hrt9 hlk  (1 : Int32) mn sd e0 e1 e2 e3 e4 e5 e6 e7 e8 e9 e10 fr hd nw kp pt hr lr  h)
set_option maxHeartbeats 4000000 in
set_option maxRecDepth 100000 in
theorem t_B_L_isTold_260  {Q : Int32 → Int32 → (Nat → Int64) → Int32 → Int32 → Int32 → Int32 → Int32 → Int32 → Int32 → Int32 → Int32 → Int32 → Int32 → Int32 → Int32 → (Nat → Int32) → (Nat → Int32) → (Nat → Int32) → (Nat → Nat → Int32) → (Nat → Nat → Int32) → Prop} (C : CxX p s m args c D (tysX cA) RL cL_isTold 13 wsL_isTold) (hrt9 : meth.sig.returnType = (some .boolean)) (hlk : meth.locks = false) (v9 : Int32) (v11 : Int32) (s0 : Int32) (s1 : Int32) (mn : Int32) (sd : (Nat → Int64)) (e0 : Int32) (e1 : Int32) (e2 : Int32) (e3 : Int32) (e4 : Int32) (e5 : Int32) (e6 : Int32) (e7 : Int32) (e8 : Int32) (e9 : Int32) (e10 : Int32) (fr : Int32) (hd : Int32) (nw : (Nat → Int32)) (kp : (Nat → Int32)) (pt : (Nat → Int32)) (hr : (Nat → Nat → Int32)) (lr : (Nat → Nat → Int32))  (h : B_L_isTold_260  Q  v9 v11 s0 s1 mn sd e0 e1 e2 e3 e4 e5 e6 e7 e8 e9 e10 fr hd nw kp pt hr lr) : GoX p l e rmL_isTold s m args below meth c D A 13 0 0 (QP_L_isTold D A ad cA tl tx Q below args s) 260 [(9, .int v9), (11, .int v11)] [.int s1, .int s0] (WX ad cA tl tx mn sd e0 e1 e2 e3 e4 e5 e6 e7 e8 e9 e10 fr hd nw kp pt hr lr) := by
  replace h : ((s0 = s1 → ((0 < v9 → (B_L_isTold_273  Q  mn sd e0 e1 e2 e3 e4 e5 e6 e7 e8 e9 e10 fr hd nw kp pt hr lr)) ∧ (¬ 0 < v9 → ((v11 = 0 → (B_L_isTold_273  Q  mn sd e0 e1 e2 e3 e4 e5 e6 e7 e8 e9 e10 fr hd nw kp pt hr lr)) ∧ (¬ v11 = 0 → (B_L_isTold_277  Q  mn sd e0 e1 e2 e3 e4 e5 e6 e7 e8 e9 e10 fr hd nw kp pt hr lr)))))) ∧ (¬ s0 = s1 → (B_L_isTold_277  Q  mn sd e0 e1 e2 e3 e4 e5 e6 e7 e8 e9 e10 fr hd nw kp pt hr lr))) := h
  refine g_icmp_ne C 277 dL_isTold_260 (by decide) (fun c_1 => ?_) (fun c_1 => ?_)
  · replace h := h.2 c_1
    exact g_sub [] rfl (t_B_L_isTold_277 C hrt9 hlk  mn sd e0 e1 e2 e3 e4 e5 e6 e7 e8 e9 e10 fr hd nw kp pt hr lr  h)
  · replace h := h.1 c_1
    refine g_iload C 0 dL_isTold_263 rfl ?_
    refine g_if_gt C 273 dL_isTold_265 (by decide) (fun c_2 => ?_) (fun c_2 => ?_)
    · replace h := h.1 c_2
      exact g_sub [] rfl (t_B_L_isTold_273 C hrt9 hlk  mn sd e0 e1 e2 e3 e4 e5 e6 e7 e8 e9 e10 fr hd nw kp pt hr lr  h)
    · replace h := h.2 c_2
      refine g_iload C 1 dL_isTold_268 rfl ?_
      refine g_if_ne C 277 dL_isTold_270 (by decide) (fun c_3 => ?_) (fun c_3 => ?_)
      · replace h := h.2 c_3
        exact g_sub [] rfl (t_B_L_isTold_277 C hrt9 hlk  mn sd e0 e1 e2 e3 e4 e5 e6 e7 e8 e9 e10 fr hd nw kp pt hr lr  h)
      · replace h := h.1 c_3
        exact g_sub [] rfl (t_B_L_isTold_273 C hrt9 hlk  mn sd e0 e1 e2 e3 e4 e5 e6 e7 e8 e9 e10 fr hd nw kp pt hr lr  h)
set_option maxHeartbeats 4000000 in
set_option maxRecDepth 100000 in
theorem t_B_L_isTold_239  {Q : Int32 → Int32 → (Nat → Int64) → Int32 → Int32 → Int32 → Int32 → Int32 → Int32 → Int32 → Int32 → Int32 → Int32 → Int32 → Int32 → Int32 → (Nat → Int32) → (Nat → Int32) → (Nat → Int32) → (Nat → Nat → Int32) → (Nat → Nat → Int32) → Prop} (C : CxX p s m args c D (tysX cA) RL cL_isTold 13 wsL_isTold) (hrt9 : meth.sig.returnType = (some .boolean)) (hlk : meth.locks = false) (v8 : Int32) (v9 : Int32) (v11 : Int32) (v12 : Int32) (s0 : Int32) (s1 : Int32) (mn : Int32) (sd : (Nat → Int64)) (e0 : Int32) (e1 : Int32) (e2 : Int32) (e3 : Int32) (e4 : Int32) (e5 : Int32) (e6 : Int32) (e7 : Int32) (e8 : Int32) (e9 : Int32) (e10 : Int32) (fr : Int32) (hd : Int32) (nw : (Nat → Int32)) (kp : (Nat → Int32)) (pt : (Nat → Int32)) (hr : (Nat → Nat → Int32)) (lr : (Nat → Nat → Int32))  (h : B_L_isTold_239  Q  v8 v9 v11 v12 s0 s1 mn sd e0 e1 e2 e3 e4 e5 e6 e7 e8 e9 e10 fr hd nw kp pt hr lr) : GoX p l e rmL_isTold s m args below meth c D A 13 0 0 (QP_L_isTold D A ad cA tl tx Q below args s) 239 [(0, .ref (ad 0)), (8, .int v8), (9, .int v9), (11, .int v11), (12, .int v12)] [.int s1, .int s0] (WX ad cA tl tx mn sd e0 e1 e2 e3 e4 e5 e6 e7 e8 e9 e10 fr hd nw kp pt hr lr) := by
  replace h : ((s0 = s1 → (F_X5_log (0 : Int32) (4 : Int32) nw kp lr (fun r_5 => ((v12 ≤ v8 → (B_L_isTold_260  Q  v9 v11 r_5 (0 : Int32) mn sd e0 e1 e2 e3 e4 e5 e6 e7 e8 e9 e10 fr hd nw kp pt hr lr)) ∧ (¬ v12 ≤ v8 → (B_L_isTold_260  Q  v9 v11 r_5 (1 : Int32) mn sd e0 e1 e2 e3 e4 e5 e6 e7 e8 e9 e10 fr hd nw kp pt hr lr)))))) ∧ (¬ s0 = s1 → (B_L_isTold_277  Q  mn sd e0 e1 e2 e3 e4 e5 e6 e7 e8 e9 e10 fr hd nw kp pt hr lr))) := h
  refine g_icmp_ne C 277 dL_isTold_239 (by decide) (fun c_4 => ?_) (fun c_4 => ?_)
  · replace h := h.2 c_4
    exact g_sub [] rfl (t_B_L_isTold_277 C hrt9 hlk  mn sd e0 e1 e2 e3 e4 e5 e6 e7 e8 e9 e10 fr hd nw kp pt hr lr  h)
  · replace h := h.1 c_4
    refine g_aload_n C 0 dL_isTold_242 rfl rfl ?_
    refine g_iconst C (0 : Int32) dL_isTold_243 (by decide) ?_
    refine g_iconst C (4 : Int32) dL_isTold_244 (by decide) ?_
    refine k_X5_log C gL_isTold_X5_log ⟨Nat.le_of_ble_eq_true rfl, Nat.le_of_ble_eq_true rfl⟩ ⟨Nat.zero_le _, Nat.zero_le _⟩ (Nat.le_of_ble_eq_true rfl) dL_isTold_245  h (fun r_5 h => ?_)
    refine g_iload C 4 dL_isTold_248 rfl ?_
    refine g_iload C 1 dL_isTold_250 rfl ?_
    refine g_icmp_le C 259 dL_isTold_252 (by decide) (fun c_6 => ?_) (fun c_6 => ?_)
    · replace h := h.1 c_6
      refine g_iconst C (0 : Int32) dL_isTold_259 (by decide) ?_
      exact g_sub [2, 3] rfl (t_B_L_isTold_260 C hrt9 hlk  v9 v11 r_5 (0 : Int32) mn sd e0 e1 e2 e3 e4 e5 e6 e7 e8 e9 e10 fr hd nw kp pt hr lr  h)
    · replace h := h.2 c_6
      refine g_iconst C (1 : Int32) dL_isTold_255 (by decide) ?_
      refine g_goto C 260 dL_isTold_256 (by decide) ?_
      exact g_sub [2, 3] rfl (t_B_L_isTold_260 C hrt9 hlk  v9 v11 r_5 (1 : Int32) mn sd e0 e1 e2 e3 e4 e5 e6 e7 e8 e9 e10 fr hd nw kp pt hr lr  h)
set_option maxHeartbeats 4000000 in
set_option maxRecDepth 100000 in
theorem t_B_L_isTold_184  {Q : Int32 → Int32 → (Nat → Int64) → Int32 → Int32 → Int32 → Int32 → Int32 → Int32 → Int32 → Int32 → Int32 → Int32 → Int32 → Int32 → Int32 → (Nat → Int32) → (Nat → Int32) → (Nat → Int32) → (Nat → Nat → Int32) → (Nat → Nat → Int32) → Prop} (C : CxX p s m args c D (tysX cA) RL cL_isTold 13 wsL_isTold) (hrt9 : meth.sig.returnType = (some .boolean)) (hlk : meth.locks = false) (v1 : Int32) (v2 : Int32) (v4 : Int32) (v5 : Int32) (v8 : Int32) (v9 : Int32) (v11 : Int32) (v12 : Int32) (mn : Int32) (sd : (Nat → Int64)) (e0 : Int32) (e1 : Int32) (e2 : Int32) (e3 : Int32) (e4 : Int32) (e5 : Int32) (e6 : Int32) (e7 : Int32) (e8 : Int32) (e9 : Int32) (e10 : Int32) (fr : Int32) (hd : Int32) (nw : (Nat → Int32)) (kp : (Nat → Int32)) (pt : (Nat → Int32)) (hr : (Nat → Nat → Int32)) (lr : (Nat → Nat → Int32))  (h : B_L_isTold_184  Q  v1 v2 v4 v5 v8 v9 v11 v12 mn sd e0 e1 e2 e3 e4 e5 e6 e7 e8 e9 e10 fr hd nw kp pt hr lr) : GoX p l e rmL_isTold s m args below meth c D A 13 0 0 (QP_L_isTold D A ad cA tl tx Q below args s) 184 [(0, .ref (ad 0)), (1, .int v1), (2, .int v2), (4, .int v4), (5, .int v5), (8, .int v8), (9, .int v9), (11, .int v11), (12, .int v12)] [] (WX ad cA tl tx mn sd e0 e1 e2 e3 e4 e5 e6 e7 e8 e9 e10 fr hd nw kp pt hr lr) := by
  replace h : (F_X5_log (0 : Int32) (0 : Int32) nw kp lr (fun r_7 => ((r_7 = v1 → (F_X5_log (0 : Int32) (1 : Int32) nw kp lr (fun r_9 => ((r_9 = v2 → (F_X5_log (0 : Int32) (2 : Int32) nw kp lr (fun r_11 => (F_X5_wayLength v2 v4 mn sd (fun r_12 mn_13 sd_14 => ((r_11 = r_12 → (F_X5_log (0 : Int32) (3 : Int32) nw kp lr (fun r_16 => ((v5 = (-5 : Int32) → (B_L_isTold_239  Q  v8 v9 v11 v12 r_16 (0 : Int32) mn_13 sd_14 e0 e1 e2 e3 e4 e5 e6 e7 e8 e9 e10 fr hd nw kp pt hr lr)) ∧ (¬ v5 = (-5 : Int32) → (B_L_isTold_239  Q  v8 v9 v11 v12 r_16 v5 mn_13 sd_14 e0 e1 e2 e3 e4 e5 e6 e7 e8 e9 e10 fr hd nw kp pt hr lr)))))) ∧ (¬ r_11 = r_12 → (B_L_isTold_277  Q  mn_13 sd_14 e0 e1 e2 e3 e4 e5 e6 e7 e8 e9 e10 fr hd nw kp pt hr lr)))))))) ∧ (¬ r_9 = v2 → (B_L_isTold_277  Q  mn sd e0 e1 e2 e3 e4 e5 e6 e7 e8 e9 e10 fr hd nw kp pt hr lr)))))) ∧ (¬ r_7 = v1 → (B_L_isTold_277  Q  mn sd e0 e1 e2 e3 e4 e5 e6 e7 e8 e9 e10 fr hd nw kp pt hr lr))))) := h
  refine g_aload_n C 0 dL_isTold_184 rfl rfl ?_
  refine g_iconst C (0 : Int32) dL_isTold_185 (by decide) ?_
  refine g_iconst C (0 : Int32) dL_isTold_186 (by decide) ?_
  refine k_X5_log C gL_isTold_X5_log ⟨Nat.le_of_ble_eq_true rfl, Nat.le_of_ble_eq_true rfl⟩ ⟨Nat.zero_le _, Nat.zero_le _⟩ (Nat.le_of_ble_eq_true rfl) dL_isTold_187  h (fun r_7 h => ?_)
  refine g_iload_n C 1 dL_isTold_190 rfl rfl ?_
  refine g_icmp_ne C 277 dL_isTold_191 (by decide) (fun c_8 => ?_) (fun c_8 => ?_)
  · replace h := h.2 c_8
    exact g_sub [] rfl (t_B_L_isTold_277 C hrt9 hlk  mn sd e0 e1 e2 e3 e4 e5 e6 e7 e8 e9 e10 fr hd nw kp pt hr lr  h)
  · replace h := h.1 c_8
    refine g_aload_n C 0 dL_isTold_194 rfl rfl ?_
    refine g_iconst C (0 : Int32) dL_isTold_195 (by decide) ?_
    refine g_iconst C (1 : Int32) dL_isTold_196 (by decide) ?_
    refine k_X5_log C gL_isTold_X5_log ⟨Nat.le_of_ble_eq_true rfl, Nat.le_of_ble_eq_true rfl⟩ ⟨Nat.zero_le _, Nat.zero_le _⟩ (Nat.le_of_ble_eq_true rfl) dL_isTold_197  h (fun r_9 h => ?_)
    refine g_iload_n C 2 dL_isTold_200 rfl rfl ?_
    refine g_icmp_ne C 277 dL_isTold_201 (by decide) (fun c_10 => ?_) (fun c_10 => ?_)
    · replace h := h.2 c_10
      exact g_sub [] rfl (t_B_L_isTold_277 C hrt9 hlk  mn sd e0 e1 e2 e3 e4 e5 e6 e7 e8 e9 e10 fr hd nw kp pt hr lr  h)
    · replace h := h.1 c_10
      refine g_aload_n C 0 dL_isTold_204 rfl rfl ?_
      refine g_iconst C (0 : Int32) dL_isTold_205 (by decide) ?_
      refine g_iconst C (2 : Int32) dL_isTold_206 (by decide) ?_
      refine k_X5_log C gL_isTold_X5_log ⟨Nat.le_of_ble_eq_true rfl, Nat.le_of_ble_eq_true rfl⟩ ⟨Nat.zero_le _, Nat.zero_le _⟩ (Nat.le_of_ble_eq_true rfl) dL_isTold_207  h (fun r_11 h => ?_)
      refine g_aload_n C 0 dL_isTold_210 rfl rfl ?_
      refine g_iload_n C 2 dL_isTold_211 rfl rfl ?_
      refine g_iload C 3 dL_isTold_212 rfl ?_
      refine k_X5_wayLength C gL_isTold_X5_wayLength ⟨Nat.le_of_ble_eq_true rfl, Nat.le_of_ble_eq_true rfl⟩ ⟨Nat.zero_le _, Nat.zero_le _⟩ (Nat.le_of_ble_eq_true rfl) dL_isTold_214  h (fun r_12 mn_13 sd_14 h => ?_)
      refine g_icmp_ne C 277 dL_isTold_217 (by decide) (fun c_15 => ?_) (fun c_15 => ?_)
      · replace h := h.2 c_15
        exact g_sub [] rfl (t_B_L_isTold_277 C hrt9 hlk  mn_13 sd_14 e0 e1 e2 e3 e4 e5 e6 e7 e8 e9 e10 fr hd nw kp pt hr lr  h)
      · replace h := h.1 c_15
        refine g_aload_n C 0 dL_isTold_220 rfl rfl ?_
        refine g_iconst C (0 : Int32) dL_isTold_221 (by decide) ?_
        refine g_iconst C (3 : Int32) dL_isTold_222 (by decide) ?_
        refine k_X5_log C gL_isTold_X5_log ⟨Nat.le_of_ble_eq_true rfl, Nat.le_of_ble_eq_true rfl⟩ ⟨Nat.zero_le _, Nat.zero_le _⟩ (Nat.le_of_ble_eq_true rfl) dL_isTold_223  h (fun r_16 h => ?_)
        refine g_iload C 4 dL_isTold_226 rfl ?_
        refine g_bipush C (-5 : Int32) dL_isTold_228 (by decide) ?_
        refine g_icmp_ne C 237 dL_isTold_230 (by decide) (fun c_17 => ?_) (fun c_17 => ?_)
        · replace h := h.2 c_17
          refine g_iload C 4 dL_isTold_237 rfl ?_
          exact g_sub [0, 5, 6, 7, 8] rfl (t_B_L_isTold_239 C hrt9 hlk  v8 v9 v11 v12 r_16 v5 mn_13 sd_14 e0 e1 e2 e3 e4 e5 e6 e7 e8 e9 e10 fr hd nw kp pt hr lr  h)
        · replace h := h.1 c_17
          refine g_iconst C (0 : Int32) dL_isTold_233 (by decide) ?_
          refine g_goto C 239 dL_isTold_234 (by decide) ?_
          exact g_sub [0, 5, 6, 7, 8] rfl (t_B_L_isTold_239 C hrt9 hlk  v8 v9 v11 v12 r_16 (0 : Int32) mn_13 sd_14 e0 e1 e2 e3 e4 e5 e6 e7 e8 e9 e10 fr hd nw kp pt hr lr  h)
set_option maxHeartbeats 4000000 in
set_option maxRecDepth 100000 in
theorem t_B_L_isTold_158  {Q : Int32 → Int32 → (Nat → Int64) → Int32 → Int32 → Int32 → Int32 → Int32 → Int32 → Int32 → Int32 → Int32 → Int32 → Int32 → Int32 → Int32 → (Nat → Int32) → (Nat → Int32) → (Nat → Int32) → (Nat → Nat → Int32) → (Nat → Nat → Int32) → Prop} (C : CxX p s m args c D (tysX cA) RL cL_isTold 13 wsL_isTold) (hrt9 : meth.sig.returnType = (some .boolean)) (hlk : meth.locks = false) (v1 : Int32) (v2 : Int32) (v4 : Int32) (v5 : Int32) (v8 : Int32) (v9 : Int32) (v11 : Int32) (v12 : Int32) (s0 : Int32) (s1 : Int32) (s2 : Int32) (mn : Int32) (sd : (Nat → Int64)) (e0 : Int32) (e1 : Int32) (e2 : Int32) (e3 : Int32) (e4 : Int32) (e5 : Int32) (e6 : Int32) (e7 : Int32) (e8 : Int32) (e9 : Int32) (e10 : Int32) (fr : Int32) (hd : Int32) (nw : (Nat → Int32)) (kp : (Nat → Int32)) (pt : (Nat → Int32)) (hr : (Nat → Nat → Int32)) (lr : (Nat → Nat → Int32))  (h : B_L_isTold_158  Q  v1 v2 v4 v5 v8 v9 v11 v12 s0 s1 s2 mn sd e0 e1 e2 e3 e4 e5 e6 e7 e8 e9 e10 fr hd nw kp pt hr lr) : GoX p l e rmL_isTold s m args below meth c D A 13 0 0 (QP_L_isTold D A ad cA tl tx Q below args s) 158 [(0, .ref (ad 0)), (1, .int v1), (2, .int v2), (4, .int v4), (5, .int v5), (8, .int v8), (9, .int v9), (11, .int v11), (12, .int v12)] [.int s2, .int s1, .int s0] (WX ad cA tl tx mn sd e0 e1 e2 e3 e4 e5 e6 e7 e8 e9 e10 fr hd nw kp pt hr lr) := by
  replace h : ((s0 = (s1 + s2) → ((v11 = 0 → ((v12 < v8 → (B_L_isTold_277  Q  mn sd e0 e1 e2 e3 e4 e5 e6 e7 e8 e9 e10 fr hd nw kp pt hr lr)) ∧ (¬ v12 < v8 → (B_L_isTold_184  Q  v1 v2 v4 v5 v8 v9 v11 v12 mn sd e0 e1 e2 e3 e4 e5 e6 e7 e8 e9 e10 fr hd nw kp pt hr lr)))) ∧ (¬ v11 = 0 → ((v12 = v8 → (B_L_isTold_184  Q  v1 v2 v4 v5 v8 v9 v11 v12 mn sd e0 e1 e2 e3 e4 e5 e6 e7 e8 e9 e10 fr hd nw kp pt hr lr)) ∧ (¬ v12 = v8 → (B_L_isTold_277  Q  mn sd e0 e1 e2 e3 e4 e5 e6 e7 e8 e9 e10 fr hd nw kp pt hr lr)))))) ∧ (¬ s0 = (s1 + s2) → (B_L_isTold_277  Q  mn sd e0 e1 e2 e3 e4 e5 e6 e7 e8 e9 e10 fr hd nw kp pt hr lr))) := h
  refine g_iadd C dL_isTold_158 ?_
  refine g_icmp_ne C 277 dL_isTold_159 (by decide) (fun c_18 => ?_) (fun c_18 => ?_)
  · replace h := h.2 c_18
    exact g_sub [] rfl (t_B_L_isTold_277 C hrt9 hlk  mn sd e0 e1 e2 e3 e4 e5 e6 e7 e8 e9 e10 fr hd nw kp pt hr lr  h)
  · replace h := h.1 c_18
    refine g_iload C 7 dL_isTold_162 rfl ?_
    refine g_if_eq C 177 dL_isTold_164 (by decide) (fun c_19 => ?_) (fun c_19 => ?_)
    · replace h := h.1 c_19
      refine g_iload C 8 dL_isTold_177 rfl ?_
      refine g_iload C 5 dL_isTold_179 rfl ?_
      refine g_icmp_lt C 277 dL_isTold_181 (by decide) (fun c_20 => ?_) (fun c_20 => ?_)
      · replace h := h.1 c_20
        exact g_sub [] rfl (t_B_L_isTold_277 C hrt9 hlk  mn sd e0 e1 e2 e3 e4 e5 e6 e7 e8 e9 e10 fr hd nw kp pt hr lr  h)
      · replace h := h.2 c_20
        exact g_sub [0, 1, 2, 3, 4, 5, 6, 7, 8] rfl (t_B_L_isTold_184 C hrt9 hlk  v1 v2 v4 v5 v8 v9 v11 v12 mn sd e0 e1 e2 e3 e4 e5 e6 e7 e8 e9 e10 fr hd nw kp pt hr lr  h)
    · replace h := h.2 c_19
      refine g_iload C 8 dL_isTold_167 rfl ?_
      refine g_iload C 5 dL_isTold_169 rfl ?_
      refine g_icmp_ne C 277 dL_isTold_171 (by decide) (fun c_21 => ?_) (fun c_21 => ?_)
      · replace h := h.2 c_21
        exact g_sub [] rfl (t_B_L_isTold_277 C hrt9 hlk  mn sd e0 e1 e2 e3 e4 e5 e6 e7 e8 e9 e10 fr hd nw kp pt hr lr  h)
      · replace h := h.1 c_21
        refine g_goto C 184 dL_isTold_174 (by decide) ?_
        exact g_sub [0, 1, 2, 3, 4, 5, 6, 7, 8] rfl (t_B_L_isTold_184 C hrt9 hlk  v1 v2 v4 v5 v8 v9 v11 v12 mn sd e0 e1 e2 e3 e4 e5 e6 e7 e8 e9 e10 fr hd nw kp pt hr lr  h)
set_option maxHeartbeats 4000000 in
set_option maxRecDepth 100000 in
theorem t_B_L_isTold_122  {Q : Int32 → Int32 → (Nat → Int64) → Int32 → Int32 → Int32 → Int32 → Int32 → Int32 → Int32 → Int32 → Int32 → Int32 → Int32 → Int32 → Int32 → (Nat → Int32) → (Nat → Int32) → (Nat → Int32) → (Nat → Nat → Int32) → (Nat → Nat → Int32) → Prop} (C : CxX p s m args c D (tysX cA) RL cL_isTold 13 wsL_isTold) (hrt9 : meth.sig.returnType = (some .boolean)) (hlk : meth.locks = false) (v1 : Int32) (v2 : Int32) (v4 : Int32) (v5 : Int32) (v6 : Int32) (v7 : Int32) (v8 : Int32) (v9 : Int32) (v11 : Int32) (v12 : Int32) (s0 : Int32) (s1 : Int32) (mn : Int32) (sd : (Nat → Int64)) (e0 : Int32) (e1 : Int32) (e2 : Int32) (e3 : Int32) (e4 : Int32) (e5 : Int32) (e6 : Int32) (e7 : Int32) (e8 : Int32) (e9 : Int32) (e10 : Int32) (fr : Int32) (hd : Int32) (nw : (Nat → Int32)) (kp : (Nat → Int32)) (pt : (Nat → Int32)) (hr : (Nat → Nat → Int32)) (lr : (Nat → Nat → Int32))  (h : B_L_isTold_122  Q  v1 v2 v4 v5 v6 v7 v8 v9 v11 v12 s0 s1 mn sd e0 e1 e2 e3 e4 e5 e6 e7 e8 e9 e10 fr hd nw kp pt hr lr) : GoX p l e rmL_isTold s m args below meth c D A 13 0 0 (QP_L_isTold D A ad cA tl tx Q below args s) 122 [(0, .ref (ad 0)), (1, .int v1), (2, .int v2), (4, .int v4), (5, .int v5), (6, .int v6), (7, .int v7), (8, .int v8), (9, .int v9), (11, .int v11), (12, .int v12)] [.int s1, .int s0] (WX ad cA tl tx mn sd e0 e1 e2 e3 e4 e5 e6 e7 e8 e9 e10 fr hd nw kp pt hr lr) := by
  replace h : ((s0 = s1 → (F_X5_hearer v1 (7 : Int32) hr (fun r_23 => ((r_23 = (v6 + (1 : Int32)) → (F_X5_hearer v1 (8 : Int32) hr (fun r_25 => ((v11 = 0 → (B_L_isTold_158  Q  v1 v2 v4 v5 v8 v9 v11 v12 r_25 v7 (1 : Int32) mn sd e0 e1 e2 e3 e4 e5 e6 e7 e8 e9 e10 fr hd nw kp pt hr lr)) ∧ (¬ v11 = 0 → (B_L_isTold_158  Q  v1 v2 v4 v5 v8 v9 v11 v12 r_25 v7 (0 : Int32) mn sd e0 e1 e2 e3 e4 e5 e6 e7 e8 e9 e10 fr hd nw kp pt hr lr)))))) ∧ (¬ r_23 = (v6 + (1 : Int32)) → (B_L_isTold_277  Q  mn sd e0 e1 e2 e3 e4 e5 e6 e7 e8 e9 e10 fr hd nw kp pt hr lr)))))) ∧ (¬ s0 = s1 → (B_L_isTold_277  Q  mn sd e0 e1 e2 e3 e4 e5 e6 e7 e8 e9 e10 fr hd nw kp pt hr lr))) := h
  refine g_icmp_ne C 277 dL_isTold_122 (by decide) (fun c_22 => ?_) (fun c_22 => ?_)
  · replace h := h.2 c_22
    exact g_sub [] rfl (t_B_L_isTold_277 C hrt9 hlk  mn sd e0 e1 e2 e3 e4 e5 e6 e7 e8 e9 e10 fr hd nw kp pt hr lr  h)
  · replace h := h.1 c_22
    refine g_aload_n C 0 dL_isTold_125 rfl rfl ?_
    refine g_iload_n C 1 dL_isTold_126 rfl rfl ?_
    refine g_bipush C (7 : Int32) dL_isTold_127 (by decide) ?_
    refine k_X5_hearer C gL_isTold_X5_hearer ⟨Nat.le_of_ble_eq_true rfl, Nat.le_of_ble_eq_true rfl⟩ ⟨Nat.zero_le _, Nat.zero_le _⟩ (Nat.le_of_ble_eq_true rfl) dL_isTold_129  h (fun r_23 h => ?_)
    refine g_iload C 5 dL_isTold_132 rfl ?_
    refine g_iconst C (1 : Int32) dL_isTold_134 (by decide) ?_
    refine g_iadd C dL_isTold_135 ?_
    refine g_icmp_ne C 277 dL_isTold_136 (by decide) (fun c_24 => ?_) (fun c_24 => ?_)
    · replace h := h.2 c_24
      exact g_sub [] rfl (t_B_L_isTold_277 C hrt9 hlk  mn sd e0 e1 e2 e3 e4 e5 e6 e7 e8 e9 e10 fr hd nw kp pt hr lr  h)
    · replace h := h.1 c_24
      refine g_aload_n C 0 dL_isTold_139 rfl rfl ?_
      refine g_iload_n C 1 dL_isTold_140 rfl rfl ?_
      refine g_bipush C (8 : Int32) dL_isTold_141 (by decide) ?_
      refine k_X5_hearer C gL_isTold_X5_hearer ⟨Nat.le_of_ble_eq_true rfl, Nat.le_of_ble_eq_true rfl⟩ ⟨Nat.zero_le _, Nat.zero_le _⟩ (Nat.le_of_ble_eq_true rfl) dL_isTold_143  h (fun r_25 h => ?_)
      refine g_iload C 6 dL_isTold_146 rfl ?_
      refine g_iload C 9 dL_isTold_148 rfl ?_
      refine g_if_eq C 157 dL_isTold_150 (by decide) (fun c_26 => ?_) (fun c_26 => ?_)
      · replace h := h.1 c_26
        refine g_iconst C (1 : Int32) dL_isTold_157 (by decide) ?_
        exact g_sub [0, 1, 2, 3, 4, 7, 8, 9, 10] rfl (t_B_L_isTold_158 C hrt9 hlk  v1 v2 v4 v5 v8 v9 v11 v12 r_25 v7 (1 : Int32) mn sd e0 e1 e2 e3 e4 e5 e6 e7 e8 e9 e10 fr hd nw kp pt hr lr  h)
      · replace h := h.2 c_26
        refine g_iconst C (0 : Int32) dL_isTold_153 (by decide) ?_
        refine g_goto C 158 dL_isTold_154 (by decide) ?_
        exact g_sub [0, 1, 2, 3, 4, 7, 8, 9, 10] rfl (t_B_L_isTold_158 C hrt9 hlk  v1 v2 v4 v5 v8 v9 v11 v12 r_25 v7 (0 : Int32) mn sd e0 e1 e2 e3 e4 e5 e6 e7 e8 e9 e10 fr hd nw kp pt hr lr  h)
set_option maxHeartbeats 4000000 in
set_option maxRecDepth 100000 in
theorem t_B_L_isTold_86  {Q : Int32 → Int32 → (Nat → Int64) → Int32 → Int32 → Int32 → Int32 → Int32 → Int32 → Int32 → Int32 → Int32 → Int32 → Int32 → Int32 → Int32 → (Nat → Int32) → (Nat → Int32) → (Nat → Int32) → (Nat → Nat → Int32) → (Nat → Nat → Int32) → Prop} (C : CxX p s m args c D (tysX cA) RL cL_isTold 13 wsL_isTold) (hrt9 : meth.sig.returnType = (some .boolean)) (hlk : meth.locks = false) (v1 : Int32) (v2 : Int32) (v4 : Int32) (v5 : Int32) (v6 : Int32) (v7 : Int32) (v8 : Int32) (v9 : Int32) (v10 : Int32) (s0 : Int32) (mn : Int32) (sd : (Nat → Int64)) (e0 : Int32) (e1 : Int32) (e2 : Int32) (e3 : Int32) (e4 : Int32) (e5 : Int32) (e6 : Int32) (e7 : Int32) (e8 : Int32) (e9 : Int32) (e10 : Int32) (fr : Int32) (hd : Int32) (nw : (Nat → Int32)) (kp : (Nat → Int32)) (pt : (Nat → Int32)) (hr : (Nat → Nat → Int32)) (lr : (Nat → Nat → Int32))  (h : B_L_isTold_86  Q  v1 v2 v4 v5 v6 v7 v8 v9 v10 s0 mn sd e0 e1 e2 e3 e4 e5 e6 e7 e8 e9 e10 fr hd nw kp pt hr lr) : GoX p l e rmL_isTold s m args below meth c D A 13 0 0 (QP_L_isTold D A ad cA tl tx Q below args s) 86 [(0, .ref (ad 0)), (1, .int v1), (2, .int v2), (4, .int v4), (5, .int v5), (6, .int v6), (7, .int v7), (8, .int v8), (9, .int v9), (10, .int v10)] [.int s0] (WX ad cA tl tx mn sd e0 e1 e2 e3 e4 e5 e6 e7 e8 e9 e10 fr hd nw kp pt hr lr) := by
  replace h : (F_X5_hearer v1 (0 : Int32) hr (fun r_27 => (F_X5_hearer v1 (1 : Int32) hr (fun r_28 => (F_X5_hearer v1 (2 : Int32) hr (fun r_29 => ((s0 = 0 → (B_L_isTold_122  Q  v1 v2 v4 v5 v6 v7 v8 v9 s0 ((r_27 + r_28) + r_29) v10 (0 : Int32) mn sd e0 e1 e2 e3 e4 e5 e6 e7 e8 e9 e10 fr hd nw kp pt hr lr)) ∧ (¬ s0 = 0 → (B_L_isTold_122  Q  v1 v2 v4 v5 v6 v7 v8 v9 s0 ((r_27 + r_28) + r_29) v10 (1 : Int32) mn sd e0 e1 e2 e3 e4 e5 e6 e7 e8 e9 e10 fr hd nw kp pt hr lr))))))))) := h
  refine g_istore C (lv2 := [(11, .int s0), (0, .ref (ad 0)), (1, .int v1), (2, .int v2), (4, .int v4), (5, .int v5), (6, .int v6), (7, .int v7), (8, .int v8), (9, .int v9), (10, .int v10)]) dL_isTold_86 (by decide) rfl ?_
  refine g_aload_n C 1 dL_isTold_88 rfl rfl ?_
  refine g_iload_n C 2 dL_isTold_89 rfl rfl ?_
  refine g_iconst C (0 : Int32) dL_isTold_90 (by decide) ?_
  refine k_X5_hearer C gL_isTold_X5_hearer ⟨Nat.le_of_ble_eq_true rfl, Nat.le_of_ble_eq_true rfl⟩ ⟨Nat.zero_le _, Nat.zero_le _⟩ (Nat.le_of_ble_eq_true rfl) dL_isTold_91  h (fun r_27 h => ?_)
  refine g_aload_n C 1 dL_isTold_94 rfl rfl ?_
  refine g_iload_n C 2 dL_isTold_95 rfl rfl ?_
  refine g_iconst C (1 : Int32) dL_isTold_96 (by decide) ?_
  refine k_X5_hearer C gL_isTold_X5_hearer ⟨Nat.le_of_ble_eq_true rfl, Nat.le_of_ble_eq_true rfl⟩ ⟨Nat.zero_le _, Nat.zero_le _⟩ (Nat.le_of_ble_eq_true rfl) dL_isTold_97  h (fun r_28 h => ?_)
  refine g_iadd C dL_isTold_100 ?_
  refine g_aload_n C 1 dL_isTold_101 rfl rfl ?_
  refine g_iload_n C 2 dL_isTold_102 rfl rfl ?_
  refine g_iconst C (2 : Int32) dL_isTold_103 (by decide) ?_
  refine k_X5_hearer C gL_isTold_X5_hearer ⟨Nat.le_of_ble_eq_true rfl, Nat.le_of_ble_eq_true rfl⟩ ⟨Nat.zero_le _, Nat.zero_le _⟩ (Nat.le_of_ble_eq_true rfl) dL_isTold_104  h (fun r_29 h => ?_)
  refine g_iadd C dL_isTold_107 ?_
  refine g_istore C (lv2 := [(12, .int ((r_27 + r_28) + r_29)), (11, .int s0), (0, .ref (ad 0)), (1, .int v1), (2, .int v2), (4, .int v4), (5, .int v5), (6, .int v6), (7, .int v7), (8, .int v8), (9, .int v9), (10, .int v10)]) dL_isTold_108 (by decide) rfl ?_
  refine g_iload C 11 dL_isTold_110 rfl ?_
  refine g_iload C 1 dL_isTold_112 rfl ?_
  refine g_if_eq C 121 dL_isTold_114 (by decide) (fun c_30 => ?_) (fun c_30 => ?_)
  · replace h := h.1 c_30
    refine g_iconst C (0 : Int32) dL_isTold_121 (by decide) ?_
    exact g_sub [2, 3, 4, 5, 6, 7, 8, 9, 10, 1, 0] rfl (t_B_L_isTold_122 C hrt9 hlk  v1 v2 v4 v5 v6 v7 v8 v9 s0 ((r_27 + r_28) + r_29) v10 (0 : Int32) mn sd e0 e1 e2 e3 e4 e5 e6 e7 e8 e9 e10 fr hd nw kp pt hr lr  h)
  · replace h := h.2 c_30
    refine g_iconst C (1 : Int32) dL_isTold_117 (by decide) ?_
    refine g_goto C 122 dL_isTold_118 (by decide) ?_
    exact g_sub [2, 3, 4, 5, 6, 7, 8, 9, 10, 1, 0] rfl (t_B_L_isTold_122 C hrt9 hlk  v1 v2 v4 v5 v6 v7 v8 v9 s0 ((r_27 + r_28) + r_29) v10 (1 : Int32) mn sd e0 e1 e2 e3 e4 e5 e6 e7 e8 e9 e10 fr hd nw kp pt hr lr  h)
set_option maxHeartbeats 4000000 in
set_option maxRecDepth 100000 in
theorem t_B_L_isTold_0  {Q : Int32 → Int32 → (Nat → Int64) → Int32 → Int32 → Int32 → Int32 → Int32 → Int32 → Int32 → Int32 → Int32 → Int32 → Int32 → Int32 → Int32 → (Nat → Int32) → (Nat → Int32) → (Nat → Int32) → (Nat → Nat → Int32) → (Nat → Nat → Int32) → Prop} (C : CxX p s m args c D (tysX cA) RL cL_isTold 13 wsL_isTold) (hrt9 : meth.sig.returnType = (some .boolean)) (hlk : meth.locks = false) (v1 : Int32) (v2 : Int32) (v3 : Int32) (mn : Int32) (sd : (Nat → Int64)) (e0 : Int32) (e1 : Int32) (e2 : Int32) (e3 : Int32) (e4 : Int32) (e5 : Int32) (e6 : Int32) (e7 : Int32) (e8 : Int32) (e9 : Int32) (e10 : Int32) (fr : Int32) (hd : Int32) (nw : (Nat → Int32)) (kp : (Nat → Int32)) (pt : (Nat → Int32)) (hr : (Nat → Nat → Int32)) (lr : (Nat → Nat → Int32))  (h : B_L_isTold_0  Q  v1 v2 v3 mn sd e0 e1 e2 e3 e4 e5 e6 e7 e8 e9 e10 fr hd nw kp pt hr lr) : GoX p l e rmL_isTold s m args below meth c D A 13 0 0 (QP_L_isTold D A ad cA tl tx Q below args s) 0 [(0, .ref (ad 0)), (1, .int v1), (2, .int v2), (3, .int v3)] [] (WX ad cA tl tx mn sd e0 e1 e2 e3 e4 e5 e6 e7 e8 e9 e10 fr hd nw kp pt hr lr) := by
  replace h : (F_X5_styled v2 v3 mn sd (fun r_31 mn_32 sd_33 => (F_X5_understood v1 v2 r_31 hr mn_32 sd_33 e0 e1 e2 e3 e4 e5 e6 e7 e8 e9 e10 (fun r_34 mn_35 sd_36 e0_37 e1_38 e2_39 e3_40 e4_41 e5_42 e6_43 e7_44 e8_45 e9_46 e10_47 => (F_X5_hearer v1 (7 : Int32) hr (fun r_48 => (F_X5_hearer v1 (8 : Int32) hr (fun r_49 => (F_X5_hearer v1 (0 : Int32) hr (fun r_50 => (F_X5_hearer v1 (1 : Int32) hr (fun r_51 => (F_X5_hearer v1 (2 : Int32) hr (fun r_52 => (F_X5_reach v2 v3 hr mn_35 sd_36 e0_37 e1_38 e2_39 e3_40 e4_41 e5_42 e6_43 e7_44 e8_45 e9_46 e10_47 (fun r_53 mn_54 sd_55 e0_56 e1_57 e2_58 e3_59 e4_60 e5_61 e6_62 e7_63 e8_64 e9_65 e10_66 => (F_X5_tell v1 v2 v3 mn_54 sd_55 e0_56 e1_57 e2_58 e3_59 e4_60 e5_61 e6_62 e7_63 e8_64 e9_65 e10_66 fr hd nw kp pt hr lr (fun r_67 mn_68 sd_69 e0_70 e1_71 e2_72 e3_73 e4_74 e5_75 e6_76 e7_77 e8_78 e9_79 e10_80 fr_81 hd_82 nw_83 kp_84 pt_85 hr_86 lr_87 => ((r_34 = v2 → (B_L_isTold_86  Q  v1 v2 r_31 r_34 r_48 r_49 ((r_50 + r_51) + r_52) r_53 r_67 (1 : Int32) mn_68 sd_69 e0_70 e1_71 e2_72 e3_73 e4_74 e5_75 e6_76 e7_77 e8_78 e9_79 e10_80 fr_81 hd_82 nw_83 kp_84 pt_85 hr_86 lr_87)) ∧ (¬ r_34 = v2 → (B_L_isTold_86  Q  v1 v2 r_31 r_34 r_48 r_49 ((r_50 + r_51) + r_52) r_53 r_67 (0 : Int32) mn_68 sd_69 e0_70 e1_71 e2_72 e3_73 e4_74 e5_75 e6_76 e7_77 e8_78 e9_79 e10_80 fr_81 hd_82 nw_83 kp_84 pt_85 hr_86 lr_87))))))))))))))))))))) := h
  refine g_aload_n C 0 dL_isTold_0 rfl rfl ?_
  refine g_iload_n C 2 dL_isTold_1 rfl rfl ?_
  refine g_iload_n C 3 dL_isTold_2 rfl rfl ?_
  refine k_X5_styled C gL_isTold_X5_styled ⟨Nat.le_of_ble_eq_true rfl, Nat.le_of_ble_eq_true rfl⟩ ⟨Nat.zero_le _, Nat.zero_le _⟩ (Nat.le_of_ble_eq_true rfl) dL_isTold_3  h (fun r_31 mn_32 sd_33 h => ?_)
  refine g_istore C (lv2 := [(4, .int r_31), (0, .ref (ad 0)), (1, .int v1), (2, .int v2), (3, .int v3)]) dL_isTold_6 (by decide) rfl ?_
  refine g_aload_n C 1 dL_isTold_8 rfl rfl ?_
  refine g_iload_n C 2 dL_isTold_9 rfl rfl ?_
  refine g_iload_n C 3 dL_isTold_10 rfl rfl ?_
  refine g_iload C 0 dL_isTold_11 rfl ?_
  refine k_X5_understood C gL_isTold_X5_understood ⟨Nat.le_of_ble_eq_true rfl, Nat.le_of_ble_eq_true rfl⟩ ⟨Nat.zero_le _, Nat.zero_le _⟩ (Nat.le_of_ble_eq_true rfl) dL_isTold_13  h (fun r_34 mn_35 sd_36 e0_37 e1_38 e2_39 e3_40 e4_41 e5_42 e6_43 e7_44 e8_45 e9_46 e10_47 h => ?_)
  refine g_istore C (lv2 := [(5, .int r_34), (4, .int r_31), (0, .ref (ad 0)), (1, .int v1), (2, .int v2), (3, .int v3)]) dL_isTold_16 (by decide) rfl ?_
  refine g_aload_n C 2 dL_isTold_18 rfl rfl ?_
  refine g_iload_n C 3 dL_isTold_19 rfl rfl ?_
  refine g_bipush C (7 : Int32) dL_isTold_20 (by decide) ?_
  refine k_X5_hearer C gL_isTold_X5_hearer ⟨Nat.le_of_ble_eq_true rfl, Nat.le_of_ble_eq_true rfl⟩ ⟨Nat.zero_le _, Nat.zero_le _⟩ (Nat.le_of_ble_eq_true rfl) dL_isTold_22  h (fun r_48 h => ?_)
  refine g_istore C (lv2 := [(6, .int r_48), (5, .int r_34), (4, .int r_31), (0, .ref (ad 0)), (1, .int v1), (2, .int v2), (3, .int v3)]) dL_isTold_25 (by decide) rfl ?_
  refine g_aload_n C 3 dL_isTold_27 rfl rfl ?_
  refine g_iload_n C 4 dL_isTold_28 rfl rfl ?_
  refine g_bipush C (8 : Int32) dL_isTold_29 (by decide) ?_
  refine k_X5_hearer C gL_isTold_X5_hearer ⟨Nat.le_of_ble_eq_true rfl, Nat.le_of_ble_eq_true rfl⟩ ⟨Nat.zero_le _, Nat.zero_le _⟩ (Nat.le_of_ble_eq_true rfl) dL_isTold_31  h (fun r_49 h => ?_)
  refine g_istore C (lv2 := [(7, .int r_49), (6, .int r_48), (5, .int r_34), (4, .int r_31), (0, .ref (ad 0)), (1, .int v1), (2, .int v2), (3, .int v3)]) dL_isTold_34 (by decide) rfl ?_
  refine g_aload_n C 4 dL_isTold_36 rfl rfl ?_
  refine g_iload_n C 5 dL_isTold_37 rfl rfl ?_
  refine g_iconst C (0 : Int32) dL_isTold_38 (by decide) ?_
  refine k_X5_hearer C gL_isTold_X5_hearer ⟨Nat.le_of_ble_eq_true rfl, Nat.le_of_ble_eq_true rfl⟩ ⟨Nat.zero_le _, Nat.zero_le _⟩ (Nat.le_of_ble_eq_true rfl) dL_isTold_39  h (fun r_50 h => ?_)
  refine g_aload_n C 4 dL_isTold_42 rfl rfl ?_
  refine g_iload_n C 5 dL_isTold_43 rfl rfl ?_
  refine g_iconst C (1 : Int32) dL_isTold_44 (by decide) ?_
  refine k_X5_hearer C gL_isTold_X5_hearer ⟨Nat.le_of_ble_eq_true rfl, Nat.le_of_ble_eq_true rfl⟩ ⟨Nat.zero_le _, Nat.zero_le _⟩ (Nat.le_of_ble_eq_true rfl) dL_isTold_45  h (fun r_51 h => ?_)
  refine g_iadd C dL_isTold_48 ?_
  refine g_aload_n C 4 dL_isTold_49 rfl rfl ?_
  refine g_iload_n C 5 dL_isTold_50 rfl rfl ?_
  refine g_iconst C (2 : Int32) dL_isTold_51 (by decide) ?_
  refine k_X5_hearer C gL_isTold_X5_hearer ⟨Nat.le_of_ble_eq_true rfl, Nat.le_of_ble_eq_true rfl⟩ ⟨Nat.zero_le _, Nat.zero_le _⟩ (Nat.le_of_ble_eq_true rfl) dL_isTold_52  h (fun r_52 h => ?_)
  refine g_iadd C dL_isTold_55 ?_
  refine g_istore C (lv2 := [(8, .int ((r_50 + r_51) + r_52)), (7, .int r_49), (6, .int r_48), (5, .int r_34), (4, .int r_31), (0, .ref (ad 0)), (1, .int v1), (2, .int v2), (3, .int v3)]) dL_isTold_56 (by decide) rfl ?_
  refine g_aload_n C 5 dL_isTold_58 rfl rfl ?_
  refine g_iload_n C 7 dL_isTold_59 rfl rfl ?_
  refine g_iload_n C 8 dL_isTold_60 rfl rfl ?_
  refine k_X5_reach C gL_isTold_X5_reach ⟨Nat.le_of_ble_eq_true rfl, Nat.le_of_ble_eq_true rfl⟩ ⟨Nat.zero_le _, Nat.zero_le _⟩ (Nat.le_of_ble_eq_true rfl) dL_isTold_61  h (fun r_53 mn_54 sd_55 e0_56 e1_57 e2_58 e3_59 e4_60 e5_61 e6_62 e7_63 e8_64 e9_65 e10_66 h => ?_)
  refine g_istore C (lv2 := [(9, .int r_53), (8, .int ((r_50 + r_51) + r_52)), (7, .int r_49), (6, .int r_48), (5, .int r_34), (4, .int r_31), (0, .ref (ad 0)), (1, .int v1), (2, .int v2), (3, .int v3)]) dL_isTold_64 (by decide) rfl ?_
  refine g_aload_n C 6 dL_isTold_66 rfl rfl ?_
  refine g_iload_n C 7 dL_isTold_67 rfl rfl ?_
  refine g_iload_n C 8 dL_isTold_68 rfl rfl ?_
  refine g_iload_n C 9 dL_isTold_69 rfl rfl ?_
  refine k_X5_tell C gL_isTold_X5_tell ⟨Nat.le_of_ble_eq_true rfl, Nat.le_of_ble_eq_true rfl⟩ ⟨Nat.zero_le _, Nat.zero_le _⟩ (Nat.le_of_ble_eq_true rfl) dL_isTold_70  h (fun r_67 mn_68 sd_69 e0_70 e1_71 e2_72 e3_73 e4_74 e5_75 e6_76 e7_77 e8_78 e9_79 e10_80 fr_81 hd_82 nw_83 kp_84 pt_85 hr_86 lr_87 h => ?_)
  refine g_istore C (lv2 := [(10, .int r_67), (9, .int r_53), (8, .int ((r_50 + r_51) + r_52)), (7, .int r_49), (6, .int r_48), (5, .int r_34), (4, .int r_31), (0, .ref (ad 0)), (1, .int v1), (2, .int v2), (3, .int v3)]) dL_isTold_73 (by decide) rfl ?_
  refine g_iload C 5 dL_isTold_75 rfl ?_
  refine g_iload_n C 9 dL_isTold_77 rfl rfl ?_
  refine g_icmp_ne C 85 dL_isTold_78 (by decide) (fun c_88 => ?_) (fun c_88 => ?_)
  · replace h := h.2 c_88
    refine g_iconst C (0 : Int32) dL_isTold_85 (by decide) ?_
    exact g_sub [7, 8, 9, 6, 5, 4, 3, 2, 1, 0] rfl (t_B_L_isTold_86 C hrt9 hlk  v1 v2 r_31 r_34 r_48 r_49 ((r_50 + r_51) + r_52) r_53 r_67 (0 : Int32) mn_68 sd_69 e0_70 e1_71 e2_72 e3_73 e4_74 e5_75 e6_76 e7_77 e8_78 e9_79 e10_80 fr_81 hd_82 nw_83 kp_84 pt_85 hr_86 lr_87  h)
  · replace h := h.1 c_88
    refine g_iconst C (1 : Int32) dL_isTold_81 (by decide) ?_
    refine g_goto C 86 dL_isTold_82 (by decide) ?_
    exact g_sub [7, 8, 9, 6, 5, 4, 3, 2, 1, 0] rfl (t_B_L_isTold_86 C hrt9 hlk  v1 v2 r_31 r_34 r_48 r_49 ((r_50 + r_51) + r_52) r_53 r_67 (1 : Int32) mn_68 sd_69 e0_70 e1_71 e2_72 e3_73 e4_74 e5_75 e6_76 e7_77 e8_78 e9_79 e10_80 fr_81 hd_82 nw_83 kp_84 pt_85 hr_86 lr_87  h)
theorem c_L_isTold (l : Launch) (D : va_G) (A : Nat → Prop) (ad : Nat → Nat) (cA : Nat → ClassId) (v1 : Int32) (v2 : Int32) (v3 : Int32) {tl : Int32} {tx : (Nat → Int32)} {mn : Int32} {sd : (Nat → Int64)} {e0 : Int32} {e1 : Int32} {e2 : Int32} {e3 : Int32} {e4 : Int32} {e5 : Int32} {e6 : Int32} {e7 : Int32} {e8 : Int32} {e9 : Int32} {e10 : Int32} {fr : Int32} {hd : Int32} {nw : (Nat → Int32)} {kp : (Nat → Int32)} {pt : (Nat → Int32)} {hr : (Nat → Nat → Int32)} {lr : (Nat → Nat → Int32)}  (Q : Int32 → Int32 → (Nat → Int64) → Int32 → Int32 → Int32 → Int32 → Int32 → Int32 → Int32 → Int32 → Int32 → Int32 → Int32 → Int32 → Int32 → (Nat → Int32) → (Nat → Int32) → (Nat → Int32) → (Nat → Nat → Int32) → (Nat → Nat → Int32) → Prop) (h : F_L_isTold v1 v2 v3 mn sd e0 e1 e2 e3 e4 e5 e6 e7 e8 e9 e10 fr hd nw kp pt hr lr Q) : Met l yL_isTold wsL_isTold rmL_isTold (va_Pc [.ref (ad 0), .int v1, .int v2, .int v3] (OKX D (tysX cA) (WX ad cA tl tx mn sd e0 e1 e2 e3 e4 e5 e6 e7 e8 e9 e10 fr hd nw kp pt hr lr) A)) (QC_L_isTold D A ad cA tl tx Q) 0 0 A :=
  g_met (own := RL) (by decide) rfl rfl (Nat.le_of_ble_eq_true rfl) (fun p e s m below meth c C hrt9 hlk _ => g_sub [0, 1, 2, 3] rfl (t_B_L_isTold_0 C hrt9 hlk v1 v2 v3 mn sd e0 e1 e2 e3 e4 e5 e6 e7 e8 e9 e10 fr hd nw kp pt hr lr  h))
theorem k_L_isTold {ws : List Cond} {own : String} {cc : ByteArray} {nL pc index kc ks : Nat} {lv : List (Nat × Value)} {st : List Value} {Q : State → Prop} {R : Room} {K : Int32 → Int32 → (Nat → Int64) → Int32 → Int32 → Int32 → Int32 → Int32 → Int32 → Int32 → Int32 → Int32 → Int32 → Int32 → Int32 → Int32 → (Nat → Int32) → (Nat → Int32) → (Nat → Int32) → (Nat → Nat → Int32) → (Nat → Nat → Int32) → Prop} {v1 : Int32} {v2 : Int32} {v3 : Int32} (C : CxX p s m args c D (tysX cA) own cc nL ws) (hT : GoodIn ws (va_wsS own index yL_isTold wsL_isTold)) (hR : rmL_isTold.frames + 1 ≤ R.frames ∧ 8 + (13 + 11) + rmL_isTold.locals ≤ R.locals) (hk9 : kc ≤ R.cells ∧ ks ≤ R.slots) (hcat : (st.map fun v => v.category).sum ≤ 8) (hdg : decode cc pc = .ok (.invokestatic index, 3))  (h : F_L_isTold v1 v2 v3 mn sd e0 e1 e2 e3 e4 e5 e6 e7 e8 e9 e10 fr hd nw kp pt hr lr K) (kk : ∀ (r : Int32) (mnq : Int32) (sdq : (Nat → Int64)) (e0q : Int32) (e1q : Int32) (e2q : Int32) (e3q : Int32) (e4q : Int32) (e5q : Int32) (e6q : Int32) (e7q : Int32) (e8q : Int32) (e9q : Int32) (e10q : Int32) (frq : Int32) (hdq : Int32) (nwq : (Nat → Int32)) (kpq : (Nat → Int32)) (ptq : (Nat → Int32)) (hrq : (Nat → Nat → Int32)) (lrq : (Nat → Nat → Int32)), K r mnq sdq e0q e1q e2q e3q e4q e5q e6q e7q e8q e9q e10q frq hdq nwq kpq ptq hrq lrq → GoX p l e R s m args below meth c D A nL kc ks Q (pc + 3) lv (.int r :: st) (WX ad cA tl tx mnq sdq e0q e1q e2q e3q e4q e5q e6q e7q e8q e9q e10q frq hdq nwq kpq ptq hrq lrq)) : GoX p l e R s m args below meth c D A nL kc ks Q pc lv (.int v3 :: .int v2 :: .int v1 :: .ref (ad 0) :: st) (WX ad cA tl tx mn sd e0 e1 e2 e3 e4 e5 e6 e7 e8 e9 e10 fr hd nw kp pt hr lr) :=
  g_callSi C (As := [.ref (ad 0), .int v1, .int v2, .int v3]) 4 (c_L_isTold l D A ad cA v1 v2 v3  K h) hT rfl rfl rfl (by decide +kernel) hR hk9 rfl rfl hcat hdg (fun r u hu => kk r u.1 u.2.1 u.2.2.1 u.2.2.2.1 u.2.2.2.2.1 u.2.2.2.2.2.1 u.2.2.2.2.2.2.1 u.2.2.2.2.2.2.2.1 u.2.2.2.2.2.2.2.2.1 u.2.2.2.2.2.2.2.2.2.1 u.2.2.2.2.2.2.2.2.2.2.1 u.2.2.2.2.2.2.2.2.2.2.2.1 u.2.2.2.2.2.2.2.2.2.2.2.2.1 u.2.2.2.2.2.2.2.2.2.2.2.2.2.1 u.2.2.2.2.2.2.2.2.2.2.2.2.2.2.1 u.2.2.2.2.2.2.2.2.2.2.2.2.2.2.2.1 u.2.2.2.2.2.2.2.2.2.2.2.2.2.2.2.2.1 u.2.2.2.2.2.2.2.2.2.2.2.2.2.2.2.2.2.1 u.2.2.2.2.2.2.2.2.2.2.2.2.2.2.2.2.2.2.1 u.2.2.2.2.2.2.2.2.2.2.2.2.2.2.2.2.2.2.2 hu)
/-! L_acts -/
abbrev rmL_acts : Room := { frames := 8, cells := 0, slots := 0, locals := 203 }
abbrev QC_L_acts (D : va_G) (A : Nat → Prop) (ad : Nat → Nat) (cA : Nat → ClassId)  (Q : Int32 → Int32 → (Nat → Int32) → Int32 → (Nat → Int64) → Int32 → Int32 → Int32 → Int32 → Int32 → Int32 → Int32 → Int32 → Int32 → Int32 → Int32 → Int32 → Int32 → (Nat → Int32) → (Nat → Int32) → (Nat → Int32) → (Nat → Nat → Int32) → (Nat → Nat → Int32) → Prop) : Array Value → State → Outcome → State → Prop := va_Qi (fun (r : Int32) (u : Int32 × (Nat → Int32) × Int32 × (Nat → Int64) × Int32 × Int32 × Int32 × Int32 × Int32 × Int32 × Int32 × Int32 × Int32 × Int32 × Int32 × Int32 × Int32 × (Nat → Int32) × (Nat → Int32) × (Nat → Int32) × (Nat → Nat → Int32) × (Nat → Nat → Int32)) => Q r u.1 u.2.1 u.2.2.1 u.2.2.2.1 u.2.2.2.2.1 u.2.2.2.2.2.1 u.2.2.2.2.2.2.1 u.2.2.2.2.2.2.2.1 u.2.2.2.2.2.2.2.2.1 u.2.2.2.2.2.2.2.2.2.1 u.2.2.2.2.2.2.2.2.2.2.1 u.2.2.2.2.2.2.2.2.2.2.2.1 u.2.2.2.2.2.2.2.2.2.2.2.2.1 u.2.2.2.2.2.2.2.2.2.2.2.2.2.1 u.2.2.2.2.2.2.2.2.2.2.2.2.2.2.1 u.2.2.2.2.2.2.2.2.2.2.2.2.2.2.2.1 u.2.2.2.2.2.2.2.2.2.2.2.2.2.2.2.2.1 u.2.2.2.2.2.2.2.2.2.2.2.2.2.2.2.2.2.1 u.2.2.2.2.2.2.2.2.2.2.2.2.2.2.2.2.2.2.1 u.2.2.2.2.2.2.2.2.2.2.2.2.2.2.2.2.2.2.2.1 u.2.2.2.2.2.2.2.2.2.2.2.2.2.2.2.2.2.2.2.2.1 u.2.2.2.2.2.2.2.2.2.2.2.2.2.2.2.2.2.2.2.2.2) (fun u t => OKX D (tysX cA) ((fun u : Int32 × (Nat → Int32) × Int32 × (Nat → Int64) × Int32 × Int32 × Int32 × Int32 × Int32 × Int32 × Int32 × Int32 × Int32 × Int32 × Int32 × Int32 × Int32 × (Nat → Int32) × (Nat → Int32) × (Nat → Int32) × (Nat → Nat → Int32) × (Nat → Nat → Int32) => WX ad cA u.1 u.2.1 u.2.2.1 u.2.2.2.1 u.2.2.2.2.1 u.2.2.2.2.2.1 u.2.2.2.2.2.2.1 u.2.2.2.2.2.2.2.1 u.2.2.2.2.2.2.2.2.1 u.2.2.2.2.2.2.2.2.2.1 u.2.2.2.2.2.2.2.2.2.2.1 u.2.2.2.2.2.2.2.2.2.2.2.1 u.2.2.2.2.2.2.2.2.2.2.2.2.1 u.2.2.2.2.2.2.2.2.2.2.2.2.2.1 u.2.2.2.2.2.2.2.2.2.2.2.2.2.2.1 u.2.2.2.2.2.2.2.2.2.2.2.2.2.2.2.1 u.2.2.2.2.2.2.2.2.2.2.2.2.2.2.2.2.1 u.2.2.2.2.2.2.2.2.2.2.2.2.2.2.2.2.2.1 u.2.2.2.2.2.2.2.2.2.2.2.2.2.2.2.2.2.2.1 u.2.2.2.2.2.2.2.2.2.2.2.2.2.2.2.2.2.2.2.1 u.2.2.2.2.2.2.2.2.2.2.2.2.2.2.2.2.2.2.2.2.1 u.2.2.2.2.2.2.2.2.2.2.2.2.2.2.2.2.2.2.2.2.2) u) A t) A
abbrev QP_L_acts (D : va_G) (A : Nat → Prop) (ad : Nat → Nat) (cA : Nat → ClassId)  (Q : Int32 → Int32 → (Nat → Int32) → Int32 → (Nat → Int64) → Int32 → Int32 → Int32 → Int32 → Int32 → Int32 → Int32 → Int32 → Int32 → Int32 → Int32 → Int32 → Int32 → (Nat → Int32) → (Nat → Int32) → (Nat → Int32) → (Nat → Nat → Int32) → (Nat → Nat → Int32) → Prop) (below : List Frame) (args : Array Value) (s : State) : State → Prop := MQ below (QC_L_acts D A ad cA  Q) args s 0 0 A
def B_L_acts_160  (Q : Int32 → Int32 → (Nat → Int32) → Int32 → (Nat → Int64) → Int32 → Int32 → Int32 → Int32 → Int32 → Int32 → Int32 → Int32 → Int32 → Int32 → Int32 → Int32 → Int32 → (Nat → Int32) → (Nat → Int32) → (Nat → Int32) → (Nat → Nat → Int32) → (Nat → Nat → Int32) → Prop)  (s0 : Int32) (tl : Int32) (tx : (Nat → Int32)) (mn : Int32) (sd : (Nat → Int64)) (e0 : Int32) (e1 : Int32) (e2 : Int32) (e3 : Int32) (e4 : Int32) (e5 : Int32) (e6 : Int32) (e7 : Int32) (e8 : Int32) (e9 : Int32) (e10 : Int32) (fr : Int32) (hd : Int32) (nw : (Nat → Int32)) (kp : (Nat → Int32)) (pt : (Nat → Int32)) (hr : (Nat → Nat → Int32)) (lr : (Nat → Nat → Int32)) : Prop := (isBo s0 ∧ (Q s0 tl tx mn sd e0 e1 e2 e3 e4 e5 e6 e7 e8 e9 e10 fr hd nw kp pt hr lr))
def B_L_acts_159  (Q : Int32 → Int32 → (Nat → Int32) → Int32 → (Nat → Int64) → Int32 → Int32 → Int32 → Int32 → Int32 → Int32 → Int32 → Int32 → Int32 → Int32 → Int32 → Int32 → Int32 → (Nat → Int32) → (Nat → Int32) → (Nat → Int32) → (Nat → Nat → Int32) → (Nat → Nat → Int32) → Prop)   (tl : Int32) (tx : (Nat → Int32)) (mn : Int32) (sd : (Nat → Int64)) (e0 : Int32) (e1 : Int32) (e2 : Int32) (e3 : Int32) (e4 : Int32) (e5 : Int32) (e6 : Int32) (e7 : Int32) (e8 : Int32) (e9 : Int32) (e10 : Int32) (fr : Int32) (hd : Int32) (nw : (Nat → Int32)) (kp : (Nat → Int32)) (pt : (Nat → Int32)) (hr : (Nat → Nat → Int32)) (lr : (Nat → Nat → Int32)) : Prop := (B_L_acts_160  Q  (0 : Int32) tl tx mn sd e0 e1 e2 e3 e4 e5 e6 e7 e8 e9 e10 fr hd nw kp pt hr lr)
def B_L_acts_125  (Q : Int32 → Int32 → (Nat → Int32) → Int32 → (Nat → Int64) → Int32 → Int32 → Int32 → Int32 → Int32 → Int32 → Int32 → Int32 → Int32 → Int32 → Int32 → Int32 → Int32 → (Nat → Int32) → (Nat → Int32) → (Nat → Int32) → (Nat → Nat → Int32) → (Nat → Nat → Int32) → Prop)  (v2 : Int32) (v3 : Int32) (tl : Int32) (tx : (Nat → Int32)) (mn : Int32) (sd : (Nat → Int64)) (e0 : Int32) (e1 : Int32) (e2 : Int32) (e3 : Int32) (e4 : Int32) (e5 : Int32) (e6 : Int32) (e7 : Int32) (e8 : Int32) (e9 : Int32) (e10 : Int32) (fr : Int32) (hd : Int32) (nw : (Nat → Int32)) (kp : (Nat → Int32)) (pt : (Nat → Int32)) (hr : (Nat → Nat → Int32)) (lr : (Nat → Nat → Int32)) : Prop := (F_X5_unlearn v2 v3 fr hd nw kp pt hr lr (fun r_1 fr_2 hd_3 nw_4 kp_5 pt_6 hr_7 lr_8 => (((2 : Int32) < r_1 → (B_L_acts_159  Q  tl tx mn sd e0 e1 e2 e3 e4 e5 e6 e7 e8 e9 e10 fr_2 hd_3 nw_4 kp_5 pt_6 hr_7 lr_8)) ∧ (¬ (2 : Int32) < r_1 → (F_X5_hearer v2 v3 hr_7 (fun r_10 => ((r_10 = 0 → (F_X5_hearer v2 ((3 : Int32) + v3) hr_7 (fun r_12 => ((r_12 = 0 → (B_L_acts_160  Q  (1 : Int32) tl tx mn sd e0 e1 e2 e3 e4 e5 e6 e7 e8 e9 e10 fr_2 hd_3 nw_4 kp_5 pt_6 hr_7 lr_8)) ∧ (¬ r_12 = 0 → (B_L_acts_159  Q  tl tx mn sd e0 e1 e2 e3 e4 e5 e6 e7 e8 e9 e10 fr_2 hd_3 nw_4 kp_5 pt_6 hr_7 lr_8)))))) ∧ (¬ r_10 = 0 → (B_L_acts_159  Q  tl tx mn sd e0 e1 e2 e3 e4 e5 e6 e7 e8 e9 e10 fr_2 hd_3 nw_4 kp_5 pt_6 hr_7 lr_8)))))))))
def B_L_acts_370  (Q : Int32 → Int32 → (Nat → Int32) → Int32 → (Nat → Int64) → Int32 → Int32 → Int32 → Int32 → Int32 → Int32 → Int32 → Int32 → Int32 → Int32 → Int32 → Int32 → Int32 → (Nat → Int32) → (Nat → Int32) → (Nat → Int32) → (Nat → Nat → Int32) → (Nat → Nat → Int32) → Prop)  (s0 : Int32) (tl : Int32) (tx : (Nat → Int32)) (mn : Int32) (sd : (Nat → Int64)) (e0 : Int32) (e1 : Int32) (e2 : Int32) (e3 : Int32) (e4 : Int32) (e5 : Int32) (e6 : Int32) (e7 : Int32) (e8 : Int32) (e9 : Int32) (e10 : Int32) (fr : Int32) (hd : Int32) (nw : (Nat → Int32)) (kp : (Nat → Int32)) (pt : (Nat → Int32)) (hr : (Nat → Nat → Int32)) (lr : (Nat → Nat → Int32)) : Prop := (isBo s0 ∧ (Q s0 tl tx mn sd e0 e1 e2 e3 e4 e5 e6 e7 e8 e9 e10 fr hd nw kp pt hr lr))
def B_L_acts_369  (Q : Int32 → Int32 → (Nat → Int32) → Int32 → (Nat → Int64) → Int32 → Int32 → Int32 → Int32 → Int32 → Int32 → Int32 → Int32 → Int32 → Int32 → Int32 → Int32 → Int32 → (Nat → Int32) → (Nat → Int32) → (Nat → Int32) → (Nat → Nat → Int32) → (Nat → Nat → Int32) → Prop)   (tl : Int32) (tx : (Nat → Int32)) (mn : Int32) (sd : (Nat → Int64)) (e0 : Int32) (e1 : Int32) (e2 : Int32) (e3 : Int32) (e4 : Int32) (e5 : Int32) (e6 : Int32) (e7 : Int32) (e8 : Int32) (e9 : Int32) (e10 : Int32) (fr : Int32) (hd : Int32) (nw : (Nat → Int32)) (kp : (Nat → Int32)) (pt : (Nat → Int32)) (hr : (Nat → Nat → Int32)) (lr : (Nat → Nat → Int32)) : Prop := (B_L_acts_370  Q  (0 : Int32) tl tx mn sd e0 e1 e2 e3 e4 e5 e6 e7 e8 e9 e10 fr hd nw kp pt hr lr)
def B_L_acts_362  (Q : Int32 → Int32 → (Nat → Int32) → Int32 → (Nat → Int64) → Int32 → Int32 → Int32 → Int32 → Int32 → Int32 → Int32 → Int32 → Int32 → Int32 → Int32 → Int32 → Int32 → (Nat → Int32) → (Nat → Int32) → (Nat → Int32) → (Nat → Nat → Int32) → (Nat → Nat → Int32) → Prop)  (s0 : Int32) (s1 : Int32) (tl : Int32) (tx : (Nat → Int32)) (mn : Int32) (sd : (Nat → Int64)) (e0 : Int32) (e1 : Int32) (e2 : Int32) (e3 : Int32) (e4 : Int32) (e5 : Int32) (e6 : Int32) (e7 : Int32) (e8 : Int32) (e9 : Int32) (e10 : Int32) (fr : Int32) (hd : Int32) (nw : (Nat → Int32)) (kp : (Nat → Int32)) (pt : (Nat → Int32)) (hr : (Nat → Nat → Int32)) (lr : (Nat → Nat → Int32)) : Prop := ((s0 = s1 → (B_L_acts_370  Q  (1 : Int32) tl tx mn sd e0 e1 e2 e3 e4 e5 e6 e7 e8 e9 e10 fr hd nw kp pt hr lr)) ∧ (¬ s0 = s1 → (B_L_acts_369  Q  tl tx mn sd e0 e1 e2 e3 e4 e5 e6 e7 e8 e9 e10 fr hd nw kp pt hr lr)))
def B_L_acts_312  (Q : Int32 → Int32 → (Nat → Int32) → Int32 → (Nat → Int64) → Int32 → Int32 → Int32 → Int32 → Int32 → Int32 → Int32 → Int32 → Int32 → Int32 → Int32 → Int32 → Int32 → (Nat → Int32) → (Nat → Int32) → (Nat → Int32) → (Nat → Nat → Int32) → (Nat → Nat → Int32) → Prop)  (v4 : Int32) (v7 : Int32) (v8 : Int32) (s0 : Int32) (s1 : Int32) (tl : Int32) (tx : (Nat → Int32)) (mn : Int32) (sd : (Nat → Int64)) (e0 : Int32) (e1 : Int32) (e2 : Int32) (e3 : Int32) (e4 : Int32) (e5 : Int32) (e6 : Int32) (e7 : Int32) (e8 : Int32) (e9 : Int32) (e10 : Int32) (fr : Int32) (hd : Int32) (nw : (Nat → Int32)) (kp : (Nat → Int32)) (pt : (Nat → Int32)) (hr : (Nat → Nat → Int32)) (lr : (Nat → Nat → Int32)) : Prop := ((s0 = s1 → (F_X5_log (0 : Int32) (1 : Int32) nw kp lr (fun r_16 => ((r_16 = v4 → (F_X5_log (0 : Int32) (2 : Int32) nw kp lr (fun r_18 => (F_X5_wayLength v4 v7 mn sd (fun r_19 mn_20 sd_21 => ((r_18 = r_19 → (F_X5_log (0 : Int32) (3 : Int32) nw kp lr (fun r_23 => ((v8 = (-5 : Int32) → (B_L_acts_362  Q  r_23 (0 : Int32) tl tx mn_20 sd_21 e0 e1 e2 e3 e4 e5 e6 e7 e8 e9 e10 fr hd nw kp pt hr lr)) ∧ (¬ v8 = (-5 : Int32) → (B_L_acts_362  Q  r_23 v8 tl tx mn_20 sd_21 e0 e1 e2 e3 e4 e5 e6 e7 e8 e9 e10 fr hd nw kp pt hr lr)))))) ∧ (¬ r_18 = r_19 → (B_L_acts_369  Q  tl tx mn_20 sd_21 e0 e1 e2 e3 e4 e5 e6 e7 e8 e9 e10 fr hd nw kp pt hr lr)))))))) ∧ (¬ r_16 = v4 → (B_L_acts_369  Q  tl tx mn sd e0 e1 e2 e3 e4 e5 e6 e7 e8 e9 e10 fr hd nw kp pt hr lr)))))) ∧ (¬ s0 = s1 → (B_L_acts_369  Q  tl tx mn sd e0 e1 e2 e3 e4 e5 e6 e7 e8 e9 e10 fr hd nw kp pt hr lr)))
def B_L_acts_259  (Q : Int32 → Int32 → (Nat → Int32) → Int32 → (Nat → Int64) → Int32 → Int32 → Int32 → Int32 → Int32 → Int32 → Int32 → Int32 → Int32 → Int32 → Int32 → Int32 → Int32 → (Nat → Int32) → (Nat → Int32) → (Nat → Int32) → (Nat → Nat → Int32) → (Nat → Nat → Int32) → Prop)  (s0 : Int32) (tl : Int32) (tx : (Nat → Int32)) (mn : Int32) (sd : (Nat → Int64)) (e0 : Int32) (e1 : Int32) (e2 : Int32) (e3 : Int32) (e4 : Int32) (e5 : Int32) (e6 : Int32) (e7 : Int32) (e8 : Int32) (e9 : Int32) (e10 : Int32) (fr : Int32) (hd : Int32) (nw : (Nat → Int32)) (kp : (Nat → Int32)) (pt : (Nat → Int32)) (hr : (Nat → Nat → Int32)) (lr : (Nat → Nat → Int32)) : Prop := (isBo s0 ∧ (Q s0 tl tx mn sd e0 e1 e2 e3 e4 e5 e6 e7 e8 e9 e10 fr hd nw kp pt hr lr))
def B_L_acts_258  (Q : Int32 → Int32 → (Nat → Int32) → Int32 → (Nat → Int64) → Int32 → Int32 → Int32 → Int32 → Int32 → Int32 → Int32 → Int32 → Int32 → Int32 → Int32 → Int32 → Int32 → (Nat → Int32) → (Nat → Int32) → (Nat → Int32) → (Nat → Nat → Int32) → (Nat → Nat → Int32) → Prop)   (tl : Int32) (tx : (Nat → Int32)) (mn : Int32) (sd : (Nat → Int64)) (e0 : Int32) (e1 : Int32) (e2 : Int32) (e3 : Int32) (e4 : Int32) (e5 : Int32) (e6 : Int32) (e7 : Int32) (e8 : Int32) (e9 : Int32) (e10 : Int32) (fr : Int32) (hd : Int32) (nw : (Nat → Int32)) (kp : (Nat → Int32)) (pt : (Nat → Int32)) (hr : (Nat → Nat → Int32)) (lr : (Nat → Nat → Int32)) : Prop := (B_L_acts_259  Q  (0 : Int32) tl tx mn sd e0 e1 e2 e3 e4 e5 e6 e7 e8 e9 e10 fr hd nw kp pt hr lr)
def B_L_acts_213  (Q : Int32 → Int32 → (Nat → Int32) → Int32 → (Nat → Int64) → Int32 → Int32 → Int32 → Int32 → Int32 → Int32 → Int32 → Int32 → Int32 → Int32 → Int32 → Int32 → Int32 → (Nat → Int32) → (Nat → Int32) → (Nat → Int32) → (Nat → Nat → Int32) → (Nat → Nat → Int32) → Prop)  (s0 : Int32) (tl : Int32) (tx : (Nat → Int32)) (mn : Int32) (sd : (Nat → Int64)) (e0 : Int32) (e1 : Int32) (e2 : Int32) (e3 : Int32) (e4 : Int32) (e5 : Int32) (e6 : Int32) (e7 : Int32) (e8 : Int32) (e9 : Int32) (e10 : Int32) (fr : Int32) (hd : Int32) (nw : (Nat → Int32)) (kp : (Nat → Int32)) (pt : (Nat → Int32)) (hr : (Nat → Nat → Int32)) (lr : (Nat → Nat → Int32)) : Prop := (isBo s0 ∧ (Q s0 tl tx mn sd e0 e1 e2 e3 e4 e5 e6 e7 e8 e9 e10 fr hd nw kp pt hr lr))
def B_L_acts_212  (Q : Int32 → Int32 → (Nat → Int32) → Int32 → (Nat → Int64) → Int32 → Int32 → Int32 → Int32 → Int32 → Int32 → Int32 → Int32 → Int32 → Int32 → Int32 → Int32 → Int32 → (Nat → Int32) → (Nat → Int32) → (Nat → Int32) → (Nat → Nat → Int32) → (Nat → Nat → Int32) → Prop)   (tl : Int32) (tx : (Nat → Int32)) (mn : Int32) (sd : (Nat → Int64)) (e0 : Int32) (e1 : Int32) (e2 : Int32) (e3 : Int32) (e4 : Int32) (e5 : Int32) (e6 : Int32) (e7 : Int32) (e8 : Int32) (e9 : Int32) (e10 : Int32) (fr : Int32) (hd : Int32) (nw : (Nat → Int32)) (kp : (Nat → Int32)) (pt : (Nat → Int32)) (hr : (Nat → Nat → Int32)) (lr : (Nat → Nat → Int32)) : Prop := (B_L_acts_213  Q  (0 : Int32) tl tx mn sd e0 e1 e2 e3 e4 e5 e6 e7 e8 e9 e10 fr hd nw kp pt hr lr)
def B_L_acts_124  (Q : Int32 → Int32 → (Nat → Int32) → Int32 → (Nat → Int64) → Int32 → Int32 → Int32 → Int32 → Int32 → Int32 → Int32 → Int32 → Int32 → Int32 → Int32 → Int32 → Int32 → (Nat → Int32) → (Nat → Int32) → (Nat → Int32) → (Nat → Nat → Int32) → (Nat → Nat → Int32) → Prop)  (s0 : Int32) (tl : Int32) (tx : (Nat → Int32)) (mn : Int32) (sd : (Nat → Int64)) (e0 : Int32) (e1 : Int32) (e2 : Int32) (e3 : Int32) (e4 : Int32) (e5 : Int32) (e6 : Int32) (e7 : Int32) (e8 : Int32) (e9 : Int32) (e10 : Int32) (fr : Int32) (hd : Int32) (nw : (Nat → Int32)) (kp : (Nat → Int32)) (pt : (Nat → Int32)) (hr : (Nat → Nat → Int32)) (lr : (Nat → Nat → Int32)) : Prop := (isBo s0 ∧ (Q s0 tl tx mn sd e0 e1 e2 e3 e4 e5 e6 e7 e8 e9 e10 fr hd nw kp pt hr lr))
def B_L_acts_123  (Q : Int32 → Int32 → (Nat → Int32) → Int32 → (Nat → Int64) → Int32 → Int32 → Int32 → Int32 → Int32 → Int32 → Int32 → Int32 → Int32 → Int32 → Int32 → Int32 → Int32 → (Nat → Int32) → (Nat → Int32) → (Nat → Int32) → (Nat → Nat → Int32) → (Nat → Nat → Int32) → Prop)   (tl : Int32) (tx : (Nat → Int32)) (mn : Int32) (sd : (Nat → Int64)) (e0 : Int32) (e1 : Int32) (e2 : Int32) (e3 : Int32) (e4 : Int32) (e5 : Int32) (e6 : Int32) (e7 : Int32) (e8 : Int32) (e9 : Int32) (e10 : Int32) (fr : Int32) (hd : Int32) (nw : (Nat → Int32)) (kp : (Nat → Int32)) (pt : (Nat → Int32)) (hr : (Nat → Nat → Int32)) (lr : (Nat → Nat → Int32)) : Prop := (B_L_acts_124  Q  (0 : Int32) tl tx mn sd e0 e1 e2 e3 e4 e5 e6 e7 e8 e9 e10 fr hd nw kp pt hr lr)
def B_L_acts_45  (Q : Int32 → Int32 → (Nat → Int32) → Int32 → (Nat → Int64) → Int32 → Int32 → Int32 → Int32 → Int32 → Int32 → Int32 → Int32 → Int32 → Int32 → Int32 → Int32 → Int32 → (Nat → Int32) → (Nat → Int32) → (Nat → Int32) → (Nat → Nat → Int32) → (Nat → Nat → Int32) → Prop)  (v1 : Int32) (v2 : Int32) (v3 : Int32) (s0 : Int32) (tl : Int32) (tx : (Nat → Int32)) (mn : Int32) (sd : (Nat → Int64)) (e0 : Int32) (e1 : Int32) (e2 : Int32) (e3 : Int32) (e4 : Int32) (e5 : Int32) (e6 : Int32) (e7 : Int32) (e8 : Int32) (e9 : Int32) (e10 : Int32) (fr : Int32) (hd : Int32) (nw : (Nat → Int32)) (kp : (Nat → Int32)) (pt : (Nat → Int32)) (hr : (Nat → Nat → Int32)) (lr : (Nat → Nat → Int32)) : Prop := (((v1 - v1 / (8 : Int32) * (8 : Int32)) = (0 : Int32) → (F_X5_learn v2 v3 fr hd nw kp pt hr lr (fun r_26 fr_27 hd_28 nw_29 kp_30 pt_31 hr_32 lr_33 => ((r_26 < (1 : Int32) → (B_L_acts_123  Q  tl tx mn sd e0 e1 e2 e3 e4 e5 e6 e7 e8 e9 e10 fr_27 hd_28 nw_29 kp_30 pt_31 hr_32 lr_33)) ∧ (¬ r_26 < (1 : Int32) → (F_X5_hearer v2 v3 hr_32 (fun r_35 => ((r_35 = (1 : Int32) → (F_X5_hearer v2 ((3 : Int32) + v3) hr_32 (fun r_37 => ((r_37 = 0 → (B_L_acts_124  Q  (1 : Int32) tl tx mn sd e0 e1 e2 e3 e4 e5 e6 e7 e8 e9 e10 fr_27 hd_28 nw_29 kp_30 pt_31 hr_32 lr_33)) ∧ (¬ r_37 = 0 → (B_L_acts_123  Q  tl tx mn sd e0 e1 e2 e3 e4 e5 e6 e7 e8 e9 e10 fr_27 hd_28 nw_29 kp_30 pt_31 hr_32 lr_33)))))) ∧ (¬ r_35 = (1 : Int32) → (B_L_acts_123  Q  tl tx mn sd e0 e1 e2 e3 e4 e5 e6 e7 e8 e9 e10 fr_27 hd_28 nw_29 kp_30 pt_31 hr_32 lr_33)))))))))) ∧ (¬ (v1 - v1 / (8 : Int32) * (8 : Int32)) = (0 : Int32) → (((v1 - v1 / (8 : Int32) * (8 : Int32)) = (1 : Int32) → (B_L_acts_125  Q  v2 v3 tl tx mn sd e0 e1 e2 e3 e4 e5 e6 e7 e8 e9 e10 fr hd nw kp pt hr lr)) ∧ (¬ (v1 - v1 / (8 : Int32) * (8 : Int32)) = (1 : Int32) → (((v1 - v1 / (8 : Int32) * (8 : Int32)) = (2 : Int32) → (B_L_acts_125  Q  v2 v3 tl tx mn sd e0 e1 e2 e3 e4 e5 e6 e7 e8 e9 e10 fr hd nw kp pt hr lr)) ∧ (¬ (v1 - v1 / (8 : Int32) * (8 : Int32)) = (2 : Int32) → (((v1 - v1 / (8 : Int32) * (8 : Int32)) = (3 : Int32) → (F_X5_hearer v2 (6 : Int32) hr (fun r_42 => (F_X5_attend v2 ((1 : Int32) + ((v1 >>> ((9 : Int32) &&& 31)) - (v1 >>> ((9 : Int32) &&& 31)) / (12 : Int32) * (12 : Int32))) fr hd nw kp pt hr lr (fun r_43 fr_44 hd_45 nw_46 kp_47 pt_48 hr_49 lr_50 => ((r_43 = r_42 → (F_X5_hearer v2 (6 : Int32) hr_49 (fun r_52 => ((r_52 = ((1 : Int32) + ((v1 >>> ((9 : Int32) &&& 31)) - (v1 >>> ((9 : Int32) &&& 31)) / (12 : Int32) * (12 : Int32))) → (B_L_acts_213  Q  (1 : Int32) tl tx mn sd e0 e1 e2 e3 e4 e5 e6 e7 e8 e9 e10 fr_44 hd_45 nw_46 kp_47 pt_48 hr_49 lr_50)) ∧ (¬ r_52 = ((1 : Int32) + ((v1 >>> ((9 : Int32) &&& 31)) - (v1 >>> ((9 : Int32) &&& 31)) / (12 : Int32) * (12 : Int32))) → (B_L_acts_212  Q  tl tx mn sd e0 e1 e2 e3 e4 e5 e6 e7 e8 e9 e10 fr_44 hd_45 nw_46 kp_47 pt_48 hr_49 lr_50)))))) ∧ (¬ r_43 = r_42 → (B_L_acts_212  Q  tl tx mn sd e0 e1 e2 e3 e4 e5 e6 e7 e8 e9 e10 fr_44 hd_45 nw_46 kp_47 pt_48 hr_49 lr_50)))))))) ∧ (¬ (v1 - v1 / (8 : Int32) * (8 : Int32)) = (3 : Int32) → (((v1 - v1 / (8 : Int32) * (8 : Int32)) = (4 : Int32) → (F_X5_patience pt (fun r_55 => (F_X5_set ((1 : Int32) + ((v1 >>> ((9 : Int32) &&& 31)) - (v1 >>> ((9 : Int32) &&& 31)) / (9 : Int32) * (9 : Int32))) fr hd nw kp pt hr lr (fun r_56 fr_57 hd_58 nw_59 kp_60 pt_61 hr_62 lr_63 => ((r_56 = r_55 → (F_X5_patience pt_61 (fun r_65 => ((r_65 = ((1 : Int32) + ((v1 >>> ((9 : Int32) &&& 31)) - (v1 >>> ((9 : Int32) &&& 31)) / (9 : Int32) * (9 : Int32))) → (B_L_acts_259  Q  (1 : Int32) tl tx mn sd e0 e1 e2 e3 e4 e5 e6 e7 e8 e9 e10 fr_57 hd_58 nw_59 kp_60 pt_61 hr_62 lr_63)) ∧ (¬ r_65 = ((1 : Int32) + ((v1 >>> ((9 : Int32) &&& 31)) - (v1 >>> ((9 : Int32) &&& 31)) / (9 : Int32) * (9 : Int32))) → (B_L_acts_258  Q  tl tx mn sd e0 e1 e2 e3 e4 e5 e6 e7 e8 e9 e10 fr_57 hd_58 nw_59 kp_60 pt_61 hr_62 lr_63)))))) ∧ (¬ r_56 = r_55 → (B_L_acts_258  Q  tl tx mn sd e0 e1 e2 e3 e4 e5 e6 e7 e8 e9 e10 fr_57 hd_58 nw_59 kp_60 pt_61 hr_62 lr_63)))))))) ∧ (¬ (v1 - v1 / (8 : Int32) * (8 : Int32)) = (4 : Int32) → (((v1 - v1 / (8 : Int32) * (8 : Int32)) = (5 : Int32) → (F_X5_ways s0 mn sd (fun r_68 mn_69 sd_70 => (¬ r_68 = 0 ∧ (F_X5_understood v2 s0 ((v1 >>> ((24 : Int32) &&& 31)) - (v1 >>> ((24 : Int32) &&& 31)) / r_68 * r_68) hr mn_69 sd_70 e0 e1 e2 e3 e4 e5 e6 e7 e8 e9 e10 (fun r_71 mn_72 sd_73 e0_74 e1_75 e2_76 e3_77 e4_78 e5_79 e6_80 e7_81 e8_82 e9_83 e10_84 => (F_L_isTyped s0 ((v1 >>> ((24 : Int32) &&& 31)) - (v1 >>> ((24 : Int32) &&& 31)) / r_68 * r_68) hr tl tx mn_72 sd_73 e0_74 e1_75 e2_76 e3_77 e4_78 e5_79 e6_80 e7_81 e8_82 e9_83 e10_84 (fun r_85 tl_86 tx_87 mn_88 sd_89 e0_90 e1_91 e2_92 e3_93 e4_94 e5_95 e6_96 e7_97 e8_98 e9_99 e10_100 => ((r_85 = 0 → (B_L_acts_369  Q  tl_86 tx_87 mn_88 sd_89 e0_90 e1_91 e2_92 e3_93 e4_94 e5_95 e6_96 e7_97 e8_98 e9_99 e10_100 fr hd nw kp pt hr lr)) ∧ (¬ r_85 = 0 → (F_X5_tellText v2 tl_86 tx_87 e0_90 e1_91 e2_92 e3_93 e4_94 e5_95 e6_96 e7_97 e8_98 e9_99 e10_100 fr hd nw kp pt hr lr (fun r_102 e0_103 e1_104 e2_105 e3_106 e4_107 e5_108 e6_109 e7_110 e8_111 e9_112 e10_113 fr_114 hd_115 nw_116 kp_117 pt_118 hr_119 lr_120 => ((r_71 = s0 → (B_L_acts_312  Q  s0 ((v1 >>> ((24 : Int32) &&& 31)) - (v1 >>> ((24 : Int32) &&& 31)) / r_68 * r_68) r_71 r_102 (1 : Int32) tl_86 tx_87 mn_88 sd_89 e0_103 e1_104 e2_105 e3_106 e4_107 e5_108 e6_109 e7_110 e8_111 e9_112 e10_113 fr_114 hd_115 nw_116 kp_117 pt_118 hr_119 lr_120)) ∧ (¬ r_71 = s0 → (B_L_acts_312  Q  s0 ((v1 >>> ((24 : Int32) &&& 31)) - (v1 >>> ((24 : Int32) &&& 31)) / r_68 * r_68) r_71 r_102 (0 : Int32) tl_86 tx_87 mn_88 sd_89 e0_103 e1_104 e2_105 e3_106 e4_107 e5_108 e6_109 e7_110 e8_111 e9_112 e10_113 fr_114 hd_115 nw_116 kp_117 pt_118 hr_119 lr_120))))))))))))))) ∧ (¬ (v1 - v1 / (8 : Int32) * (8 : Int32)) = (5 : Int32) → (F_L_isTold v2 s0 ((v1 >>> ((24 : Int32) &&& 31)) - (v1 >>> ((24 : Int32) &&& 31)) / (4 : Int32) * (4 : Int32)) mn sd e0 e1 e2 e3 e4 e5 e6 e7 e8 e9 e10 fr hd nw kp pt hr lr (fun r_122 mn_123 sd_124 e0_125 e1_126 e2_127 e3_128 e4_129 e5_130 e6_131 e7_132 e8_133 e9_134 e10_135 fr_136 hd_137 nw_138 kp_139 pt_140 hr_141 lr_142 => (isBo r_122 ∧ (Q r_122 tl tx mn_123 sd_124 e0_125 e1_126 e2_127 e3_128 e4_129 e5_130 e6_131 e7_132 e8_133 e9_134 e10_135 fr_136 hd_137 nw_138 kp_139 pt_140 hr_141 lr_142))))))))))))))))
def B_L_acts_0  (Q : Int32 → Int32 → (Nat → Int32) → Int32 → (Nat → Int64) → Int32 → Int32 → Int32 → Int32 → Int32 → Int32 → Int32 → Int32 → Int32 → Int32 → Int32 → Int32 → Int32 → (Nat → Int32) → (Nat → Int32) → (Nat → Int32) → (Nat → Nat → Int32) → (Nat → Nat → Int32) → Prop)  (v1 : Int32) (tl : Int32) (tx : (Nat → Int32)) (mn : Int32) (sd : (Nat → Int64)) (e0 : Int32) (e1 : Int32) (e2 : Int32) (e3 : Int32) (e4 : Int32) (e5 : Int32) (e6 : Int32) (e7 : Int32) (e8 : Int32) (e9 : Int32) (e10 : Int32) (fr : Int32) (hd : Int32) (nw : (Nat → Int32)) (kp : (Nat → Int32)) (pt : (Nat → Int32)) (hr : (Nat → Nat → Int32)) (lr : (Nat → Nat → Int32)) : Prop := ((((v1 >>> ((3 : Int32) &&& 31)) - (v1 >>> ((3 : Int32) &&& 31)) / (2 : Int32) * (2 : Int32)) = 0 → (B_L_acts_45  Q  v1 ((v1 >>> ((4 : Int32) &&& 31)) - (v1 >>> ((4 : Int32) &&& 31)) / (6 : Int32) * (6 : Int32)) ((v1 >>> ((7 : Int32) &&& 31)) - (v1 >>> ((7 : Int32) &&& 31)) / (3 : Int32) * (3 : Int32)) ((1 : Int32) + ((v1 >>> ((9 : Int32) &&& 31)) - (v1 >>> ((9 : Int32) &&& 31)) / (450 : Int32) * (450 : Int32))) tl tx mn sd e0 e1 e2 e3 e4 e5 e6 e7 e8 e9 e10 fr hd nw kp pt hr lr)) ∧ (¬ ((v1 >>> ((3 : Int32) &&& 31)) - (v1 >>> ((3 : Int32) &&& 31)) / (2 : Int32) * (2 : Int32)) = 0 → (B_L_acts_45  Q  v1 ((v1 >>> ((4 : Int32) &&& 31)) - (v1 >>> ((4 : Int32) &&& 31)) / (6 : Int32) * (6 : Int32)) ((v1 >>> ((7 : Int32) &&& 31)) - (v1 >>> ((7 : Int32) &&& 31)) / (3 : Int32) * (3 : Int32)) ((1 : Int32) + ((v1 >>> ((9 : Int32) &&& 31)) - (v1 >>> ((9 : Int32) &&& 31)) / (7999 : Int32) * (7999 : Int32))) tl tx mn sd e0 e1 e2 e3 e4 e5 e6 e7 e8 e9 e10 fr hd nw kp pt hr lr)))
def F_L_acts (v1 : Int32)  (tl : Int32) (tx : (Nat → Int32)) (mn : Int32) (sd : (Nat → Int64)) (e0 : Int32) (e1 : Int32) (e2 : Int32) (e3 : Int32) (e4 : Int32) (e5 : Int32) (e6 : Int32) (e7 : Int32) (e8 : Int32) (e9 : Int32) (e10 : Int32) (fr : Int32) (hd : Int32) (nw : (Nat → Int32)) (kp : (Nat → Int32)) (pt : (Nat → Int32)) (hr : (Nat → Nat → Int32)) (lr : (Nat → Nat → Int32)) (Q : Int32 → Int32 → (Nat → Int32) → Int32 → (Nat → Int64) → Int32 → Int32 → Int32 → Int32 → Int32 → Int32 → Int32 → Int32 → Int32 → Int32 → Int32 → Int32 → Int32 → (Nat → Int32) → (Nat → Int32) → (Nat → Int32) → (Nat → Nat → Int32) → (Nat → Nat → Int32) → Prop) : Prop := B_L_acts_0 Q  v1 tl tx mn sd e0 e1 e2 e3 e4 e5 e6 e7 e8 e9 e10 fr hd nw kp pt hr lr
set_option maxHeartbeats 4000000 in
set_option maxRecDepth 100000 in
theorem t_B_L_acts_160  {Q : Int32 → Int32 → (Nat → Int32) → Int32 → (Nat → Int64) → Int32 → Int32 → Int32 → Int32 → Int32 → Int32 → Int32 → Int32 → Int32 → Int32 → Int32 → Int32 → Int32 → (Nat → Int32) → (Nat → Int32) → (Nat → Int32) → (Nat → Nat → Int32) → (Nat → Nat → Int32) → Prop} (C : CxX p s m args c D (tysX cA) RL cL_acts 9 wsL_acts) (hrt9 : meth.sig.returnType = (some .boolean)) (hlk : meth.locks = false) (s0 : Int32) (tl : Int32) (tx : (Nat → Int32)) (mn : Int32) (sd : (Nat → Int64)) (e0 : Int32) (e1 : Int32) (e2 : Int32) (e3 : Int32) (e4 : Int32) (e5 : Int32) (e6 : Int32) (e7 : Int32) (e8 : Int32) (e9 : Int32) (e10 : Int32) (fr : Int32) (hd : Int32) (nw : (Nat → Int32)) (kp : (Nat → Int32)) (pt : (Nat → Int32)) (hr : (Nat → Nat → Int32)) (lr : (Nat → Nat → Int32))  (h : B_L_acts_160  Q  s0 tl tx mn sd e0 e1 e2 e3 e4 e5 e6 e7 e8 e9 e10 fr hd nw kp pt hr lr) : GoX p l e rmL_acts s m args below meth c D A 9 0 0 (QP_L_acts D A ad cA  Q below args s) 160 [] [.int s0] (WX ad cA tl tx mn sd e0 e1 e2 e3 e4 e5 e6 e7 e8 e9 e10 fr hd nw kp pt hr lr) := by
  replace h : (isBo s0 ∧ (Q s0 tl tx mn sd e0 e1 e2 e3 e4 e5 e6 e7 e8 e9 e10 fr hd nw kp pt hr lr)) := h
  exact g_zret C hrt9 hlk h.1.n (u := (tl, tx, mn, sd, e0, e1, e2, e3, e4, e5, e6, e7, e8, e9, e10, fr, hd, nw, kp, pt, hr, lr)) rfl h.2 dL_acts_160
set_option maxHeartbeats 4000000 in
set_option maxRecDepth 100000 in
theorem t_B_L_acts_159  {Q : Int32 → Int32 → (Nat → Int32) → Int32 → (Nat → Int64) → Int32 → Int32 → Int32 → Int32 → Int32 → Int32 → Int32 → Int32 → Int32 → Int32 → Int32 → Int32 → Int32 → (Nat → Int32) → (Nat → Int32) → (Nat → Int32) → (Nat → Nat → Int32) → (Nat → Nat → Int32) → Prop} (C : CxX p s m args c D (tysX cA) RL cL_acts 9 wsL_acts) (hrt9 : meth.sig.returnType = (some .boolean)) (hlk : meth.locks = false)  (tl : Int32) (tx : (Nat → Int32)) (mn : Int32) (sd : (Nat → Int64)) (e0 : Int32) (e1 : Int32) (e2 : Int32) (e3 : Int32) (e4 : Int32) (e5 : Int32) (e6 : Int32) (e7 : Int32) (e8 : Int32) (e9 : Int32) (e10 : Int32) (fr : Int32) (hd : Int32) (nw : (Nat → Int32)) (kp : (Nat → Int32)) (pt : (Nat → Int32)) (hr : (Nat → Nat → Int32)) (lr : (Nat → Nat → Int32))  (h : B_L_acts_159  Q  tl tx mn sd e0 e1 e2 e3 e4 e5 e6 e7 e8 e9 e10 fr hd nw kp pt hr lr) : GoX p l e rmL_acts s m args below meth c D A 9 0 0 (QP_L_acts D A ad cA  Q below args s) 159 [] [] (WX ad cA tl tx mn sd e0 e1 e2 e3 e4 e5 e6 e7 e8 e9 e10 fr hd nw kp pt hr lr) := by
  replace h : (B_L_acts_160  Q  (0 : Int32) tl tx mn sd e0 e1 e2 e3 e4 e5 e6 e7 e8 e9 e10 fr hd nw kp pt hr lr) := h
  refine g_iconst C (0 : Int32) dL_acts_159 (by decide) ?_
  exact g_sub [] rfl (t_B_L_acts_160 C hrt9 hlk  (0 : Int32) tl tx mn sd e0 e1 e2 e3 e4 e5 e6 e7 e8 e9 e10 fr hd nw kp pt hr lr  h)
set_option maxHeartbeats 4000000 in
set_option maxRecDepth 100000 in
theorem t_B_L_acts_125  {Q : Int32 → Int32 → (Nat → Int32) → Int32 → (Nat → Int64) → Int32 → Int32 → Int32 → Int32 → Int32 → Int32 → Int32 → Int32 → Int32 → Int32 → Int32 → Int32 → Int32 → (Nat → Int32) → (Nat → Int32) → (Nat → Int32) → (Nat → Nat → Int32) → (Nat → Nat → Int32) → Prop} (C : CxX p s m args c D (tysX cA) RL cL_acts 9 wsL_acts) (hrt9 : meth.sig.returnType = (some .boolean)) (hlk : meth.locks = false) (v2 : Int32) (v3 : Int32) (tl : Int32) (tx : (Nat → Int32)) (mn : Int32) (sd : (Nat → Int64)) (e0 : Int32) (e1 : Int32) (e2 : Int32) (e3 : Int32) (e4 : Int32) (e5 : Int32) (e6 : Int32) (e7 : Int32) (e8 : Int32) (e9 : Int32) (e10 : Int32) (fr : Int32) (hd : Int32) (nw : (Nat → Int32)) (kp : (Nat → Int32)) (pt : (Nat → Int32)) (hr : (Nat → Nat → Int32)) (lr : (Nat → Nat → Int32))  (h : B_L_acts_125  Q  v2 v3 tl tx mn sd e0 e1 e2 e3 e4 e5 e6 e7 e8 e9 e10 fr hd nw kp pt hr lr) : GoX p l e rmL_acts s m args below meth c D A 9 0 0 (QP_L_acts D A ad cA  Q below args s) 125 [(0, .ref (ad 0)), (2, .int v2), (3, .int v3)] [] (WX ad cA tl tx mn sd e0 e1 e2 e3 e4 e5 e6 e7 e8 e9 e10 fr hd nw kp pt hr lr) := by
  replace h : (F_X5_unlearn v2 v3 fr hd nw kp pt hr lr (fun r_1 fr_2 hd_3 nw_4 kp_5 pt_6 hr_7 lr_8 => (((2 : Int32) < r_1 → (B_L_acts_159  Q  tl tx mn sd e0 e1 e2 e3 e4 e5 e6 e7 e8 e9 e10 fr_2 hd_3 nw_4 kp_5 pt_6 hr_7 lr_8)) ∧ (¬ (2 : Int32) < r_1 → (F_X5_hearer v2 v3 hr_7 (fun r_10 => ((r_10 = 0 → (F_X5_hearer v2 ((3 : Int32) + v3) hr_7 (fun r_12 => ((r_12 = 0 → (B_L_acts_160  Q  (1 : Int32) tl tx mn sd e0 e1 e2 e3 e4 e5 e6 e7 e8 e9 e10 fr_2 hd_3 nw_4 kp_5 pt_6 hr_7 lr_8)) ∧ (¬ r_12 = 0 → (B_L_acts_159  Q  tl tx mn sd e0 e1 e2 e3 e4 e5 e6 e7 e8 e9 e10 fr_2 hd_3 nw_4 kp_5 pt_6 hr_7 lr_8)))))) ∧ (¬ r_10 = 0 → (B_L_acts_159  Q  tl tx mn sd e0 e1 e2 e3 e4 e5 e6 e7 e8 e9 e10 fr_2 hd_3 nw_4 kp_5 pt_6 hr_7 lr_8))))))))) := h
  refine g_aload_n C 0 dL_acts_125 rfl rfl ?_
  refine g_iload_n C 1 dL_acts_126 rfl rfl ?_
  refine g_iload_n C 2 dL_acts_127 rfl rfl ?_
  refine k_X5_unlearn C gL_acts_X5_unlearn ⟨Nat.le_of_ble_eq_true rfl, Nat.le_of_ble_eq_true rfl⟩ ⟨Nat.zero_le _, Nat.zero_le _⟩ (Nat.le_of_ble_eq_true rfl) dL_acts_128  h (fun r_1 fr_2 hd_3 nw_4 kp_5 pt_6 hr_7 lr_8 h => ?_)
  refine g_iconst C (2 : Int32) dL_acts_131 (by decide) ?_
  refine g_icmp_gt C 159 dL_acts_132 (by decide) (fun c_9 => ?_) (fun c_9 => ?_)
  · replace h := h.1 c_9
    exact g_sub [] rfl (t_B_L_acts_159 C hrt9 hlk  tl tx mn sd e0 e1 e2 e3 e4 e5 e6 e7 e8 e9 e10 fr_2 hd_3 nw_4 kp_5 pt_6 hr_7 lr_8  h)
  · replace h := h.2 c_9
    refine g_aload_n C 0 dL_acts_135 rfl rfl ?_
    refine g_iload_n C 1 dL_acts_136 rfl rfl ?_
    refine g_iload_n C 2 dL_acts_137 rfl rfl ?_
    refine k_X5_hearer C gL_acts_X5_hearer ⟨Nat.le_of_ble_eq_true rfl, Nat.le_of_ble_eq_true rfl⟩ ⟨Nat.zero_le _, Nat.zero_le _⟩ (Nat.le_of_ble_eq_true rfl) dL_acts_138  h (fun r_10 h => ?_)
    refine g_if_ne C 159 dL_acts_141 (by decide) (fun c_11 => ?_) (fun c_11 => ?_)
    · replace h := h.2 c_11
      exact g_sub [] rfl (t_B_L_acts_159 C hrt9 hlk  tl tx mn sd e0 e1 e2 e3 e4 e5 e6 e7 e8 e9 e10 fr_2 hd_3 nw_4 kp_5 pt_6 hr_7 lr_8  h)
    · replace h := h.1 c_11
      refine g_aload_n C 0 dL_acts_144 rfl rfl ?_
      refine g_iload_n C 1 dL_acts_145 rfl rfl ?_
      refine g_iconst C (3 : Int32) dL_acts_146 (by decide) ?_
      refine g_iload_n C 2 dL_acts_147 rfl rfl ?_
      refine g_iadd C dL_acts_148 ?_
      refine k_X5_hearer C gL_acts_X5_hearer ⟨Nat.le_of_ble_eq_true rfl, Nat.le_of_ble_eq_true rfl⟩ ⟨Nat.zero_le _, Nat.zero_le _⟩ (Nat.le_of_ble_eq_true rfl) dL_acts_149  h (fun r_12 h => ?_)
      refine g_if_ne C 159 dL_acts_152 (by decide) (fun c_13 => ?_) (fun c_13 => ?_)
      · replace h := h.2 c_13
        exact g_sub [] rfl (t_B_L_acts_159 C hrt9 hlk  tl tx mn sd e0 e1 e2 e3 e4 e5 e6 e7 e8 e9 e10 fr_2 hd_3 nw_4 kp_5 pt_6 hr_7 lr_8  h)
      · replace h := h.1 c_13
        refine g_iconst C (1 : Int32) dL_acts_155 (by decide) ?_
        refine g_goto C 160 dL_acts_156 (by decide) ?_
        exact g_sub [] rfl (t_B_L_acts_160 C hrt9 hlk  (1 : Int32) tl tx mn sd e0 e1 e2 e3 e4 e5 e6 e7 e8 e9 e10 fr_2 hd_3 nw_4 kp_5 pt_6 hr_7 lr_8  h)
set_option maxHeartbeats 4000000 in
set_option maxRecDepth 100000 in
theorem t_B_L_acts_370  {Q : Int32 → Int32 → (Nat → Int32) → Int32 → (Nat → Int64) → Int32 → Int32 → Int32 → Int32 → Int32 → Int32 → Int32 → Int32 → Int32 → Int32 → Int32 → Int32 → Int32 → (Nat → Int32) → (Nat → Int32) → (Nat → Int32) → (Nat → Nat → Int32) → (Nat → Nat → Int32) → Prop} (C : CxX p s m args c D (tysX cA) RL cL_acts 9 wsL_acts) (hrt9 : meth.sig.returnType = (some .boolean)) (hlk : meth.locks = false) (s0 : Int32) (tl : Int32) (tx : (Nat → Int32)) (mn : Int32) (sd : (Nat → Int64)) (e0 : Int32) (e1 : Int32) (e2 : Int32) (e3 : Int32) (e4 : Int32) (e5 : Int32) (e6 : Int32) (e7 : Int32) (e8 : Int32) (e9 : Int32) (e10 : Int32) (fr : Int32) (hd : Int32) (nw : (Nat → Int32)) (kp : (Nat → Int32)) (pt : (Nat → Int32)) (hr : (Nat → Nat → Int32)) (lr : (Nat → Nat → Int32))  (h : B_L_acts_370  Q  s0 tl tx mn sd e0 e1 e2 e3 e4 e5 e6 e7 e8 e9 e10 fr hd nw kp pt hr lr) : GoX p l e rmL_acts s m args below meth c D A 9 0 0 (QP_L_acts D A ad cA  Q below args s) 370 [] [.int s0] (WX ad cA tl tx mn sd e0 e1 e2 e3 e4 e5 e6 e7 e8 e9 e10 fr hd nw kp pt hr lr) := by
  replace h : (isBo s0 ∧ (Q s0 tl tx mn sd e0 e1 e2 e3 e4 e5 e6 e7 e8 e9 e10 fr hd nw kp pt hr lr)) := h
  exact g_zret C hrt9 hlk h.1.n (u := (tl, tx, mn, sd, e0, e1, e2, e3, e4, e5, e6, e7, e8, e9, e10, fr, hd, nw, kp, pt, hr, lr)) rfl h.2 dL_acts_370
set_option maxHeartbeats 4000000 in
set_option maxRecDepth 100000 in
theorem t_B_L_acts_369  {Q : Int32 → Int32 → (Nat → Int32) → Int32 → (Nat → Int64) → Int32 → Int32 → Int32 → Int32 → Int32 → Int32 → Int32 → Int32 → Int32 → Int32 → Int32 → Int32 → Int32 → (Nat → Int32) → (Nat → Int32) → (Nat → Int32) → (Nat → Nat → Int32) → (Nat → Nat → Int32) → Prop} (C : CxX p s m args c D (tysX cA) RL cL_acts 9 wsL_acts) (hrt9 : meth.sig.returnType = (some .boolean)) (hlk : meth.locks = false)  (tl : Int32) (tx : (Nat → Int32)) (mn : Int32) (sd : (Nat → Int64)) (e0 : Int32) (e1 : Int32) (e2 : Int32) (e3 : Int32) (e4 : Int32) (e5 : Int32) (e6 : Int32) (e7 : Int32) (e8 : Int32) (e9 : Int32) (e10 : Int32) (fr : Int32) (hd : Int32) (nw : (Nat → Int32)) (kp : (Nat → Int32)) (pt : (Nat → Int32)) (hr : (Nat → Nat → Int32)) (lr : (Nat → Nat → Int32))  (h : B_L_acts_369  Q  tl tx mn sd e0 e1 e2 e3 e4 e5 e6 e7 e8 e9 e10 fr hd nw kp pt hr lr) : GoX p l e rmL_acts s m args below meth c D A 9 0 0 (QP_L_acts D A ad cA  Q below args s) 369 [] [] (WX ad cA tl tx mn sd e0 e1 e2 e3 e4 e5 e6 e7 e8 e9 e10 fr hd nw kp pt hr lr) := by
  replace h : (B_L_acts_370  Q  (0 : Int32) tl tx mn sd e0 e1 e2 e3 e4 e5 e6 e7 e8 e9 e10 fr hd nw kp pt hr lr) := h
  refine g_iconst C (0 : Int32) dL_acts_369 (by decide) ?_
  exact g_sub [] rfl (t_B_L_acts_370 C hrt9 hlk  (0 : Int32) tl tx mn sd e0 e1 e2 e3 e4 e5 e6 e7 e8 e9 e10 fr hd nw kp pt hr lr  h)
set_option maxHeartbeats 4000000 in
set_option maxRecDepth 100000 in
theorem t_B_L_acts_362  {Q : Int32 → Int32 → (Nat → Int32) → Int32 → (Nat → Int64) → Int32 → Int32 → Int32 → Int32 → Int32 → Int32 → Int32 → Int32 → Int32 → Int32 → Int32 → Int32 → Int32 → (Nat → Int32) → (Nat → Int32) → (Nat → Int32) → (Nat → Nat → Int32) → (Nat → Nat → Int32) → Prop} (C : CxX p s m args c D (tysX cA) RL cL_acts 9 wsL_acts) (hrt9 : meth.sig.returnType = (some .boolean)) (hlk : meth.locks = false) (s0 : Int32) (s1 : Int32) (tl : Int32) (tx : (Nat → Int32)) (mn : Int32) (sd : (Nat → Int64)) (e0 : Int32) (e1 : Int32) (e2 : Int32) (e3 : Int32) (e4 : Int32) (e5 : Int32) (e6 : Int32) (e7 : Int32) (e8 : Int32) (e9 : Int32) (e10 : Int32) (fr : Int32) (hd : Int32) (nw : (Nat → Int32)) (kp : (Nat → Int32)) (pt : (Nat → Int32)) (hr : (Nat → Nat → Int32)) (lr : (Nat → Nat → Int32))  (h : B_L_acts_362  Q  s0 s1 tl tx mn sd e0 e1 e2 e3 e4 e5 e6 e7 e8 e9 e10 fr hd nw kp pt hr lr) : GoX p l e rmL_acts s m args below meth c D A 9 0 0 (QP_L_acts D A ad cA  Q below args s) 362 [] [.int s1, .int s0] (WX ad cA tl tx mn sd e0 e1 e2 e3 e4 e5 e6 e7 e8 e9 e10 fr hd nw kp pt hr lr) := by
  replace h : ((s0 = s1 → (B_L_acts_370  Q  (1 : Int32) tl tx mn sd e0 e1 e2 e3 e4 e5 e6 e7 e8 e9 e10 fr hd nw kp pt hr lr)) ∧ (¬ s0 = s1 → (B_L_acts_369  Q  tl tx mn sd e0 e1 e2 e3 e4 e5 e6 e7 e8 e9 e10 fr hd nw kp pt hr lr))) := h
  refine g_icmp_ne C 369 dL_acts_362 (by decide) (fun c_14 => ?_) (fun c_14 => ?_)
  · replace h := h.2 c_14
    exact g_sub [] rfl (t_B_L_acts_369 C hrt9 hlk  tl tx mn sd e0 e1 e2 e3 e4 e5 e6 e7 e8 e9 e10 fr hd nw kp pt hr lr  h)
  · replace h := h.1 c_14
    refine g_iconst C (1 : Int32) dL_acts_365 (by decide) ?_
    refine g_goto C 370 dL_acts_366 (by decide) ?_
    exact g_sub [] rfl (t_B_L_acts_370 C hrt9 hlk  (1 : Int32) tl tx mn sd e0 e1 e2 e3 e4 e5 e6 e7 e8 e9 e10 fr hd nw kp pt hr lr  h)
set_option maxHeartbeats 4000000 in
set_option maxRecDepth 100000 in
theorem t_B_L_acts_312  {Q : Int32 → Int32 → (Nat → Int32) → Int32 → (Nat → Int64) → Int32 → Int32 → Int32 → Int32 → Int32 → Int32 → Int32 → Int32 → Int32 → Int32 → Int32 → Int32 → Int32 → (Nat → Int32) → (Nat → Int32) → (Nat → Int32) → (Nat → Nat → Int32) → (Nat → Nat → Int32) → Prop} (C : CxX p s m args c D (tysX cA) RL cL_acts 9 wsL_acts) (hrt9 : meth.sig.returnType = (some .boolean)) (hlk : meth.locks = false) (v4 : Int32) (v7 : Int32) (v8 : Int32) (s0 : Int32) (s1 : Int32) (tl : Int32) (tx : (Nat → Int32)) (mn : Int32) (sd : (Nat → Int64)) (e0 : Int32) (e1 : Int32) (e2 : Int32) (e3 : Int32) (e4 : Int32) (e5 : Int32) (e6 : Int32) (e7 : Int32) (e8 : Int32) (e9 : Int32) (e10 : Int32) (fr : Int32) (hd : Int32) (nw : (Nat → Int32)) (kp : (Nat → Int32)) (pt : (Nat → Int32)) (hr : (Nat → Nat → Int32)) (lr : (Nat → Nat → Int32))  (h : B_L_acts_312  Q  v4 v7 v8 s0 s1 tl tx mn sd e0 e1 e2 e3 e4 e5 e6 e7 e8 e9 e10 fr hd nw kp pt hr lr) : GoX p l e rmL_acts s m args below meth c D A 9 0 0 (QP_L_acts D A ad cA  Q below args s) 312 [(0, .ref (ad 0)), (4, .int v4), (7, .int v7), (8, .int v8)] [.int s1, .int s0] (WX ad cA tl tx mn sd e0 e1 e2 e3 e4 e5 e6 e7 e8 e9 e10 fr hd nw kp pt hr lr) := by
  replace h : ((s0 = s1 → (F_X5_log (0 : Int32) (1 : Int32) nw kp lr (fun r_16 => ((r_16 = v4 → (F_X5_log (0 : Int32) (2 : Int32) nw kp lr (fun r_18 => (F_X5_wayLength v4 v7 mn sd (fun r_19 mn_20 sd_21 => ((r_18 = r_19 → (F_X5_log (0 : Int32) (3 : Int32) nw kp lr (fun r_23 => ((v8 = (-5 : Int32) → (B_L_acts_362  Q  r_23 (0 : Int32) tl tx mn_20 sd_21 e0 e1 e2 e3 e4 e5 e6 e7 e8 e9 e10 fr hd nw kp pt hr lr)) ∧ (¬ v8 = (-5 : Int32) → (B_L_acts_362  Q  r_23 v8 tl tx mn_20 sd_21 e0 e1 e2 e3 e4 e5 e6 e7 e8 e9 e10 fr hd nw kp pt hr lr)))))) ∧ (¬ r_18 = r_19 → (B_L_acts_369  Q  tl tx mn_20 sd_21 e0 e1 e2 e3 e4 e5 e6 e7 e8 e9 e10 fr hd nw kp pt hr lr)))))))) ∧ (¬ r_16 = v4 → (B_L_acts_369  Q  tl tx mn sd e0 e1 e2 e3 e4 e5 e6 e7 e8 e9 e10 fr hd nw kp pt hr lr)))))) ∧ (¬ s0 = s1 → (B_L_acts_369  Q  tl tx mn sd e0 e1 e2 e3 e4 e5 e6 e7 e8 e9 e10 fr hd nw kp pt hr lr))) := h
  refine g_icmp_ne C 369 dL_acts_312 (by decide) (fun c_15 => ?_) (fun c_15 => ?_)
  · replace h := h.2 c_15
    exact g_sub [] rfl (t_B_L_acts_369 C hrt9 hlk  tl tx mn sd e0 e1 e2 e3 e4 e5 e6 e7 e8 e9 e10 fr hd nw kp pt hr lr  h)
  · replace h := h.1 c_15
    refine g_aload_n C 0 dL_acts_315 rfl rfl ?_
    refine g_iconst C (0 : Int32) dL_acts_316 (by decide) ?_
    refine g_iconst C (1 : Int32) dL_acts_317 (by decide) ?_
    refine k_X5_log C gL_acts_X5_log ⟨Nat.le_of_ble_eq_true rfl, Nat.le_of_ble_eq_true rfl⟩ ⟨Nat.zero_le _, Nat.zero_le _⟩ (Nat.le_of_ble_eq_true rfl) dL_acts_318  h (fun r_16 h => ?_)
    refine g_iload C 1 dL_acts_321 rfl ?_
    refine g_icmp_ne C 369 dL_acts_323 (by decide) (fun c_17 => ?_) (fun c_17 => ?_)
    · replace h := h.2 c_17
      exact g_sub [] rfl (t_B_L_acts_369 C hrt9 hlk  tl tx mn sd e0 e1 e2 e3 e4 e5 e6 e7 e8 e9 e10 fr hd nw kp pt hr lr  h)
    · replace h := h.1 c_17
      refine g_aload_n C 0 dL_acts_326 rfl rfl ?_
      refine g_iconst C (0 : Int32) dL_acts_327 (by decide) ?_
      refine g_iconst C (2 : Int32) dL_acts_328 (by decide) ?_
      refine k_X5_log C gL_acts_X5_log ⟨Nat.le_of_ble_eq_true rfl, Nat.le_of_ble_eq_true rfl⟩ ⟨Nat.zero_le _, Nat.zero_le _⟩ (Nat.le_of_ble_eq_true rfl) dL_acts_329  h (fun r_18 h => ?_)
      refine g_aload_n C 0 dL_acts_332 rfl rfl ?_
      refine g_iload C 1 dL_acts_333 rfl ?_
      refine g_iload C 2 dL_acts_335 rfl ?_
      refine k_X5_wayLength C gL_acts_X5_wayLength ⟨Nat.le_of_ble_eq_true rfl, Nat.le_of_ble_eq_true rfl⟩ ⟨Nat.zero_le _, Nat.zero_le _⟩ (Nat.le_of_ble_eq_true rfl) dL_acts_337  h (fun r_19 mn_20 sd_21 h => ?_)
      refine g_icmp_ne C 369 dL_acts_340 (by decide) (fun c_22 => ?_) (fun c_22 => ?_)
      · replace h := h.2 c_22
        exact g_sub [] rfl (t_B_L_acts_369 C hrt9 hlk  tl tx mn_20 sd_21 e0 e1 e2 e3 e4 e5 e6 e7 e8 e9 e10 fr hd nw kp pt hr lr  h)
      · replace h := h.1 c_22
        refine g_aload_n C 0 dL_acts_343 rfl rfl ?_
        refine g_iconst C (0 : Int32) dL_acts_344 (by decide) ?_
        refine g_iconst C (3 : Int32) dL_acts_345 (by decide) ?_
        refine k_X5_log C gL_acts_X5_log ⟨Nat.le_of_ble_eq_true rfl, Nat.le_of_ble_eq_true rfl⟩ ⟨Nat.zero_le _, Nat.zero_le _⟩ (Nat.le_of_ble_eq_true rfl) dL_acts_346  h (fun r_23 h => ?_)
        refine g_iload C 3 dL_acts_349 rfl ?_
        refine g_bipush C (-5 : Int32) dL_acts_351 (by decide) ?_
        refine g_icmp_ne C 360 dL_acts_353 (by decide) (fun c_24 => ?_) (fun c_24 => ?_)
        · replace h := h.2 c_24
          refine g_iload C 3 dL_acts_360 rfl ?_
          exact g_sub [] rfl (t_B_L_acts_362 C hrt9 hlk  r_23 v8 tl tx mn_20 sd_21 e0 e1 e2 e3 e4 e5 e6 e7 e8 e9 e10 fr hd nw kp pt hr lr  h)
        · replace h := h.1 c_24
          refine g_iconst C (0 : Int32) dL_acts_356 (by decide) ?_
          refine g_goto C 362 dL_acts_357 (by decide) ?_
          exact g_sub [] rfl (t_B_L_acts_362 C hrt9 hlk  r_23 (0 : Int32) tl tx mn_20 sd_21 e0 e1 e2 e3 e4 e5 e6 e7 e8 e9 e10 fr hd nw kp pt hr lr  h)
set_option maxHeartbeats 4000000 in
set_option maxRecDepth 100000 in
theorem t_B_L_acts_259  {Q : Int32 → Int32 → (Nat → Int32) → Int32 → (Nat → Int64) → Int32 → Int32 → Int32 → Int32 → Int32 → Int32 → Int32 → Int32 → Int32 → Int32 → Int32 → Int32 → Int32 → (Nat → Int32) → (Nat → Int32) → (Nat → Int32) → (Nat → Nat → Int32) → (Nat → Nat → Int32) → Prop} (C : CxX p s m args c D (tysX cA) RL cL_acts 9 wsL_acts) (hrt9 : meth.sig.returnType = (some .boolean)) (hlk : meth.locks = false) (s0 : Int32) (tl : Int32) (tx : (Nat → Int32)) (mn : Int32) (sd : (Nat → Int64)) (e0 : Int32) (e1 : Int32) (e2 : Int32) (e3 : Int32) (e4 : Int32) (e5 : Int32) (e6 : Int32) (e7 : Int32) (e8 : Int32) (e9 : Int32) (e10 : Int32) (fr : Int32) (hd : Int32) (nw : (Nat → Int32)) (kp : (Nat → Int32)) (pt : (Nat → Int32)) (hr : (Nat → Nat → Int32)) (lr : (Nat → Nat → Int32))  (h : B_L_acts_259  Q  s0 tl tx mn sd e0 e1 e2 e3 e4 e5 e6 e7 e8 e9 e10 fr hd nw kp pt hr lr) : GoX p l e rmL_acts s m args below meth c D A 9 0 0 (QP_L_acts D A ad cA  Q below args s) 259 [] [.int s0] (WX ad cA tl tx mn sd e0 e1 e2 e3 e4 e5 e6 e7 e8 e9 e10 fr hd nw kp pt hr lr) := by
  replace h : (isBo s0 ∧ (Q s0 tl tx mn sd e0 e1 e2 e3 e4 e5 e6 e7 e8 e9 e10 fr hd nw kp pt hr lr)) := h
  exact g_zret C hrt9 hlk h.1.n (u := (tl, tx, mn, sd, e0, e1, e2, e3, e4, e5, e6, e7, e8, e9, e10, fr, hd, nw, kp, pt, hr, lr)) rfl h.2 dL_acts_259
set_option maxHeartbeats 4000000 in
set_option maxRecDepth 100000 in
theorem t_B_L_acts_258  {Q : Int32 → Int32 → (Nat → Int32) → Int32 → (Nat → Int64) → Int32 → Int32 → Int32 → Int32 → Int32 → Int32 → Int32 → Int32 → Int32 → Int32 → Int32 → Int32 → Int32 → (Nat → Int32) → (Nat → Int32) → (Nat → Int32) → (Nat → Nat → Int32) → (Nat → Nat → Int32) → Prop} (C : CxX p s m args c D (tysX cA) RL cL_acts 9 wsL_acts) (hrt9 : meth.sig.returnType = (some .boolean)) (hlk : meth.locks = false)  (tl : Int32) (tx : (Nat → Int32)) (mn : Int32) (sd : (Nat → Int64)) (e0 : Int32) (e1 : Int32) (e2 : Int32) (e3 : Int32) (e4 : Int32) (e5 : Int32) (e6 : Int32) (e7 : Int32) (e8 : Int32) (e9 : Int32) (e10 : Int32) (fr : Int32) (hd : Int32) (nw : (Nat → Int32)) (kp : (Nat → Int32)) (pt : (Nat → Int32)) (hr : (Nat → Nat → Int32)) (lr : (Nat → Nat → Int32))  (h : B_L_acts_258  Q  tl tx mn sd e0 e1 e2 e3 e4 e5 e6 e7 e8 e9 e10 fr hd nw kp pt hr lr) : GoX p l e rmL_acts s m args below meth c D A 9 0 0 (QP_L_acts D A ad cA  Q below args s) 258 [] [] (WX ad cA tl tx mn sd e0 e1 e2 e3 e4 e5 e6 e7 e8 e9 e10 fr hd nw kp pt hr lr) := by
  replace h : (B_L_acts_259  Q  (0 : Int32) tl tx mn sd e0 e1 e2 e3 e4 e5 e6 e7 e8 e9 e10 fr hd nw kp pt hr lr) := h
  refine g_iconst C (0 : Int32) dL_acts_258 (by decide) ?_
  exact g_sub [] rfl (t_B_L_acts_259 C hrt9 hlk  (0 : Int32) tl tx mn sd e0 e1 e2 e3 e4 e5 e6 e7 e8 e9 e10 fr hd nw kp pt hr lr  h)
set_option maxHeartbeats 4000000 in
set_option maxRecDepth 100000 in
theorem t_B_L_acts_213  {Q : Int32 → Int32 → (Nat → Int32) → Int32 → (Nat → Int64) → Int32 → Int32 → Int32 → Int32 → Int32 → Int32 → Int32 → Int32 → Int32 → Int32 → Int32 → Int32 → Int32 → (Nat → Int32) → (Nat → Int32) → (Nat → Int32) → (Nat → Nat → Int32) → (Nat → Nat → Int32) → Prop} (C : CxX p s m args c D (tysX cA) RL cL_acts 9 wsL_acts) (hrt9 : meth.sig.returnType = (some .boolean)) (hlk : meth.locks = false) (s0 : Int32) (tl : Int32) (tx : (Nat → Int32)) (mn : Int32) (sd : (Nat → Int64)) (e0 : Int32) (e1 : Int32) (e2 : Int32) (e3 : Int32) (e4 : Int32) (e5 : Int32) (e6 : Int32) (e7 : Int32) (e8 : Int32) (e9 : Int32) (e10 : Int32) (fr : Int32) (hd : Int32) (nw : (Nat → Int32)) (kp : (Nat → Int32)) (pt : (Nat → Int32)) (hr : (Nat → Nat → Int32)) (lr : (Nat → Nat → Int32))  (h : B_L_acts_213  Q  s0 tl tx mn sd e0 e1 e2 e3 e4 e5 e6 e7 e8 e9 e10 fr hd nw kp pt hr lr) : GoX p l e rmL_acts s m args below meth c D A 9 0 0 (QP_L_acts D A ad cA  Q below args s) 213 [] [.int s0] (WX ad cA tl tx mn sd e0 e1 e2 e3 e4 e5 e6 e7 e8 e9 e10 fr hd nw kp pt hr lr) := by
  replace h : (isBo s0 ∧ (Q s0 tl tx mn sd e0 e1 e2 e3 e4 e5 e6 e7 e8 e9 e10 fr hd nw kp pt hr lr)) := h
  exact g_zret C hrt9 hlk h.1.n (u := (tl, tx, mn, sd, e0, e1, e2, e3, e4, e5, e6, e7, e8, e9, e10, fr, hd, nw, kp, pt, hr, lr)) rfl h.2 dL_acts_213
set_option maxHeartbeats 4000000 in
set_option maxRecDepth 100000 in
theorem t_B_L_acts_212  {Q : Int32 → Int32 → (Nat → Int32) → Int32 → (Nat → Int64) → Int32 → Int32 → Int32 → Int32 → Int32 → Int32 → Int32 → Int32 → Int32 → Int32 → Int32 → Int32 → Int32 → (Nat → Int32) → (Nat → Int32) → (Nat → Int32) → (Nat → Nat → Int32) → (Nat → Nat → Int32) → Prop} (C : CxX p s m args c D (tysX cA) RL cL_acts 9 wsL_acts) (hrt9 : meth.sig.returnType = (some .boolean)) (hlk : meth.locks = false)  (tl : Int32) (tx : (Nat → Int32)) (mn : Int32) (sd : (Nat → Int64)) (e0 : Int32) (e1 : Int32) (e2 : Int32) (e3 : Int32) (e4 : Int32) (e5 : Int32) (e6 : Int32) (e7 : Int32) (e8 : Int32) (e9 : Int32) (e10 : Int32) (fr : Int32) (hd : Int32) (nw : (Nat → Int32)) (kp : (Nat → Int32)) (pt : (Nat → Int32)) (hr : (Nat → Nat → Int32)) (lr : (Nat → Nat → Int32))  (h : B_L_acts_212  Q  tl tx mn sd e0 e1 e2 e3 e4 e5 e6 e7 e8 e9 e10 fr hd nw kp pt hr lr) : GoX p l e rmL_acts s m args below meth c D A 9 0 0 (QP_L_acts D A ad cA  Q below args s) 212 [] [] (WX ad cA tl tx mn sd e0 e1 e2 e3 e4 e5 e6 e7 e8 e9 e10 fr hd nw kp pt hr lr) := by
  replace h : (B_L_acts_213  Q  (0 : Int32) tl tx mn sd e0 e1 e2 e3 e4 e5 e6 e7 e8 e9 e10 fr hd nw kp pt hr lr) := h
  refine g_iconst C (0 : Int32) dL_acts_212 (by decide) ?_
  exact g_sub [] rfl (t_B_L_acts_213 C hrt9 hlk  (0 : Int32) tl tx mn sd e0 e1 e2 e3 e4 e5 e6 e7 e8 e9 e10 fr hd nw kp pt hr lr  h)
set_option maxHeartbeats 4000000 in
set_option maxRecDepth 100000 in
theorem t_B_L_acts_124  {Q : Int32 → Int32 → (Nat → Int32) → Int32 → (Nat → Int64) → Int32 → Int32 → Int32 → Int32 → Int32 → Int32 → Int32 → Int32 → Int32 → Int32 → Int32 → Int32 → Int32 → (Nat → Int32) → (Nat → Int32) → (Nat → Int32) → (Nat → Nat → Int32) → (Nat → Nat → Int32) → Prop} (C : CxX p s m args c D (tysX cA) RL cL_acts 9 wsL_acts) (hrt9 : meth.sig.returnType = (some .boolean)) (hlk : meth.locks = false) (s0 : Int32) (tl : Int32) (tx : (Nat → Int32)) (mn : Int32) (sd : (Nat → Int64)) (e0 : Int32) (e1 : Int32) (e2 : Int32) (e3 : Int32) (e4 : Int32) (e5 : Int32) (e6 : Int32) (e7 : Int32) (e8 : Int32) (e9 : Int32) (e10 : Int32) (fr : Int32) (hd : Int32) (nw : (Nat → Int32)) (kp : (Nat → Int32)) (pt : (Nat → Int32)) (hr : (Nat → Nat → Int32)) (lr : (Nat → Nat → Int32))  (h : B_L_acts_124  Q  s0 tl tx mn sd e0 e1 e2 e3 e4 e5 e6 e7 e8 e9 e10 fr hd nw kp pt hr lr) : GoX p l e rmL_acts s m args below meth c D A 9 0 0 (QP_L_acts D A ad cA  Q below args s) 124 [] [.int s0] (WX ad cA tl tx mn sd e0 e1 e2 e3 e4 e5 e6 e7 e8 e9 e10 fr hd nw kp pt hr lr) := by
  replace h : (isBo s0 ∧ (Q s0 tl tx mn sd e0 e1 e2 e3 e4 e5 e6 e7 e8 e9 e10 fr hd nw kp pt hr lr)) := h
  exact g_zret C hrt9 hlk h.1.n (u := (tl, tx, mn, sd, e0, e1, e2, e3, e4, e5, e6, e7, e8, e9, e10, fr, hd, nw, kp, pt, hr, lr)) rfl h.2 dL_acts_124
set_option maxHeartbeats 4000000 in
set_option maxRecDepth 100000 in
theorem t_B_L_acts_123  {Q : Int32 → Int32 → (Nat → Int32) → Int32 → (Nat → Int64) → Int32 → Int32 → Int32 → Int32 → Int32 → Int32 → Int32 → Int32 → Int32 → Int32 → Int32 → Int32 → Int32 → (Nat → Int32) → (Nat → Int32) → (Nat → Int32) → (Nat → Nat → Int32) → (Nat → Nat → Int32) → Prop} (C : CxX p s m args c D (tysX cA) RL cL_acts 9 wsL_acts) (hrt9 : meth.sig.returnType = (some .boolean)) (hlk : meth.locks = false)  (tl : Int32) (tx : (Nat → Int32)) (mn : Int32) (sd : (Nat → Int64)) (e0 : Int32) (e1 : Int32) (e2 : Int32) (e3 : Int32) (e4 : Int32) (e5 : Int32) (e6 : Int32) (e7 : Int32) (e8 : Int32) (e9 : Int32) (e10 : Int32) (fr : Int32) (hd : Int32) (nw : (Nat → Int32)) (kp : (Nat → Int32)) (pt : (Nat → Int32)) (hr : (Nat → Nat → Int32)) (lr : (Nat → Nat → Int32))  (h : B_L_acts_123  Q  tl tx mn sd e0 e1 e2 e3 e4 e5 e6 e7 e8 e9 e10 fr hd nw kp pt hr lr) : GoX p l e rmL_acts s m args below meth c D A 9 0 0 (QP_L_acts D A ad cA  Q below args s) 123 [] [] (WX ad cA tl tx mn sd e0 e1 e2 e3 e4 e5 e6 e7 e8 e9 e10 fr hd nw kp pt hr lr) := by
  replace h : (B_L_acts_124  Q  (0 : Int32) tl tx mn sd e0 e1 e2 e3 e4 e5 e6 e7 e8 e9 e10 fr hd nw kp pt hr lr) := h
  refine g_iconst C (0 : Int32) dL_acts_123 (by decide) ?_
  exact g_sub [] rfl (t_B_L_acts_124 C hrt9 hlk  (0 : Int32) tl tx mn sd e0 e1 e2 e3 e4 e5 e6 e7 e8 e9 e10 fr hd nw kp pt hr lr  h)
set_option maxHeartbeats 4000000 in
set_option maxRecDepth 100000 in
theorem t_B_L_acts_45  {Q : Int32 → Int32 → (Nat → Int32) → Int32 → (Nat → Int64) → Int32 → Int32 → Int32 → Int32 → Int32 → Int32 → Int32 → Int32 → Int32 → Int32 → Int32 → Int32 → Int32 → (Nat → Int32) → (Nat → Int32) → (Nat → Int32) → (Nat → Nat → Int32) → (Nat → Nat → Int32) → Prop} (C : CxX p s m args c D (tysX cA) RL cL_acts 9 wsL_acts) (hrt9 : meth.sig.returnType = (some .boolean)) (hlk : meth.locks = false) (v1 : Int32) (v2 : Int32) (v3 : Int32) (s0 : Int32) (tl : Int32) (tx : (Nat → Int32)) (mn : Int32) (sd : (Nat → Int64)) (e0 : Int32) (e1 : Int32) (e2 : Int32) (e3 : Int32) (e4 : Int32) (e5 : Int32) (e6 : Int32) (e7 : Int32) (e8 : Int32) (e9 : Int32) (e10 : Int32) (fr : Int32) (hd : Int32) (nw : (Nat → Int32)) (kp : (Nat → Int32)) (pt : (Nat → Int32)) (hr : (Nat → Nat → Int32)) (lr : (Nat → Nat → Int32))  (h : B_L_acts_45  Q  v1 v2 v3 s0 tl tx mn sd e0 e1 e2 e3 e4 e5 e6 e7 e8 e9 e10 fr hd nw kp pt hr lr) : GoX p l e rmL_acts s m args below meth c D A 9 0 0 (QP_L_acts D A ad cA  Q below args s) 45 [(0, .ref (ad 0)), (1, .int v1), (2, .int v2), (3, .int v3)] [.int s0] (WX ad cA tl tx mn sd e0 e1 e2 e3 e4 e5 e6 e7 e8 e9 e10 fr hd nw kp pt hr lr) := by
  replace h : (((v1 - v1 / (8 : Int32) * (8 : Int32)) = (0 : Int32) → (F_X5_learn v2 v3 fr hd nw kp pt hr lr (fun r_26 fr_27 hd_28 nw_29 kp_30 pt_31 hr_32 lr_33 => ((r_26 < (1 : Int32) → (B_L_acts_123  Q  tl tx mn sd e0 e1 e2 e3 e4 e5 e6 e7 e8 e9 e10 fr_27 hd_28 nw_29 kp_30 pt_31 hr_32 lr_33)) ∧ (¬ r_26 < (1 : Int32) → (F_X5_hearer v2 v3 hr_32 (fun r_35 => ((r_35 = (1 : Int32) → (F_X5_hearer v2 ((3 : Int32) + v3) hr_32 (fun r_37 => ((r_37 = 0 → (B_L_acts_124  Q  (1 : Int32) tl tx mn sd e0 e1 e2 e3 e4 e5 e6 e7 e8 e9 e10 fr_27 hd_28 nw_29 kp_30 pt_31 hr_32 lr_33)) ∧ (¬ r_37 = 0 → (B_L_acts_123  Q  tl tx mn sd e0 e1 e2 e3 e4 e5 e6 e7 e8 e9 e10 fr_27 hd_28 nw_29 kp_30 pt_31 hr_32 lr_33)))))) ∧ (¬ r_35 = (1 : Int32) → (B_L_acts_123  Q  tl tx mn sd e0 e1 e2 e3 e4 e5 e6 e7 e8 e9 e10 fr_27 hd_28 nw_29 kp_30 pt_31 hr_32 lr_33)))))))))) ∧ (¬ (v1 - v1 / (8 : Int32) * (8 : Int32)) = (0 : Int32) → (((v1 - v1 / (8 : Int32) * (8 : Int32)) = (1 : Int32) → (B_L_acts_125  Q  v2 v3 tl tx mn sd e0 e1 e2 e3 e4 e5 e6 e7 e8 e9 e10 fr hd nw kp pt hr lr)) ∧ (¬ (v1 - v1 / (8 : Int32) * (8 : Int32)) = (1 : Int32) → (((v1 - v1 / (8 : Int32) * (8 : Int32)) = (2 : Int32) → (B_L_acts_125  Q  v2 v3 tl tx mn sd e0 e1 e2 e3 e4 e5 e6 e7 e8 e9 e10 fr hd nw kp pt hr lr)) ∧ (¬ (v1 - v1 / (8 : Int32) * (8 : Int32)) = (2 : Int32) → (((v1 - v1 / (8 : Int32) * (8 : Int32)) = (3 : Int32) → (F_X5_hearer v2 (6 : Int32) hr (fun r_42 => (F_X5_attend v2 ((1 : Int32) + ((v1 >>> ((9 : Int32) &&& 31)) - (v1 >>> ((9 : Int32) &&& 31)) / (12 : Int32) * (12 : Int32))) fr hd nw kp pt hr lr (fun r_43 fr_44 hd_45 nw_46 kp_47 pt_48 hr_49 lr_50 => ((r_43 = r_42 → (F_X5_hearer v2 (6 : Int32) hr_49 (fun r_52 => ((r_52 = ((1 : Int32) + ((v1 >>> ((9 : Int32) &&& 31)) - (v1 >>> ((9 : Int32) &&& 31)) / (12 : Int32) * (12 : Int32))) → (B_L_acts_213  Q  (1 : Int32) tl tx mn sd e0 e1 e2 e3 e4 e5 e6 e7 e8 e9 e10 fr_44 hd_45 nw_46 kp_47 pt_48 hr_49 lr_50)) ∧ (¬ r_52 = ((1 : Int32) + ((v1 >>> ((9 : Int32) &&& 31)) - (v1 >>> ((9 : Int32) &&& 31)) / (12 : Int32) * (12 : Int32))) → (B_L_acts_212  Q  tl tx mn sd e0 e1 e2 e3 e4 e5 e6 e7 e8 e9 e10 fr_44 hd_45 nw_46 kp_47 pt_48 hr_49 lr_50)))))) ∧ (¬ r_43 = r_42 → (B_L_acts_212  Q  tl tx mn sd e0 e1 e2 e3 e4 e5 e6 e7 e8 e9 e10 fr_44 hd_45 nw_46 kp_47 pt_48 hr_49 lr_50)))))))) ∧ (¬ (v1 - v1 / (8 : Int32) * (8 : Int32)) = (3 : Int32) → (((v1 - v1 / (8 : Int32) * (8 : Int32)) = (4 : Int32) → (F_X5_patience pt (fun r_55 => (F_X5_set ((1 : Int32) + ((v1 >>> ((9 : Int32) &&& 31)) - (v1 >>> ((9 : Int32) &&& 31)) / (9 : Int32) * (9 : Int32))) fr hd nw kp pt hr lr (fun r_56 fr_57 hd_58 nw_59 kp_60 pt_61 hr_62 lr_63 => ((r_56 = r_55 → (F_X5_patience pt_61 (fun r_65 => ((r_65 = ((1 : Int32) + ((v1 >>> ((9 : Int32) &&& 31)) - (v1 >>> ((9 : Int32) &&& 31)) / (9 : Int32) * (9 : Int32))) → (B_L_acts_259  Q  (1 : Int32) tl tx mn sd e0 e1 e2 e3 e4 e5 e6 e7 e8 e9 e10 fr_57 hd_58 nw_59 kp_60 pt_61 hr_62 lr_63)) ∧ (¬ r_65 = ((1 : Int32) + ((v1 >>> ((9 : Int32) &&& 31)) - (v1 >>> ((9 : Int32) &&& 31)) / (9 : Int32) * (9 : Int32))) → (B_L_acts_258  Q  tl tx mn sd e0 e1 e2 e3 e4 e5 e6 e7 e8 e9 e10 fr_57 hd_58 nw_59 kp_60 pt_61 hr_62 lr_63)))))) ∧ (¬ r_56 = r_55 → (B_L_acts_258  Q  tl tx mn sd e0 e1 e2 e3 e4 e5 e6 e7 e8 e9 e10 fr_57 hd_58 nw_59 kp_60 pt_61 hr_62 lr_63)))))))) ∧ (¬ (v1 - v1 / (8 : Int32) * (8 : Int32)) = (4 : Int32) → (((v1 - v1 / (8 : Int32) * (8 : Int32)) = (5 : Int32) → (F_X5_ways s0 mn sd (fun r_68 mn_69 sd_70 => (¬ r_68 = 0 ∧ (F_X5_understood v2 s0 ((v1 >>> ((24 : Int32) &&& 31)) - (v1 >>> ((24 : Int32) &&& 31)) / r_68 * r_68) hr mn_69 sd_70 e0 e1 e2 e3 e4 e5 e6 e7 e8 e9 e10 (fun r_71 mn_72 sd_73 e0_74 e1_75 e2_76 e3_77 e4_78 e5_79 e6_80 e7_81 e8_82 e9_83 e10_84 => (F_L_isTyped s0 ((v1 >>> ((24 : Int32) &&& 31)) - (v1 >>> ((24 : Int32) &&& 31)) / r_68 * r_68) hr tl tx mn_72 sd_73 e0_74 e1_75 e2_76 e3_77 e4_78 e5_79 e6_80 e7_81 e8_82 e9_83 e10_84 (fun r_85 tl_86 tx_87 mn_88 sd_89 e0_90 e1_91 e2_92 e3_93 e4_94 e5_95 e6_96 e7_97 e8_98 e9_99 e10_100 => ((r_85 = 0 → (B_L_acts_369  Q  tl_86 tx_87 mn_88 sd_89 e0_90 e1_91 e2_92 e3_93 e4_94 e5_95 e6_96 e7_97 e8_98 e9_99 e10_100 fr hd nw kp pt hr lr)) ∧ (¬ r_85 = 0 → (F_X5_tellText v2 tl_86 tx_87 e0_90 e1_91 e2_92 e3_93 e4_94 e5_95 e6_96 e7_97 e8_98 e9_99 e10_100 fr hd nw kp pt hr lr (fun r_102 e0_103 e1_104 e2_105 e3_106 e4_107 e5_108 e6_109 e7_110 e8_111 e9_112 e10_113 fr_114 hd_115 nw_116 kp_117 pt_118 hr_119 lr_120 => ((r_71 = s0 → (B_L_acts_312  Q  s0 ((v1 >>> ((24 : Int32) &&& 31)) - (v1 >>> ((24 : Int32) &&& 31)) / r_68 * r_68) r_71 r_102 (1 : Int32) tl_86 tx_87 mn_88 sd_89 e0_103 e1_104 e2_105 e3_106 e4_107 e5_108 e6_109 e7_110 e8_111 e9_112 e10_113 fr_114 hd_115 nw_116 kp_117 pt_118 hr_119 lr_120)) ∧ (¬ r_71 = s0 → (B_L_acts_312  Q  s0 ((v1 >>> ((24 : Int32) &&& 31)) - (v1 >>> ((24 : Int32) &&& 31)) / r_68 * r_68) r_71 r_102 (0 : Int32) tl_86 tx_87 mn_88 sd_89 e0_103 e1_104 e2_105 e3_106 e4_107 e5_108 e6_109 e7_110 e8_111 e9_112 e10_113 fr_114 hd_115 nw_116 kp_117 pt_118 hr_119 lr_120))))))))))))))) ∧ (¬ (v1 - v1 / (8 : Int32) * (8 : Int32)) = (5 : Int32) → (F_L_isTold v2 s0 ((v1 >>> ((24 : Int32) &&& 31)) - (v1 >>> ((24 : Int32) &&& 31)) / (4 : Int32) * (4 : Int32)) mn sd e0 e1 e2 e3 e4 e5 e6 e7 e8 e9 e10 fr hd nw kp pt hr lr (fun r_122 mn_123 sd_124 e0_125 e1_126 e2_127 e3_128 e4_129 e5_130 e6_131 e7_132 e8_133 e9_134 e10_135 fr_136 hd_137 nw_138 kp_139 pt_140 hr_141 lr_142 => (isBo r_122 ∧ (Q r_122 tl tx mn_123 sd_124 e0_125 e1_126 e2_127 e3_128 e4_129 e5_130 e6_131 e7_132 e8_133 e9_134 e10_135 fr_136 hd_137 nw_138 kp_139 pt_140 hr_141 lr_142)))))))))))))))) := h
  refine g_istore C (lv2 := [(4, .int s0), (0, .ref (ad 0)), (1, .int v1), (2, .int v2), (3, .int v3)]) dL_acts_45 (by decide) rfl ?_
  refine g_iload_n C 2 dL_acts_47 rfl rfl ?_
  refine g_bipush C (8 : Int32) dL_acts_48 (by decide) ?_
  refine g_irem C dL_acts_50 (by decide) ?_
  by_cases c_25 : (v1 - v1 / (8 : Int32) * (8 : Int32)) = (0 : Int32)
  · refine g_tableIn C 37 88 dL_acts_51 (by rw [c_25]; decide) (by rw [c_25]; decide) (by rw [c_25]; decide) (by decide) ?_
    replace h := h.1 c_25
    refine g_aload_n C 1 dL_acts_88 rfl rfl ?_
    refine g_iload_n C 3 dL_acts_89 rfl rfl ?_
    refine g_iload_n C 4 dL_acts_90 rfl rfl ?_
    refine k_X5_learn C gL_acts_X5_learn ⟨Nat.le_of_ble_eq_true rfl, Nat.le_of_ble_eq_true rfl⟩ ⟨Nat.zero_le _, Nat.zero_le _⟩ (Nat.le_of_ble_eq_true rfl) dL_acts_91  h (fun r_26 fr_27 hd_28 nw_29 kp_30 pt_31 hr_32 lr_33 h => ?_)
    refine g_iconst C (1 : Int32) dL_acts_94 (by decide) ?_
    refine g_icmp_lt C 123 dL_acts_95 (by decide) (fun c_34 => ?_) (fun c_34 => ?_)
    · replace h := h.1 c_34
      exact g_sub [] rfl (t_B_L_acts_123 C hrt9 hlk  tl tx mn sd e0 e1 e2 e3 e4 e5 e6 e7 e8 e9 e10 fr_27 hd_28 nw_29 kp_30 pt_31 hr_32 lr_33  h)
    · replace h := h.2 c_34
      refine g_aload_n C 1 dL_acts_98 rfl rfl ?_
      refine g_iload_n C 3 dL_acts_99 rfl rfl ?_
      refine g_iload_n C 4 dL_acts_100 rfl rfl ?_
      refine k_X5_hearer C gL_acts_X5_hearer ⟨Nat.le_of_ble_eq_true rfl, Nat.le_of_ble_eq_true rfl⟩ ⟨Nat.zero_le _, Nat.zero_le _⟩ (Nat.le_of_ble_eq_true rfl) dL_acts_101  h (fun r_35 h => ?_)
      refine g_iconst C (1 : Int32) dL_acts_104 (by decide) ?_
      refine g_icmp_ne C 123 dL_acts_105 (by decide) (fun c_36 => ?_) (fun c_36 => ?_)
      · replace h := h.2 c_36
        exact g_sub [] rfl (t_B_L_acts_123 C hrt9 hlk  tl tx mn sd e0 e1 e2 e3 e4 e5 e6 e7 e8 e9 e10 fr_27 hd_28 nw_29 kp_30 pt_31 hr_32 lr_33  h)
      · replace h := h.1 c_36
        refine g_aload_n C 1 dL_acts_108 rfl rfl ?_
        refine g_iload_n C 3 dL_acts_109 rfl rfl ?_
        refine g_iconst C (3 : Int32) dL_acts_110 (by decide) ?_
        refine g_iload_n C 4 dL_acts_111 rfl rfl ?_
        refine g_iadd C dL_acts_112 ?_
        refine k_X5_hearer C gL_acts_X5_hearer ⟨Nat.le_of_ble_eq_true rfl, Nat.le_of_ble_eq_true rfl⟩ ⟨Nat.zero_le _, Nat.zero_le _⟩ (Nat.le_of_ble_eq_true rfl) dL_acts_113  h (fun r_37 h => ?_)
        refine g_if_ne C 123 dL_acts_116 (by decide) (fun c_38 => ?_) (fun c_38 => ?_)
        · replace h := h.2 c_38
          exact g_sub [] rfl (t_B_L_acts_123 C hrt9 hlk  tl tx mn sd e0 e1 e2 e3 e4 e5 e6 e7 e8 e9 e10 fr_27 hd_28 nw_29 kp_30 pt_31 hr_32 lr_33  h)
        · replace h := h.1 c_38
          refine g_iconst C (1 : Int32) dL_acts_119 (by decide) ?_
          refine g_goto C 124 dL_acts_120 (by decide) ?_
          exact g_sub [] rfl (t_B_L_acts_124 C hrt9 hlk  (1 : Int32) tl tx mn sd e0 e1 e2 e3 e4 e5 e6 e7 e8 e9 e10 fr_27 hd_28 nw_29 kp_30 pt_31 hr_32 lr_33  h)
  · replace h := h.2 c_25
    by_cases c_39 : (v1 - v1 / (8 : Int32) * (8 : Int32)) = (1 : Int32)
    · refine g_tableIn C 74 125 dL_acts_51 (by rw [c_39]; decide) (by rw [c_39]; decide) (by rw [c_39]; decide) (by decide) ?_
      replace h := h.1 c_39
      exact g_sub [1, 3, 4] rfl (t_B_L_acts_125 C hrt9 hlk  v2 v3 tl tx mn sd e0 e1 e2 e3 e4 e5 e6 e7 e8 e9 e10 fr hd nw kp pt hr lr  h)
    · replace h := h.2 c_39
      by_cases c_40 : (v1 - v1 / (8 : Int32) * (8 : Int32)) = (2 : Int32)
      · refine g_tableIn C 74 125 dL_acts_51 (by rw [c_40]; decide) (by rw [c_40]; decide) (by rw [c_40]; decide) (by decide) ?_
        replace h := h.1 c_40
        exact g_sub [1, 3, 4] rfl (t_B_L_acts_125 C hrt9 hlk  v2 v3 tl tx mn sd e0 e1 e2 e3 e4 e5 e6 e7 e8 e9 e10 fr hd nw kp pt hr lr  h)
      · replace h := h.2 c_40
        by_cases c_41 : (v1 - v1 / (8 : Int32) * (8 : Int32)) = (3 : Int32)
        · refine g_tableIn C 110 161 dL_acts_51 (by rw [c_41]; decide) (by rw [c_41]; decide) (by rw [c_41]; decide) (by decide) ?_
          replace h := h.1 c_41
          refine g_aload_n C 1 dL_acts_161 rfl rfl ?_
          refine g_iload_n C 3 dL_acts_162 rfl rfl ?_
          refine g_bipush C (6 : Int32) dL_acts_163 (by decide) ?_
          refine k_X5_hearer C gL_acts_X5_hearer ⟨Nat.le_of_ble_eq_true rfl, Nat.le_of_ble_eq_true rfl⟩ ⟨Nat.zero_le _, Nat.zero_le _⟩ (Nat.le_of_ble_eq_true rfl) dL_acts_165  h (fun r_42 h => ?_)
          refine g_istore C (lv2 := [(5, .int r_42), (4, .int s0), (0, .ref (ad 0)), (1, .int v1), (2, .int v2), (3, .int v3)]) dL_acts_168 (by decide) rfl ?_
          refine g_aload_n C 2 dL_acts_170 rfl rfl ?_
          refine g_iload_n C 4 dL_acts_171 rfl rfl ?_
          refine g_iconst C (1 : Int32) dL_acts_172 (by decide) ?_
          refine g_iload_n C 3 dL_acts_173 rfl rfl ?_
          refine g_bipush C (9 : Int32) dL_acts_174 (by decide) ?_
          refine g_ishr C dL_acts_176 ?_
          refine g_bipush C (12 : Int32) dL_acts_177 (by decide) ?_
          refine g_irem C dL_acts_179 (by decide) ?_
          refine g_iadd C dL_acts_180 ?_
          refine k_X5_attend C gL_acts_X5_attend ⟨Nat.le_of_ble_eq_true rfl, Nat.le_of_ble_eq_true rfl⟩ ⟨Nat.zero_le _, Nat.zero_le _⟩ (Nat.le_of_ble_eq_true rfl) dL_acts_181  h (fun r_43 fr_44 hd_45 nw_46 kp_47 pt_48 hr_49 lr_50 h => ?_)
          refine g_iload C 0 dL_acts_184 rfl ?_
          refine g_icmp_ne C 212 dL_acts_186 (by decide) (fun c_51 => ?_) (fun c_51 => ?_)
          · replace h := h.2 c_51
            exact g_sub [] rfl (t_B_L_acts_212 C hrt9 hlk  tl tx mn sd e0 e1 e2 e3 e4 e5 e6 e7 e8 e9 e10 fr_44 hd_45 nw_46 kp_47 pt_48 hr_49 lr_50  h)
          · replace h := h.1 c_51
            refine g_aload_n C 2 dL_acts_189 rfl rfl ?_
            refine g_iload_n C 4 dL_acts_190 rfl rfl ?_
            refine g_bipush C (6 : Int32) dL_acts_191 (by decide) ?_
            refine k_X5_hearer C gL_acts_X5_hearer ⟨Nat.le_of_ble_eq_true rfl, Nat.le_of_ble_eq_true rfl⟩ ⟨Nat.zero_le _, Nat.zero_le _⟩ (Nat.le_of_ble_eq_true rfl) dL_acts_193  h (fun r_52 h => ?_)
            refine g_iconst C (1 : Int32) dL_acts_196 (by decide) ?_
            refine g_iload_n C 3 dL_acts_197 rfl rfl ?_
            refine g_bipush C (9 : Int32) dL_acts_198 (by decide) ?_
            refine g_ishr C dL_acts_200 ?_
            refine g_bipush C (12 : Int32) dL_acts_201 (by decide) ?_
            refine g_irem C dL_acts_203 (by decide) ?_
            refine g_iadd C dL_acts_204 ?_
            refine g_icmp_ne C 212 dL_acts_205 (by decide) (fun c_53 => ?_) (fun c_53 => ?_)
            · replace h := h.2 c_53
              exact g_sub [] rfl (t_B_L_acts_212 C hrt9 hlk  tl tx mn sd e0 e1 e2 e3 e4 e5 e6 e7 e8 e9 e10 fr_44 hd_45 nw_46 kp_47 pt_48 hr_49 lr_50  h)
            · replace h := h.1 c_53
              refine g_iconst C (1 : Int32) dL_acts_208 (by decide) ?_
              refine g_goto C 213 dL_acts_209 (by decide) ?_
              exact g_sub [] rfl (t_B_L_acts_213 C hrt9 hlk  (1 : Int32) tl tx mn sd e0 e1 e2 e3 e4 e5 e6 e7 e8 e9 e10 fr_44 hd_45 nw_46 kp_47 pt_48 hr_49 lr_50  h)
        · replace h := h.2 c_41
          by_cases c_54 : (v1 - v1 / (8 : Int32) * (8 : Int32)) = (4 : Int32)
          · refine g_tableIn C 163 214 dL_acts_51 (by rw [c_54]; decide) (by rw [c_54]; decide) (by rw [c_54]; decide) (by decide) ?_
            replace h := h.1 c_54
            refine g_aload_n C 1 dL_acts_214 rfl rfl ?_
            refine k_X5_patience C gL_acts_X5_patience ⟨Nat.le_of_ble_eq_true rfl, Nat.le_of_ble_eq_true rfl⟩ ⟨Nat.zero_le _, Nat.zero_le _⟩ (Nat.le_of_ble_eq_true rfl) dL_acts_215  h (fun r_55 h => ?_)
            refine g_istore C (lv2 := [(6, .int r_55), (4, .int s0), (0, .ref (ad 0)), (1, .int v1), (2, .int v2), (3, .int v3)]) dL_acts_218 (by decide) rfl ?_
            refine g_aload_n C 2 dL_acts_220 rfl rfl ?_
            refine g_iconst C (1 : Int32) dL_acts_221 (by decide) ?_
            refine g_iload_n C 3 dL_acts_222 rfl rfl ?_
            refine g_bipush C (9 : Int32) dL_acts_223 (by decide) ?_
            refine g_ishr C dL_acts_225 ?_
            refine g_bipush C (9 : Int32) dL_acts_226 (by decide) ?_
            refine g_irem C dL_acts_228 (by decide) ?_
            refine g_iadd C dL_acts_229 ?_
            refine k_X5_set C gL_acts_X5_set ⟨Nat.le_of_ble_eq_true rfl, Nat.le_of_ble_eq_true rfl⟩ ⟨Nat.zero_le _, Nat.zero_le _⟩ (Nat.le_of_ble_eq_true rfl) dL_acts_230  h (fun r_56 fr_57 hd_58 nw_59 kp_60 pt_61 hr_62 lr_63 h => ?_)
            refine g_iload C 0 dL_acts_233 rfl ?_
            refine g_icmp_ne C 258 dL_acts_235 (by decide) (fun c_64 => ?_) (fun c_64 => ?_)
            · replace h := h.2 c_64
              exact g_sub [] rfl (t_B_L_acts_258 C hrt9 hlk  tl tx mn sd e0 e1 e2 e3 e4 e5 e6 e7 e8 e9 e10 fr_57 hd_58 nw_59 kp_60 pt_61 hr_62 lr_63  h)
            · replace h := h.1 c_64
              refine g_aload_n C 2 dL_acts_238 rfl rfl ?_
              refine k_X5_patience C gL_acts_X5_patience ⟨Nat.le_of_ble_eq_true rfl, Nat.le_of_ble_eq_true rfl⟩ ⟨Nat.zero_le _, Nat.zero_le _⟩ (Nat.le_of_ble_eq_true rfl) dL_acts_239  h (fun r_65 h => ?_)
              refine g_iconst C (1 : Int32) dL_acts_242 (by decide) ?_
              refine g_iload_n C 3 dL_acts_243 rfl rfl ?_
              refine g_bipush C (9 : Int32) dL_acts_244 (by decide) ?_
              refine g_ishr C dL_acts_246 ?_
              refine g_bipush C (9 : Int32) dL_acts_247 (by decide) ?_
              refine g_irem C dL_acts_249 (by decide) ?_
              refine g_iadd C dL_acts_250 ?_
              refine g_icmp_ne C 258 dL_acts_251 (by decide) (fun c_66 => ?_) (fun c_66 => ?_)
              · replace h := h.2 c_66
                exact g_sub [] rfl (t_B_L_acts_258 C hrt9 hlk  tl tx mn sd e0 e1 e2 e3 e4 e5 e6 e7 e8 e9 e10 fr_57 hd_58 nw_59 kp_60 pt_61 hr_62 lr_63  h)
              · replace h := h.1 c_66
                refine g_iconst C (1 : Int32) dL_acts_254 (by decide) ?_
                refine g_goto C 259 dL_acts_255 (by decide) ?_
                exact g_sub [] rfl (t_B_L_acts_259 C hrt9 hlk  (1 : Int32) tl tx mn sd e0 e1 e2 e3 e4 e5 e6 e7 e8 e9 e10 fr_57 hd_58 nw_59 kp_60 pt_61 hr_62 lr_63  h)
          · replace h := h.2 c_54
            by_cases c_67 : (v1 - v1 / (8 : Int32) * (8 : Int32)) = (5 : Int32)
            · refine g_tableIn C 209 260 dL_acts_51 (by rw [c_67]; decide) (by rw [c_67]; decide) (by rw [c_67]; decide) (by decide) ?_
              replace h := h.1 c_67
              refine g_iload_n C 2 dL_acts_260 rfl rfl ?_
              refine g_bipush C (24 : Int32) dL_acts_261 (by decide) ?_
              refine g_ishr C dL_acts_263 ?_
              refine g_aload_n C 1 dL_acts_264 rfl rfl ?_
              refine g_iload C 0 dL_acts_265 rfl ?_
              refine k_X5_ways C gL_acts_X5_ways ⟨Nat.le_of_ble_eq_true rfl, Nat.le_of_ble_eq_true rfl⟩ ⟨Nat.zero_le _, Nat.zero_le _⟩ (Nat.le_of_ble_eq_true rfl) dL_acts_267  h (fun r_68 mn_69 sd_70 h => ?_)
              refine g_irem C dL_acts_270 h.1 ?_
              replace h := h.2
              refine g_istore C (lv2 := [(7, .int ((v1 >>> ((24 : Int32) &&& 31)) - (v1 >>> ((24 : Int32) &&& 31)) / r_68 * r_68)), (4, .int s0), (0, .ref (ad 0)), (1, .int v1), (2, .int v2), (3, .int v3)]) dL_acts_271 (by decide) rfl ?_
              refine g_aload_n C 2 dL_acts_273 rfl rfl ?_
              refine g_iload_n C 4 dL_acts_274 rfl rfl ?_
              refine g_iload C 1 dL_acts_275 rfl ?_
              refine g_iload C 0 dL_acts_277 rfl ?_
              refine k_X5_understood C gL_acts_X5_understood ⟨Nat.le_of_ble_eq_true rfl, Nat.le_of_ble_eq_true rfl⟩ ⟨Nat.zero_le _, Nat.zero_le _⟩ (Nat.le_of_ble_eq_true rfl) dL_acts_279  h (fun r_71 mn_72 sd_73 e0_74 e1_75 e2_76 e3_77 e4_78 e5_79 e6_80 e7_81 e8_82 e9_83 e10_84 h => ?_)
              refine g_istore C (lv2 := [(8, .int r_71), (7, .int ((v1 >>> ((24 : Int32) &&& 31)) - (v1 >>> ((24 : Int32) &&& 31)) / r_68 * r_68)), (4, .int s0), (0, .ref (ad 0)), (1, .int v1), (2, .int v2), (3, .int v3)]) dL_acts_282 (by decide) rfl ?_
              refine g_aload_n C 3 dL_acts_284 rfl rfl ?_
              refine g_iload C 2 dL_acts_285 rfl ?_
              refine g_iload C 1 dL_acts_287 rfl ?_
              refine k_L_isTyped C gL_acts_L_isTyped ⟨Nat.le_of_ble_eq_true rfl, Nat.le_of_ble_eq_true rfl⟩ ⟨Nat.zero_le _, Nat.zero_le _⟩ (Nat.le_of_ble_eq_true rfl) dL_acts_289  h (fun r_85 tl_86 tx_87 mn_88 sd_89 e0_90 e1_91 e2_92 e3_93 e4_94 e5_95 e6_96 e7_97 e8_98 e9_99 e10_100 h => ?_)
              refine g_if_eq C 369 dL_acts_292 (by decide) (fun c_101 => ?_) (fun c_101 => ?_)
              · replace h := h.1 c_101
                exact g_sub [] rfl (t_B_L_acts_369 C hrt9 hlk  tl_86 tx_87 mn_88 sd_89 e0_90 e1_91 e2_92 e3_93 e4_94 e5_95 e6_96 e7_97 e8_98 e9_99 e10_100 fr hd nw kp pt hr lr  h)
              · replace h := h.2 c_101
                refine g_aload_n C 3 dL_acts_295 rfl rfl ?_
                refine g_iload_n C 5 dL_acts_296 rfl rfl ?_
                refine k_X5_tellText C gL_acts_X5_tellText ⟨Nat.le_of_ble_eq_true rfl, Nat.le_of_ble_eq_true rfl⟩ ⟨Nat.zero_le _, Nat.zero_le _⟩ (Nat.le_of_ble_eq_true rfl) dL_acts_297  h (fun r_102 e0_103 e1_104 e2_105 e3_106 e4_107 e5_108 e6_109 e7_110 e8_111 e9_112 e10_113 fr_114 hd_115 nw_116 kp_117 pt_118 hr_119 lr_120 h => ?_)
                refine g_iload C 0 dL_acts_300 rfl ?_
                refine g_iload C 2 dL_acts_302 rfl ?_
                refine g_icmp_ne C 311 dL_acts_304 (by decide) (fun c_121 => ?_) (fun c_121 => ?_)
                · replace h := h.2 c_121
                  refine g_iconst C (0 : Int32) dL_acts_311 (by decide) ?_
                  exact g_sub [3, 2, 1, 0] rfl (t_B_L_acts_312 C hrt9 hlk  s0 ((v1 >>> ((24 : Int32) &&& 31)) - (v1 >>> ((24 : Int32) &&& 31)) / r_68 * r_68) r_71 r_102 (0 : Int32) tl_86 tx_87 mn_88 sd_89 e0_103 e1_104 e2_105 e3_106 e4_107 e5_108 e6_109 e7_110 e8_111 e9_112 e10_113 fr_114 hd_115 nw_116 kp_117 pt_118 hr_119 lr_120  h)
                · replace h := h.1 c_121
                  refine g_iconst C (1 : Int32) dL_acts_307 (by decide) ?_
                  refine g_goto C 312 dL_acts_308 (by decide) ?_
                  exact g_sub [3, 2, 1, 0] rfl (t_B_L_acts_312 C hrt9 hlk  s0 ((v1 >>> ((24 : Int32) &&& 31)) - (v1 >>> ((24 : Int32) &&& 31)) / r_68 * r_68) r_71 r_102 (1 : Int32) tl_86 tx_87 mn_88 sd_89 e0_103 e1_104 e2_105 e3_106 e4_107 e5_108 e6_109 e7_110 e8_111 e9_112 e10_113 fr_114 hd_115 nw_116 kp_117 pt_118 hr_119 lr_120  h)
            · replace h := h.2 c_67
              have c_25t := lv_neT (a := 0) c_25 (by decide)
              have c_39t := lv_neT (a := 1) c_39 (by decide)
              have c_40t := lv_neT (a := 2) c_40 (by decide)
              have c_41t := lv_neT (a := 3) c_41 (by decide)
              have c_54t := lv_neT (a := 4) c_54 (by decide)
              have c_67t := lv_neT (a := 5) c_67 (by decide)
              refine g_tableOut C 371 dL_acts_51 (by omega) (by decide) ?_
              refine g_aload_n C 1 dL_acts_371 rfl rfl ?_
              refine g_iload_n C 3 dL_acts_372 rfl rfl ?_
              refine g_iload C 0 dL_acts_373 rfl ?_
              refine g_iload_n C 2 dL_acts_375 rfl rfl ?_
              refine g_bipush C (24 : Int32) dL_acts_376 (by decide) ?_
              refine g_ishr C dL_acts_378 ?_
              refine g_iconst C (4 : Int32) dL_acts_379 (by decide) ?_
              refine g_irem C dL_acts_380 (by decide) ?_
              refine k_L_isTold C gL_acts_L_isTold ⟨Nat.le_of_ble_eq_true rfl, Nat.le_of_ble_eq_true rfl⟩ ⟨Nat.zero_le _, Nat.zero_le _⟩ (Nat.le_of_ble_eq_true rfl) dL_acts_381  h (fun r_122 mn_123 sd_124 e0_125 e1_126 e2_127 e3_128 e4_129 e5_130 e6_131 e7_132 e8_133 e9_134 e10_135 fr_136 hd_137 nw_138 kp_139 pt_140 hr_141 lr_142 h => ?_)
              exact g_zret C hrt9 hlk h.1.n (u := (tl, tx, mn_123, sd_124, e0_125, e1_126, e2_127, e3_128, e4_129, e5_130, e6_131, e7_132, e8_133, e9_134, e10_135, fr_136, hd_137, nw_138, kp_139, pt_140, hr_141, lr_142)) rfl h.2 dL_acts_384
set_option maxHeartbeats 4000000 in
set_option maxRecDepth 100000 in
theorem t_B_L_acts_0  {Q : Int32 → Int32 → (Nat → Int32) → Int32 → (Nat → Int64) → Int32 → Int32 → Int32 → Int32 → Int32 → Int32 → Int32 → Int32 → Int32 → Int32 → Int32 → Int32 → Int32 → (Nat → Int32) → (Nat → Int32) → (Nat → Int32) → (Nat → Nat → Int32) → (Nat → Nat → Int32) → Prop} (C : CxX p s m args c D (tysX cA) RL cL_acts 9 wsL_acts) (hrt9 : meth.sig.returnType = (some .boolean)) (hlk : meth.locks = false) (v1 : Int32) (tl : Int32) (tx : (Nat → Int32)) (mn : Int32) (sd : (Nat → Int64)) (e0 : Int32) (e1 : Int32) (e2 : Int32) (e3 : Int32) (e4 : Int32) (e5 : Int32) (e6 : Int32) (e7 : Int32) (e8 : Int32) (e9 : Int32) (e10 : Int32) (fr : Int32) (hd : Int32) (nw : (Nat → Int32)) (kp : (Nat → Int32)) (pt : (Nat → Int32)) (hr : (Nat → Nat → Int32)) (lr : (Nat → Nat → Int32))  (h : B_L_acts_0  Q  v1 tl tx mn sd e0 e1 e2 e3 e4 e5 e6 e7 e8 e9 e10 fr hd nw kp pt hr lr) : GoX p l e rmL_acts s m args below meth c D A 9 0 0 (QP_L_acts D A ad cA  Q below args s) 0 [(0, .ref (ad 0)), (1, .int v1)] [] (WX ad cA tl tx mn sd e0 e1 e2 e3 e4 e5 e6 e7 e8 e9 e10 fr hd nw kp pt hr lr) := by
  replace h : ((((v1 >>> ((3 : Int32) &&& 31)) - (v1 >>> ((3 : Int32) &&& 31)) / (2 : Int32) * (2 : Int32)) = 0 → (B_L_acts_45  Q  v1 ((v1 >>> ((4 : Int32) &&& 31)) - (v1 >>> ((4 : Int32) &&& 31)) / (6 : Int32) * (6 : Int32)) ((v1 >>> ((7 : Int32) &&& 31)) - (v1 >>> ((7 : Int32) &&& 31)) / (3 : Int32) * (3 : Int32)) ((1 : Int32) + ((v1 >>> ((9 : Int32) &&& 31)) - (v1 >>> ((9 : Int32) &&& 31)) / (450 : Int32) * (450 : Int32))) tl tx mn sd e0 e1 e2 e3 e4 e5 e6 e7 e8 e9 e10 fr hd nw kp pt hr lr)) ∧ (¬ ((v1 >>> ((3 : Int32) &&& 31)) - (v1 >>> ((3 : Int32) &&& 31)) / (2 : Int32) * (2 : Int32)) = 0 → (B_L_acts_45  Q  v1 ((v1 >>> ((4 : Int32) &&& 31)) - (v1 >>> ((4 : Int32) &&& 31)) / (6 : Int32) * (6 : Int32)) ((v1 >>> ((7 : Int32) &&& 31)) - (v1 >>> ((7 : Int32) &&& 31)) / (3 : Int32) * (3 : Int32)) ((1 : Int32) + ((v1 >>> ((9 : Int32) &&& 31)) - (v1 >>> ((9 : Int32) &&& 31)) / (7999 : Int32) * (7999 : Int32))) tl tx mn sd e0 e1 e2 e3 e4 e5 e6 e7 e8 e9 e10 fr hd nw kp pt hr lr))) := h
  refine g_iload_n C 1 dL_acts_0 rfl rfl ?_
  refine g_iconst C (4 : Int32) dL_acts_1 (by decide) ?_
  refine g_ishr C dL_acts_2 ?_
  refine g_bipush C (6 : Int32) dL_acts_3 (by decide) ?_
  refine g_irem C dL_acts_5 (by decide) ?_
  refine g_istore_n C (lv2 := [(2, .int ((v1 >>> ((4 : Int32) &&& 31)) - (v1 >>> ((4 : Int32) &&& 31)) / (6 : Int32) * (6 : Int32))), (0, .ref (ad 0)), (1, .int v1)]) dL_acts_6 rfl (by decide) rfl ?_
  refine g_iload_n C 2 dL_acts_7 rfl rfl ?_
  refine g_bipush C (7 : Int32) dL_acts_8 (by decide) ?_
  refine g_ishr C dL_acts_10 ?_
  refine g_iconst C (3 : Int32) dL_acts_11 (by decide) ?_
  refine g_irem C dL_acts_12 (by decide) ?_
  refine g_istore_n C (lv2 := [(3, .int ((v1 >>> ((7 : Int32) &&& 31)) - (v1 >>> ((7 : Int32) &&& 31)) / (3 : Int32) * (3 : Int32))), (2, .int ((v1 >>> ((4 : Int32) &&& 31)) - (v1 >>> ((4 : Int32) &&& 31)) / (6 : Int32) * (6 : Int32))), (0, .ref (ad 0)), (1, .int v1)]) dL_acts_13 rfl (by decide) rfl ?_
  refine g_iload_n C 3 dL_acts_14 rfl rfl ?_
  refine g_iconst C (3 : Int32) dL_acts_15 (by decide) ?_
  refine g_ishr C dL_acts_16 ?_
  refine g_iconst C (2 : Int32) dL_acts_17 (by decide) ?_
  refine g_irem C dL_acts_18 (by decide) ?_
  refine g_if_ne C 35 dL_acts_19 (by decide) (fun c_143 => ?_) (fun c_143 => ?_)
  · replace h := h.2 c_143
    refine g_iconst C (1 : Int32) dL_acts_35 (by decide) ?_
    refine g_iload_n C 3 dL_acts_36 rfl rfl ?_
    refine g_bipush C (9 : Int32) dL_acts_37 (by decide) ?_
    refine g_ishr C dL_acts_39 ?_
    refine g_sipush C (7999 : Int32) dL_acts_40 (by decide) ?_
    refine g_irem C dL_acts_43 (by decide) ?_
    refine g_iadd C dL_acts_44 ?_
    exact g_sub [2, 3, 1, 0] rfl (t_B_L_acts_45 C hrt9 hlk  v1 ((v1 >>> ((4 : Int32) &&& 31)) - (v1 >>> ((4 : Int32) &&& 31)) / (6 : Int32) * (6 : Int32)) ((v1 >>> ((7 : Int32) &&& 31)) - (v1 >>> ((7 : Int32) &&& 31)) / (3 : Int32) * (3 : Int32)) ((1 : Int32) + ((v1 >>> ((9 : Int32) &&& 31)) - (v1 >>> ((9 : Int32) &&& 31)) / (7999 : Int32) * (7999 : Int32))) tl tx mn sd e0 e1 e2 e3 e4 e5 e6 e7 e8 e9 e10 fr hd nw kp pt hr lr  h)
  · replace h := h.1 c_143
    refine g_iconst C (1 : Int32) dL_acts_22 (by decide) ?_
    refine g_iload_n C 3 dL_acts_23 rfl rfl ?_
    refine g_bipush C (9 : Int32) dL_acts_24 (by decide) ?_
    refine g_ishr C dL_acts_26 ?_
    refine g_sipush C (450 : Int32) dL_acts_27 (by decide) ?_
    refine g_irem C dL_acts_30 (by decide) ?_
    refine g_iadd C dL_acts_31 ?_
    refine g_goto C 45 dL_acts_32 (by decide) ?_
    exact g_sub [2, 3, 1, 0] rfl (t_B_L_acts_45 C hrt9 hlk  v1 ((v1 >>> ((4 : Int32) &&& 31)) - (v1 >>> ((4 : Int32) &&& 31)) / (6 : Int32) * (6 : Int32)) ((v1 >>> ((7 : Int32) &&& 31)) - (v1 >>> ((7 : Int32) &&& 31)) / (3 : Int32) * (3 : Int32)) ((1 : Int32) + ((v1 >>> ((9 : Int32) &&& 31)) - (v1 >>> ((9 : Int32) &&& 31)) / (450 : Int32) * (450 : Int32))) tl tx mn sd e0 e1 e2 e3 e4 e5 e6 e7 e8 e9 e10 fr hd nw kp pt hr lr  h)
theorem c_L_acts (l : Launch) (D : va_G) (A : Nat → Prop) (ad : Nat → Nat) (cA : Nat → ClassId) (v1 : Int32) {tl : Int32} {tx : (Nat → Int32)} {mn : Int32} {sd : (Nat → Int64)} {e0 : Int32} {e1 : Int32} {e2 : Int32} {e3 : Int32} {e4 : Int32} {e5 : Int32} {e6 : Int32} {e7 : Int32} {e8 : Int32} {e9 : Int32} {e10 : Int32} {fr : Int32} {hd : Int32} {nw : (Nat → Int32)} {kp : (Nat → Int32)} {pt : (Nat → Int32)} {hr : (Nat → Nat → Int32)} {lr : (Nat → Nat → Int32)}  (Q : Int32 → Int32 → (Nat → Int32) → Int32 → (Nat → Int64) → Int32 → Int32 → Int32 → Int32 → Int32 → Int32 → Int32 → Int32 → Int32 → Int32 → Int32 → Int32 → Int32 → (Nat → Int32) → (Nat → Int32) → (Nat → Int32) → (Nat → Nat → Int32) → (Nat → Nat → Int32) → Prop) (h : F_L_acts v1 tl tx mn sd e0 e1 e2 e3 e4 e5 e6 e7 e8 e9 e10 fr hd nw kp pt hr lr Q) : Met l yL_acts wsL_acts rmL_acts (va_Pc [.ref (ad 0), .int v1] (OKX D (tysX cA) (WX ad cA tl tx mn sd e0 e1 e2 e3 e4 e5 e6 e7 e8 e9 e10 fr hd nw kp pt hr lr) A)) (QC_L_acts D A ad cA  Q) 0 0 A :=
  g_met (own := RL) (by decide) rfl rfl (Nat.le_of_ble_eq_true rfl) (fun p e s m below meth c C hrt9 hlk _ => g_sub [0, 1] rfl (t_B_L_acts_0 C hrt9 hlk v1 tl tx mn sd e0 e1 e2 e3 e4 e5 e6 e7 e8 e9 e10 fr hd nw kp pt hr lr  h))
theorem k_L_acts {ws : List Cond} {own : String} {cc : ByteArray} {nL pc index kc ks : Nat} {lv : List (Nat × Value)} {st : List Value} {Q : State → Prop} {R : Room} {K : Int32 → Int32 → (Nat → Int32) → Int32 → (Nat → Int64) → Int32 → Int32 → Int32 → Int32 → Int32 → Int32 → Int32 → Int32 → Int32 → Int32 → Int32 → Int32 → Int32 → (Nat → Int32) → (Nat → Int32) → (Nat → Int32) → (Nat → Nat → Int32) → (Nat → Nat → Int32) → Prop} {v1 : Int32} (C : CxX p s m args c D (tysX cA) own cc nL ws) (hT : GoodIn ws (va_wsS own index yL_acts wsL_acts)) (hR : rmL_acts.frames + 1 ≤ R.frames ∧ 8 + (9 + 11) + rmL_acts.locals ≤ R.locals) (hk9 : kc ≤ R.cells ∧ ks ≤ R.slots) (hcat : (st.map fun v => v.category).sum ≤ 8) (hdg : decode cc pc = .ok (.invokestatic index, 3))  (h : F_L_acts v1 tl tx mn sd e0 e1 e2 e3 e4 e5 e6 e7 e8 e9 e10 fr hd nw kp pt hr lr K) (kk : ∀ (r : Int32) (tlq : Int32) (txq : (Nat → Int32)) (mnq : Int32) (sdq : (Nat → Int64)) (e0q : Int32) (e1q : Int32) (e2q : Int32) (e3q : Int32) (e4q : Int32) (e5q : Int32) (e6q : Int32) (e7q : Int32) (e8q : Int32) (e9q : Int32) (e10q : Int32) (frq : Int32) (hdq : Int32) (nwq : (Nat → Int32)) (kpq : (Nat → Int32)) (ptq : (Nat → Int32)) (hrq : (Nat → Nat → Int32)) (lrq : (Nat → Nat → Int32)), K r tlq txq mnq sdq e0q e1q e2q e3q e4q e5q e6q e7q e8q e9q e10q frq hdq nwq kpq ptq hrq lrq → GoX p l e R s m args below meth c D A nL kc ks Q (pc + 3) lv (.int r :: st) (WX ad cA tlq txq mnq sdq e0q e1q e2q e3q e4q e5q e6q e7q e8q e9q e10q frq hdq nwq kpq ptq hrq lrq)) : GoX p l e R s m args below meth c D A nL kc ks Q pc lv (.int v1 :: .ref (ad 0) :: st) (WX ad cA tl tx mn sd e0 e1 e2 e3 e4 e5 e6 e7 e8 e9 e10 fr hd nw kp pt hr lr) :=
  g_callSi C (As := [.ref (ad 0), .int v1]) 2 (c_L_acts l D A ad cA v1  K h) hT rfl rfl rfl (by decide +kernel) hR hk9 rfl rfl hcat hdg (fun r u hu => kk r u.1 u.2.1 u.2.2.1 u.2.2.2.1 u.2.2.2.2.1 u.2.2.2.2.2.1 u.2.2.2.2.2.2.1 u.2.2.2.2.2.2.2.1 u.2.2.2.2.2.2.2.2.1 u.2.2.2.2.2.2.2.2.2.1 u.2.2.2.2.2.2.2.2.2.2.1 u.2.2.2.2.2.2.2.2.2.2.2.1 u.2.2.2.2.2.2.2.2.2.2.2.2.1 u.2.2.2.2.2.2.2.2.2.2.2.2.2.1 u.2.2.2.2.2.2.2.2.2.2.2.2.2.2.1 u.2.2.2.2.2.2.2.2.2.2.2.2.2.2.2.1 u.2.2.2.2.2.2.2.2.2.2.2.2.2.2.2.2.1 u.2.2.2.2.2.2.2.2.2.2.2.2.2.2.2.2.2.1 u.2.2.2.2.2.2.2.2.2.2.2.2.2.2.2.2.2.2.1 u.2.2.2.2.2.2.2.2.2.2.2.2.2.2.2.2.2.2.2.1 u.2.2.2.2.2.2.2.2.2.2.2.2.2.2.2.2.2.2.2.2.1 u.2.2.2.2.2.2.2.2.2.2.2.2.2.2.2.2.2.2.2.2.2 hu)
