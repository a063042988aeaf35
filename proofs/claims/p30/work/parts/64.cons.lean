/-! CONSTRUCTORS AND THE LAW: rows that make cells, and calls over one part of the world -/
theorem arrV_cong {cI : ClassId} {N : Nat} {f g : Nat → Value} (h : ∀ j, j < N → f j = g j) : arrV cI N f = arrV cI N g := by
  unfold arrV
  have e : (fun j : Fin N => f j.val) = (fun j : Fin N => g j.val) := funext fun j => h j.val j.isLt
  rw [e]
theorem vD_map {A : Nat → Prop} {ws ws2 : va_W} (h : va_D A ws) (e : ws2.map Prod.fst = ws.map Prod.fst) : va_D A ws2 := by
  have g : ∀ (k : Nat) (q : Nat × va_E), ws2[k]? = some q → ∃ q2 : Nat × va_E, ws[k]? = some q2 ∧ q2.1 = q.1 := by
    intro k q hk
    have h1 : (ws2.map Prod.fst)[k]? = some q.1 := by rw [List.getElem?_map, hk]; rfl
    rw [e, List.getElem?_map] at h1
    cases hq : ws[k]? with
    | none => rw [hq] at h1; cases h1
    | some q2 => rw [hq] at h1; exact ⟨q2, rfl, Option.some.inj h1⟩
  refine ⟨fun i j x y hi hj hxy => ?_, fun k q hk => ?_⟩
  · obtain ⟨x2, hx, ex⟩ := g i x hi
    obtain ⟨y2, hy, ey⟩ := g j y hj
    exact h.1 i j x2 y2 hx hy (by rw [ex, ey, hxy])
  · obtain ⟨q2, hq, eq⟩ := g k q hk
    rw [← eq]
    exact h.2 k q2 hq
theorem vP_all {D : va_G} {cl : List vw_C} {ws : va_W} {H : Heap} : va_P D cl ws H ↔ ∀ q ∈ ws, va_at D cl q H :=
  ⟨fun h q hq => by
    obtain ⟨k, hk⟩ := List.getElem?_of_mem hq
    exact h k q hk, fun h k q hk => h q (List.mem_of_getElem? hk)⟩
theorem va_AOA.moved {t : FieldType} {u U : State} (hvm : u.vm.Alike U.vm) (h : va_AOA t u) : va_AOA t U := by
  have h1 : (Cond.arrayOver (.array t)).before #[] (u.setVm U.vm) = true := by rw [Cond.arrayOver_setVmC hvm]; exact h
  unfold va_AOA
  simp only [Cond.before, Cond.holds, Cond.value] at h1 ⊢
  exact h1
/-- the array classes that constructors need -/
abbrev nsWays : Cond := .methodLinkNest RX5 33 yX4_init RX5
abbrev nsEar : Cond := .methodLinkNest RX5 40 yX0_init RX5
def KO (s : State) : Prop := va_AOA .int s ∧ va_AO "ScoreNumbers$State" s ∧ va_Nw nsWays s ∧ va_Nw nsEar s
theorem KO.warm {s U : State} (hW : s.WarmedH U.vm) (h : KO s) : KO U := ⟨h.1.moved hW.alike, h.2.1.moved hW.alike, h.2.2.1.warmM hW, h.2.2.2.warmM hW⟩
theorem KO.same {u U : State} (e : u.vm = U.vm) (h : KO u) : KO U := ⟨h.1.moved (by rw [e]; exact Vm.Alike.refl U.vm), h.2.1.moved (by rw [e]; exact Vm.Alike.refl U.vm), h.2.2.1.same rfl e, h.2.2.2.same rfl e⟩
def OKN (D : va_G) (tys : List (ClassId × FieldType)) (w : va_W) (sz : Nat) (U : State) : Prop := U.heap.size = sz ∧ KO U ∧ OKX D tys w (va_A w sz) U
theorem OKN_blind {D : va_G} {tys : List (ClassId × FieldType)} {w : va_W} {sz : Nat} {av : List Value} : FrameBlind (va_Pc av (OKN D tys w sz)) := fun a U g mk q => ⟨q.1, q.2.1, KO.same (u := U) (U := U.calling g mk a) rfl q.2.2.1, q.2.2.2.1, va_K.moved (u := U) (U := U.calling g mk a) (Vm.Alike.refl U.vm) q.2.2.2.2.1, q.2.2.2.2.2⟩
theorem w2_free {A0 : Nat → Prop} {wr wc : va_W} {H0 H : Heap} {locs : List Loc} (hD : va_D A0 (wr ++ wc)) (hS : va_S A0 H0 H locs) (hA : ∀ q, H0.size ≤ q → A0 q) : ∀ q, va_A wc H.size q → A0 q := by
  intro q h
  rcases h with ⟨k, e, h⟩ | h
  · exact hD.2 (wr.length + k) (q, e) (appL_get rfl h)
  · exact hA q (Nat.le_trans hS.1 h)
theorem w2_part {A0 : Nat → Prop} {wr wc : va_W} (hD : va_D A0 (wr ++ wc)) : va_D A0 wc :=
  ⟨fun i j x y hi hj hxy => by
    have := hD.1 (wr.length + i) (wr.length + j) x y (appL_get rfl hi) (appL_get rfl hj) hxy
    omega, fun k q hk => hD.2 (wr.length + k) q (appL_get rfl hk)⟩
theorem w2_join {A0 : Nat → Prop} {D : va_G} {cl : List vw_C} {wr wc w1 : va_W} {H H1 : Heap} (hP : va_P D cl (wr ++ wc) H) (hD : va_D A0 (wr ++ wc)) (hk : ∀ q : Nat, q < H.size → ¬ va_A wc H.size q → H1[q]? = H[q]?) (hF : ∀ q, va_A wc H.size q → A0 q) (hP1 : va_P D cl w1 H1) (hD1 : va_D (va_A wc H.size) w1) : va_P D cl (wr ++ w1) H1 ∧ va_D A0 (wr ++ w1) := by
  have hn : ∀ (k : Nat) (q : Nat × va_E), wr[k]? = some q → q.1 < H.size ∧ ¬ va_A wc H.size q.1 := by
    intro k q hq
    have h1 : (wr ++ wc)[k]? = some q := appL_get0 hq
    have hl := (hP k q h1).lt
    refine ⟨hl, fun h => ?_⟩
    rcases h with ⟨i, e, hi⟩ | h
    · have := hD.1 k (wr.length + i) q (q.1, e) h1 (appL_get rfl hi) rfl
      have hk : k < wr.length := (List.getElem?_eq_some_iff.mp hq).1
      omega
    · exact absurd h (Nat.not_le.mpr hl)
  refine ⟨va_P.app (fun k q hq => ?_) hP1, va_D.app ⟨fun i j x y hi hj hxy => hD.1 i j x y (appL_get0 hi) (appL_get0 hj) hxy, fun k q hq => hD.2 k q (appL_get0 hq)⟩ (hD1.weaken (fun _ _ _ h => hF _ h)) (fun i j x y hi hj hxy => ?_)⟩
  · exact (hP k q (appL_get0 hq)).kept (hk q.1 (hn k q hq).1 (hn k q hq).2)
  · exact (hn i x hi).2 (by rw [hxy]; exact hD1.2 j y hj)
theorem va_RA.uniq {s : State} {c1 c2 : ClassId} {ty : FieldType} (h1 : va_RA s c1 ty) (h2 : va_RA s c2 ty) : c1 = c2 := by
  cases ty with
  | object C =>
    obtain ⟨_, _, _, _, _, a⟩ := h1
    obtain ⟨_, _, _, _, _, b⟩ := h2
    exact Option.some.inj (a.symm.trans b)
  | _ => exact Option.some.inj (Eq.trans (Eq.symm h1) h2)
theorem va_K.last {D : va_G} {cl : List vw_C} {tys : List (ClassId × FieldType)} {c1 : ClassId} {ty : FieldType} {s : State} (h : va_K D cl (tys ++ [(c1, ty)]) s) : va_RA s c1 ty := (h.2 tys.length (c1, ty) (by rw [List.getElem?_append_right (Nat.le_refl _), Nat.sub_self]; rfl)).2
section CONS
variable {p : Program} {l : Launch} {e : Env} {R : Room} {s : State} {m : MethodId} {args : Array Value} {below : List Frame} {meth : Method} {c : Code} {Q : State → Prop}
variable {D : va_G} {A : Nat → Prop} {tys : List (ClassId × FieldType)} {own : String} {cc : ByteArray} {nL : Nat} {ws : List Cond} {kc ks : Nat} {pc : Nat} {lv lv2 : List (Nat × Value)} {st : List Value} {w w2 : va_W}
theorem g_re (hp : ∀ H, va_P D vwCl w H → va_P D vwCl w2 H) (hd : ∀ B : Nat → Prop, va_D B w → va_D B w2) (k : GoX p l e R s m args below meth c D A nL kc ks Q pc lv st w2) : GoX p l e R s m args below meth c D A nL kc ks Q pc lv st w := fun H locs ls hP hD hS hl => k H locs ls (hp H hP) (hd A hD) hS hl
theorem g_swap {wa wb : va_W} (k : GoX p l e R s m args below meth c D A nL kc ks Q pc lv st (wb ++ wa)) : GoX p l e R s m args below meth c D A nL kc ks Q pc lv st (wa ++ wb) := g_re (fun _ h => va_P.swap (a := []) (b := wa) (c := wb) h) (fun _ h => va_D.swap (a := []) (b := wa) (c := wb) h) k
theorem g_wide {k9 n9 : Nat} (h1 : kc ≤ k9) (h2 : ks ≤ n9) (k : GoX p l e R s m args below meth c D A nL k9 n9 Q pc lv st w) : GoX p l e R s m args below meth c D A nL kc ks Q pc lv st w := fun H locs ls hP hD hS hl => W.widen h1 h2 (k H locs ls hP hD hS hl)
theorem g_objInit (C : CxX p s m args c D tys own cc nL ws) {index a : Nat} (hlink : Cond.methodLink own index objectInit ∈ ws) (hin : Cond.instanceMethod objectInit ∈ ws) (hco : Cond.code objectInit ⟨#[0xb1]⟩ 1 none ∈ ws) (hf : 1 ≤ R.frames) (hloc : (st.map fun v => v.category).sum + 12 ≤ R.locals) (hdg : decode cc pc = .ok (.invokespecial index, 3)) (k : GoX p l e R s m args below meth c D A nL kc ks Q (pc + 3) lv st w) : GoX p l e R s m args below meth c D A nL kc ks Q pc lv (.ref a :: st) w := by
  intro H locs ls hP hD hS hl
  refine W.objInit C.1 C.2.1 C.2.2.2.1 (C.2.2.2.2.1 _ hlink) (C.2.2.2.2.1 _ hin) (C.2.2.2.2.1 _ hco) rfl (by rw [C.2.2.1]; exact hl.1) rfl hdg hf (by simpa [F0, JFrame.monitorRoom] using hloc) ?_
  refine W.eq (g2 := F0 m (pc + 3) ls st) rfl ?_
  exact k H locs ls hP hD hS hl
theorem g_new (C : CxX p s m args c D tys own cc nL ws) (hA : ∀ q, s.heap.size ≤ q → A q) {Cn : String} {T : u_T} {N ci index : Nat} (hin : ∀ q ∈ u_ws Cn T N, q ∈ ws) (ty0 : Nat → FieldType) (hty : ∀ k, k < N → parseFieldDescriptor (T k).2.2.1 = some (ty0 k)) (hcl : Cond.classLink own index Cn ∈ ws) (hinst : Cond.instantiable Cn N ∈ ws) (hini : Cond.initialized Cn ∈ ws) (hc : vwCl[ci]? = some (Cn, T, N)) (fs : List Value) (hfs : ∀ j, j < N → defaultValue (ty0 j) = vp_V fs j) (h1 : kc + 1 ≤ R.cells) (h2 : ks + N ≤ R.slots) (hdg : decode cc pc = .ok (.new index, 3)) (k : ∀ q : Nat, GoX p l e R s m args below meth c D A nL (kc + 1) (ks + N) Q (pc + 3) lv (.ref q :: st) (w ++ [(q, .inr (ci, fs))])) : GoX p l e R s m args below meth c D A nL kc ks Q pc lv st w := by
  intro H locs ls hP hD hS hl
  exact va_new (ci := ci) (fs := fs) C.1 C.2.1 C.2.2.2.2.1 hin ty0 hty C.2.2.2.1 (C.2.2.2.2.1 _ hcl) (C.2.2.2.2.1 _ hinst) (C.2.2.2.2.1 _ hini) C.2.2.2.2.2 hP hD hS hA hc hfs h1 h2 hdg (fun q H1 hP1 hD1 hS1 => k q H1 locs ls hP1 hD1 hS1 hl)
theorem g_newa (C : CxX p s m args c D tys own cc nL ws) (hA : ∀ q, s.heap.size ≤ q → A q) {atype : ArrayType} (hac : Cond.arrayClass (newarray.typeOf atype) ∈ ws) {ty : FieldType} (hty : newarray.typeOf atype = ty) (t0 : Nat) {cB : ClassId} (ht : tys[t0]? = some (cB, ty)) {n : Int32} (N' : Nat) (a0 : vp_A) (ha : ∀ cX : ClassId, vp_cell cX a0 = arrV cX N' (fun _ => defaultValue ty)) (hn : ¬ n < 0) (hN : n.toNatClampNeg = N') (hby : N' * componentBytes ty ≤ 536870912) (h1 : kc + 1 ≤ R.cells) (h2 : ks + N' ≤ R.slots) (hdg : decode cc pc = .ok (.newarray atype, 2)) (k : ∀ q : Nat, GoX p l e R s m args below meth c D A nL (kc + 1) (ks + N') Q (pc + 2) lv (.ref q :: st) (w ++ [(q, .inl (cB, a0))])) : GoX p l e R s m args below meth c D A nL kc ks Q pc lv (.int n :: st) w := by
  intro H locs ls hP hD hS hl
  refine va_newa C.1 C.2.1 (C.2.2.2.2.1 _ hac) hty C.2.2.2.2.2 hP hD hS hA ha hn hN hby h1 h2 hdg (fun q c1 H1 hK1 hP1 hD1 hS1 => ?_)
  have e : c1 = cB := va_RA.uniq hK1.last (C.2.2.2.2.2.2 t0 _ ht).2
  subst e
  exact k q H1 locs ls hP1 hD1 hS1 hl
theorem g_newq (C : CxX p s m args c D tys own cc nL ws) (hA : ∀ q, s.heap.size ≤ q → A q) {Cn : String} {index : Nat} (hlink : Cond.classLink own index Cn ∈ ws) (hov : va_AO Cn s) (t0 : Nat) {cB : ClassId} (ht : tys[t0]? = some (cB, .object Cn)) {n : Int32} (N' : Nat) (hn : ¬ n < 0) (hN : n.toNatClampNeg = N') (hby : N' * 4 ≤ 536870912) (h1 : kc + 1 ≤ R.cells) (h2 : ks + N' ≤ R.slots) (hdg : decode cc pc = .ok (.anewarray index, 3)) (k : ∀ q : Nat, GoX p l e R s m args below meth c D A nL (kc + 1) (ks + N') Q (pc + 3) lv (.ref q :: st) (w ++ [(q, .inl (cB, N', .inr (.inr (.inr (.inr (fun _ => none))))))])) : GoX p l e R s m args below meth c D A nL kc ks Q pc lv (.int n :: st) w := by
  intro H locs ls hP hD hS hl
  refine va_newq C.1 C.2.1 C.2.2.2.1 (C.2.2.2.2.1 _ hlink) hov C.2.2.2.2.2 hP hD hS hA hn hN hby h1 h2 hdg (fun q c1 H1 hK1 hP1 hD1 hS1 => ?_)
  have e : c1 = cB := va_RA.uniq hK1.last (C.2.2.2.2.2.2 t0 _ ht).2
  subst e
  exact k q H1 locs ls hP1 hD1 hS1 hl
theorem g_astq (C : CxX p s m args c D tys own cc nL ws) (q0 t0 qk ci : Nat) {cB : ClassId} {r : vw_C} {a n v : Nat} {vs : List Value} {f : Nat → Option Nat} (ha : w[q0]? = some (a, .inl (cB, n, .inr (.inr (.inr (.inr f)))))) (ht : tys[t0]? = some (cB, .object r.1)) (hv : w[qk]? = some (v, .inr (ci, vs))) (hc : vwCl[ci]? = some r) {i : Int32} (hin : vp_in i n) (hw : w.set q0 (a, .inl (cB, n, .inr (.inr (.inr (.inr (va_up f i.toNatClampNeg (some v))))))) = w2) (hdg : decode cc pc = .ok (.aastore, 1)) (k : GoX p l e R s m args below meth c D A nL kc ks Q (pc + 1) lv st w2) : GoX p l e R s m args below meth c D A nL kc ks Q pc lv (.ref v :: .int i :: .ref a :: st) w := by
  intro H locs ls hP hD hS hl
  subst hw
  exact va_astq C.1 C.2.1 C.2.2.2.2.2 hP hD hS q0 t0 qk ci ha ht hv hc hin hdg (fun H1 locs1 hP1 hD1 hS1 => k H1 locs1 ls hP1 hD1 hS1 hl)
theorem g_mna (C : CxX p s m args c D tys own cc nL ws) (hA : ∀ q, s.heap.size ≤ q → A q) {index : Nat} (hlink : Cond.classLink own index "[[I" ∈ ws) (hov : va_AOA .int s) (hac : Cond.arrayClass .int ∈ ws) (t0 t1 : Nat) {cI cO : ClassId} (ht : tys[t0]? = some (cI, .int)) (ht1 : tys[t1]? = some (cO, .array .int)) {n k9 : Int32} (N' K' : Nat) (hn : ¬ n < 0) (hk9 : ¬ k9 < 0) (hN : n.toNatClampNeg = N') (hM : k9.toNatClampNeg = K') (hb1 : N' * 4 ≤ 536870912) (hb2 : K' * componentBytes .int ≤ 536870912) (hb3 : K' ≤ 536870912) (h1 : kc + (1 + N') ≤ R.cells) (h2 : ks + (N' + N' * K') ≤ R.slots) (hdg : decode cc pc = .ok (.multianewarray index 2, 4)) (k : ∀ (q : Nat) (r : Nat → Nat), GoX p l e R s m args below meth c D A nL (kc + 1 + N') (ks + N' + N' * K') Q (pc + 4) lv (.ref q :: st) (w ++ ((q, .inl (cO, N', .inr (.inr (.inr (.inr (fun i => some (r i))))))) :: poolX N' r (fun _ => .inl (cI, K', .inl (fun _ => 0)))))) : GoX p l e R s m args below meth c D A nL kc ks Q pc lv (.int k9 :: .int n :: st) w := by
  intro H locs ls hP hD hS hl
  have hcy : s.vm.findClass (FieldType.array .int).toString = some cI := (C.2.2.2.2.2.2 t0 _ ht).2
  have hP0 : va_P D vwCl (w ++ va_pl [] (fun _ => .inl (cI, K', .inl (fun _ => 0)))) H := by
    show va_P D vwCl (w ++ []) H
    rw [List.append_nil]
    exact hP
  have hD0 : va_D A (w ++ va_pl [] (fun _ => .inl (cI, K', .inl (fun _ => 0)))) := by
    show va_D A (w ++ [])
    rw [List.append_nil]
    exact hD
  refine va_mna (X := w) (L := []) (f := fun _ => .inl (cI, K', .inl (fun _ => 0))) (z := (K', .inl (fun _ => 0))) (cy := cI) C.1 C.2.1 C.2.2.2.1 (C.2.2.2.2.1 _ hlink) hov (C.2.2.2.2.1 _ hac) hcy C.2.2.2.2.2 hP0 hD0 hS hA hn hk9 hN hM hb1 hb2 hb3 rfl rfl h1 h2 (fun cX => ?_) hdg (fun q r c1 H1 _ _ hK1 hP1 hD1 hS1 => ?_)
  · show ({ cls := cX, slots := Array.replicate K' (.int 0), vm := .none } : Cell) = _
    rw [arrV_new]
    rfl
  · have e : c1 = cO := va_RA.uniq hK1.last (C.2.2.2.2.2.2 t1 _ ht1).2
    subst e
    have ep : va_pl ([] ++ (List.range N').map r) (vr_up (fun _ => .inl (cI, K', .inl (fun _ => 0))) ((List.range N').map r) (.inl (cI, K', .inl (fun _ => 0)))) = poolX N' r (fun _ => .inl (cI, K', .inl (fun _ => 0))) := by
      rw [List.nil_append]
      unfold va_pl poolX
      rw [List.map_map]
      apply List.map_congr_left
      intro i hi
      show (r i, vr_up _ _ _ (r i)) = _
      rw [vr_up_in (List.mem_map_of_mem hi)]
    rw [ep] at hP1 hD1
    refine k q r H1 locs ls ?_ ?_ hS1 hl
    · rw [vP_all] at hP1 ⊢
      intro x hx
      rcases List.mem_append.mp hx with hx | hx
      · exact hP1 x (List.mem_append_left _ (List.mem_append_left _ hx))
      · rcases List.mem_cons.mp hx with hx | hx
        · subst hx
          have h0 := hP1 _ (List.mem_append_left _ (List.mem_append_right _ (List.mem_singleton.mpr rfl)))
          have h0 : H1[q]? = some (arrV c1 N' (fun j => va_rf (if j < N' then some (r j) else none))) := h0
          show H1[q]? = some (arrV c1 N' (fun j => va_rf (some (r j))))
          rw [h0, arrV_cong (fun j hj => by rw [if_pos hj])]
        · exact hP1 x (List.mem_append_right _ hx)
    · refine vD_map hD1 ?_
      rw [List.map_append, List.map_append, List.map_append, List.append_assoc]
      rfl
theorem g_vretN {S : Type} {Wu : S → va_W} (C : CxX p s m args c D tys own cc nL ws) (hr : meth.sig.returnType = none) (hlk : meth.locks = false) {post : S → Prop} (u : S) (hw : Wu u = w) (hp : post u) (hdg : decode cc pc = .ok (.return_, 1)) : GoX p l e R s m args below meth c D A nL kc ks (MQ below (va_Qv post (fun u t => OKX D tys (Wu u) A t) A) args s kc ks A) pc lv [] w := by
  intro H locs ls hP hD hS hl
  subst hw
  exact W.vret C.1 C.2.1 hr (fun t ht hW => ⟨⟨u, rfl, hp, by rw [ht]; exact hP, va_K.moved hW.alike C.2.2.2.2.2, hD⟩, hS.F ht⟩) hS.2.2 hdg hlk
theorem g_metI {l : Launch} {D : va_G} {tys : List (ClassId × FieldType)} {own : String} {y : MethodName} {wsy wsy2 : List Cond} {rm : Room} {cc : ByteArray} {maxL : Nat} {av : List Value} {w : va_W} {mc ms : Nat} {Qc : Nat → Array Value → State → Outcome → State → Prop} (hy : plainName y.cls = true) (hyo : y.cls = own) (hw : wsy = Cond.code y cc maxL none :: wsy2) (hnm : y.name = "<init>") (hlg : (lg_sl av).length ≤ maxL)
    (body : ∀ (p : Program) (e : Env) (s : State) (m : MethodId) (below : List Frame) (meth : Method) (c : Code), CxX p s m av.toArray c D tys own cc maxL wsy → meth.sig.returnType = none → meth.locks = false → meth.name = "<init>" → KO s → (∀ q, s.heap.size ≤ q → va_A w s.heap.size q) → GoX p l e rm s m av.toArray below meth c D (va_A w s.heap.size) maxL 0 0 (MQ below (Qc s.heap.size) av.toArray s mc ms (va_A w s.heap.size)) 0 (lv_args 0 av) [] w) (sz : Nat) : Met l y wsy rm (va_Pc av (OKN D tys w sz)) (Qc sz) mc ms (va_A w sz) := by
  refine Met.ofW (cc := cc) (maxL := maxL) (ret := none) hy hw ?_
  intro p e s m args below meth c s₁ B hml hv
  obtain ⟨rfl, hsz, hO, hP, hK, hD⟩ := hv
  subst hsz
  have hown : s.vm.findClass own = some m.cls := by rw [← hyo]; exact findClass_of_methodNamed B.named
  have hin : meth.name = "<init>" := by rw [← hnm]; exact (name_of_methodNamed B.named B.method).1
  have hl := lv_entry av (n := maxL) hlg
  rw [lg_entry_eq]
  exact body p e s m below meth c ⟨B.exec, B.bytes, hml, hown, atoms_spec (ws := wsy) B.pre, hK⟩ B.returns B.notSynchronized hin hO (fun q h => Or.inr h) s.heap [] _ hP hD va_S.rf hl
theorem g_callI {S : Type} {Wu : S → va_W} (C : CxX p s m args c D tys own cc nL ws) (hO : KO s) (hA : ∀ q, s.heap.size ≤ q → A q) {b : Nat} {y : MethodName} {wsy wsy2 : List Cond} {bytes : ByteArray} {maxL : Nat} {rm : Room} {index mc ms : Nat} {post : S → Prop} {wc : va_W} (hM : ∀ sz, Met l y wsy rm (va_Pc [.ref b] (OKN D tys wc sz)) (va_Qv post (fun u t => OKX D tys (Wu u) (va_A wc sz) t) (va_A wc sz)) mc ms (va_A wc sz)) (hT : GoodIn ws wsy) (hwy : wsy = Cond.code y bytes maxL none :: wsy2) (hrc : rm.cells = mc) (hrs : rm.slots = ms) (hini : Cond.initialized y.cls ∈ ws) (hlink : Cond.methodLink own index y ∈ ws) (hinst : Cond.instanceMethod y ∈ ws) (hnm : y.name = "<init>") (hd : y.cls ≠ "java/lang/invoke/MethodHandle" ∧ y.cls ≠ "java/lang/invoke/VarHandle" ∧ (parseMethodDescriptor y.desc).map (fun d => d.parameters.length) = some 0) (hR : rm.frames + 1 ≤ R.frames ∧ 8 + (maxL + 11) + rm.locals ≤ R.locals) (hcat : (st.map fun v => v.category).sum ≤ 8) (hf : kc + mc ≤ R.cells ∧ ks + ms ≤ R.slots) (hdg : decode cc pc = .ok (.invokespecial index, 3)) (kk : ∀ u : S, post u → GoX p l e R s m args below meth c D A nL (kc + mc) (ks + ms) Q (pc + 3) lv st (w ++ Wu u)) : GoX p l e R s m args below meth c D A nL kc ks Q pc lv (.ref b :: st) (w ++ wc) := by
  intro H locs ls hP hD hS hl
  have hF := w2_free hD hS hA
  have hDc : va_D (va_A wc H.size) wc := (w2_part hD).self
  have hPc : va_P D vwCl wc H := fun k q hq => hP (w.length + k) q (appL_get rfl hq)
  refine va_callv (va_runI (As := []) (rest := st) ⟨C.1, C.2.1, C.2.2.1, C.2.2.2.1, C.2.2.2.2.1⟩ (hM H.size) (cwI 0 C.2.2.2.2.1 hT hwy hrc hrs (C.2.2.2.2.1 _ hini) (C.2.2.2.2.1 _ hlink) (C.2.2.2.2.1 _ hinst) hnm hd hR) ⟨OKN_blind, fun U hU hW => ⟨rfl, by rw [hU], hO.warm hW, by rw [hU]; exact hPc, va_K.moved hW.alike C.2.2.2.2.2, hDc⟩⟩ rfl rfl hl.1 rfl (lv_room hcat) hdg hf) hS (fun q _ h => hF q h) hF (fun u t H1 locs1 ht hvm hp hB hz1 hk1 hS1 => ?_)
  have hB1 := hB.1
  rw [ht] at hB1
  obtain ⟨j1, j2⟩ := w2_join hP hD hk1 hF hB1 hB.2.2
  exact kk u hp H1 locs1 ls j1 j2 hS1 hl
theorem g_callIN {S : Type} {Wu : S → va_W} (C : CxX p s m args c D tys own cc nL ws) (hO : KO s) (hA : ∀ q, s.heap.size ≤ q → A q) {b : Nat} {y : MethodName} {wsy wsy2 : List Cond} {bytes : ByteArray} {maxL : Nat} {rm : Room} {index mc ms : Nat} {post : S → Prop} {wc : va_W} (hM : ∀ sz, Met l y wsy rm (va_Pc [.ref b] (OKN D tys wc sz)) (va_Qv post (fun u t => OKX D tys (Wu u) (va_A wc sz) t) (va_A wc sz)) mc ms (va_A wc sz)) (hT : GoodIn ws wsy) (hwy : wsy = Cond.code y bytes maxL none :: wsy2) (hrc : rm.cells = mc) (hrs : rm.slots = ms) (hini : Cond.initialized y.cls ∈ ws) {host : String} (hlink : va_Nw (.methodLinkNest own index y host) s) (hinst : Cond.instanceMethod y ∈ ws) (hnm : y.name = "<init>") (hd : y.cls ≠ "java/lang/invoke/MethodHandle" ∧ y.cls ≠ "java/lang/invoke/VarHandle" ∧ (parseMethodDescriptor y.desc).map (fun d => d.parameters.length) = some 0) (hR : rm.frames + 1 ≤ R.frames ∧ 8 + (maxL + 11) + rm.locals ≤ R.locals) (hcat : (st.map fun v => v.category).sum ≤ 8) (hf : kc + mc ≤ R.cells ∧ ks + ms ≤ R.slots) (hdg : decode cc pc = .ok (.invokespecial index, 3)) (kk : ∀ u : S, post u → GoX p l e R s m args below meth c D A nL (kc + mc) (ks + ms) Q (pc + 3) lv st (w ++ Wu u)) : GoX p l e R s m args below meth c D A nL kc ks Q pc lv (.ref b :: st) (w ++ wc) := by
  intro H locs ls hP hD hS hl
  have hF := w2_free hD hS hA
  have hDc : va_D (va_A wc H.size) wc := (w2_part hD).self
  have hPc : va_P D vwCl wc H := fun k q hq => hP (w.length + k) q (appL_get rfl hq)
  refine va_callv (va_runIN (As := []) (rest := st) ⟨C.1, C.2.1, C.2.2.1, C.2.2.2.1, C.2.2.2.2.1⟩ (hM H.size) ⟨va_cnB 0 C.2.2.2.2.1 hT hwy hrc hrs hlink (C.2.2.2.2.1 _ hini) hd hR, hnm, C.2.2.2.2.1 _ hinst⟩ ⟨OKN_blind, fun U hU hW => ⟨rfl, by rw [hU], hO.warm hW, by rw [hU]; exact hPc, va_K.moved hW.alike C.2.2.2.2.2, hDc⟩⟩ rfl rfl hl.1 rfl (lv_room hcat) hdg hf) hS (fun q _ h => hF q h) hF (fun u t H1 locs1 ht hvm hp hB hz1 hk1 hS1 => ?_)
  have hB1 := hB.1
  rw [ht] at hB1
  obtain ⟨j1, j2⟩ := w2_join hP hD hk1 hF hB1 hB.2.2
  exact kk u hp H1 locs1 ls j1 j2 hS1 hl
theorem g_sld (C : CxX p s m args c D tys own cc nL ws) {b L : Nat} {xs : Nat → Int32} (hX : va_X b L xs s s.heap) (hbl : b < s.heap.size) (hbA : ¬ A b) {i : Int32} (hin : vp_in i L) (hdg : decode cc pc = .ok (.iaload, 1)) (k : GoX p l e R s m args below meth c D A nL kc ks Q (pc + 1) lv (.int (xs i.toNatClampNeg) :: st) w) : GoX p l e R s m args below meth c D A nL kc ks Q pc lv (.int i :: .ref b :: st) w := fun H locs ls hP hD hS hl => va_sld C.1 C.2.1 hX hbl hbA hS hin hdg (k H locs ls hP hD hS hl)
theorem g_slen (C : CxX p s m args c D tys own cc nL ws) {b L : Nat} {xs : Nat → Int32} (hX : va_X b L xs s s.heap) (hbl : b < s.heap.size) (hbA : ¬ A b) (hdg : decode cc pc = .ok (.arraylength, 1)) (k : GoX p l e R s m args below meth c D A nL kc ks Q (pc + 1) lv (.int (Int32.ofNat L) :: st) w) : GoX p l e R s m args below meth c D A nL kc ks Q pc lv (.ref b :: st) w := fun H locs ls hP hD hS hl => va_slen C.1 C.2.1 hX hbl hbA hS hdg (k H locs ls hP hD hS hl)
theorem g_call2i {S : Type} {Wu : S → va_W} (C : CxX p s m args c D tys own cc nL ws) (hA : ∀ q, s.heap.size ≤ q → A q) {Cn : String} {T : u_T} {N ci b : Nat} {y : MethodName} {wsy wsy2 : List Cond} {bytes : ByteArray} {maxL : Nat} {ret : Option FieldType} {rm : Room} {index : Nat} {As : List Value} {post : Int32 → S → Prop} {wc : va_W} (n9 : Nat) (hM : ∀ A1 : Nat → Prop, Met l y wsy rm (va_Pc (.ref b :: As) (OKX D tys wc A1)) (va_Qi post (fun u t => OKX D tys (Wu u) A1 t) A1) 0 0 A1) (hT : GoodIn ws (wsV own index Cn y wsy)) (hwy : wsy = Cond.code y bytes maxL ret :: wsy2) (hrc : rm.cells = 0) (hrs : rm.slots = 0) (hd : y.cls = Cn ∧ y.cls ≠ "java/lang/invoke/MethodHandle" ∧ y.cls ≠ "java/lang/invoke/VarHandle" ∧ (parseMethodDescriptor y.desc).map (fun d => d.parameters.length) = some n9) (hR : rm.frames + 1 ≤ R.frames ∧ 8 + (maxL + 11) + rm.locals ≤ R.locals) (q0 : Nat) {fs : List Value} (he : wc[q0]? = some (b, .inr (ci, fs))) (hc : vwCl[ci]? = some (Cn, T, N)) {stk : List Value} (hst : stk = As.reverse ++ .ref b :: st) (hlen : As.length = n9) (hcat : (st.map fun v => v.category).sum ≤ 8) (hkc : kc ≤ R.cells) (hks : ks ≤ R.slots) (hdg : decode cc pc = .ok (.invokevirtual index, 3)) (kk : ∀ (r : Int32) (u : S), post r u → GoX p l e R s m args below meth c D A nL kc ks Q (pc + 3) lv (.int r :: st) (w ++ Wu u)) : GoX p l e R s m args below meth c D A nL kc ks Q pc lv stk (w ++ wc) := by
  intro H locs ls hP hD hS hl
  have hF := w2_free hD hS hA
  have hDc : va_D (va_A wc H.size) wc := (w2_part hD).self
  have hPc : va_P D vwCl wc H := fun k q hq => hP (w.length + k) q (appL_get rfl hq)
  refine va_calli (va_runV (As := As) (rest := st) ⟨C.1, C.2.1, C.2.2.1, C.2.2.2.1, C.2.2.2.2.1⟩ (hM (va_A wc H.size)) (cwV n9 C.2.2.2.2.1 hT hwy hrc hrs hd hR) ⟨OKX_blind, va_recv C.2.2.2.2.2 hPc hc he, fun U hU hW => ⟨rfl, by rw [hU]; exact hPc, va_K.moved hW.alike C.2.2.2.2.2, hDc⟩⟩ rfl hlen hl.1 hst (lv_room hcat) hdg ⟨hkc, hks⟩) hS (fun q _ h => hF q h) hF (fun r u t H1 locs1 ht hvm hp hB hz1 hk1 hS1 => ?_)
  have hB1 := hB.1
  rw [ht] at hB1
  obtain ⟨j1, j2⟩ := w2_join hP hD hk1 hF hB1 hB.2.2
  exact kk r u hp H1 locs1 ls j1 j2 hS1 hl
theorem g_call2f {S : Type} {Wu : S → va_W} (C : CxX p s m args c D tys own cc nL ws) (hA : ∀ q, s.heap.size ≤ q → A q) {Cn : String} {T : u_T} {N ci b : Nat} {y : MethodName} {wsy wsy2 : List Cond} {bytes : ByteArray} {maxL : Nat} {ret : Option FieldType} {rm : Room} {index : Nat} {As : List Value} {post : UInt32 → S → Prop} {wc : va_W} (n9 : Nat) (hM : ∀ A1 : Nat → Prop, Met l y wsy rm (va_Pc (.ref b :: As) (OKX D tys wc A1)) (va_Qf post (fun u t => OKX D tys (Wu u) A1 t) A1) 0 0 A1) (hT : GoodIn ws (wsV own index Cn y wsy)) (hwy : wsy = Cond.code y bytes maxL ret :: wsy2) (hrc : rm.cells = 0) (hrs : rm.slots = 0) (hd : y.cls = Cn ∧ y.cls ≠ "java/lang/invoke/MethodHandle" ∧ y.cls ≠ "java/lang/invoke/VarHandle" ∧ (parseMethodDescriptor y.desc).map (fun d => d.parameters.length) = some n9) (hR : rm.frames + 1 ≤ R.frames ∧ 8 + (maxL + 11) + rm.locals ≤ R.locals) (q0 : Nat) {fs : List Value} (he : wc[q0]? = some (b, .inr (ci, fs))) (hc : vwCl[ci]? = some (Cn, T, N)) {stk : List Value} (hst : stk = As.reverse ++ .ref b :: st) (hlen : As.length = n9) (hcat : (st.map fun v => v.category).sum ≤ 8) (hkc : kc ≤ R.cells) (hks : ks ≤ R.slots) (hdg : decode cc pc = .ok (.invokevirtual index, 3)) (kk : ∀ (r : UInt32) (u : S), post r u → GoX p l e R s m args below meth c D A nL kc ks Q (pc + 3) lv (.float r :: st) (w ++ Wu u)) : GoX p l e R s m args below meth c D A nL kc ks Q pc lv stk (w ++ wc) := by
  intro H locs ls hP hD hS hl
  have hF := w2_free hD hS hA
  have hDc : va_D (va_A wc H.size) wc := (w2_part hD).self
  have hPc : va_P D vwCl wc H := fun k q hq => hP (w.length + k) q (appL_get rfl hq)
  refine va_callf (va_runV (As := As) (rest := st) ⟨C.1, C.2.1, C.2.2.1, C.2.2.2.1, C.2.2.2.2.1⟩ (hM (va_A wc H.size)) (cwV n9 C.2.2.2.2.1 hT hwy hrc hrs hd hR) ⟨OKX_blind, va_recv C.2.2.2.2.2 hPc hc he, fun U hU hW => ⟨rfl, by rw [hU]; exact hPc, va_K.moved hW.alike C.2.2.2.2.2, hDc⟩⟩ rfl hlen hl.1 hst (lv_room hcat) hdg ⟨hkc, hks⟩) hS (fun q _ h => hF q h) hF (fun r u t H1 locs1 ht hvm hp hB hz1 hk1 hS1 => ?_)
  have hB1 := hB.1
  rw [ht] at hB1
  obtain ⟨j1, j2⟩ := w2_join hP hD hk1 hF hB1 hB.2.2
  exact kk r u hp H1 locs1 ls j1 j2 hS1 hl
end CONS
