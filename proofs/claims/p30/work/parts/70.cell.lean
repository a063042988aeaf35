/-! THE LAW'S CELL: a read of the script, or a number of its place -/
section CELL
variable {p : Program} {l : Launch} {e : Env} {R : Room} {s : State} {m : MethodId} {args : Array Value} {below : List Frame} {meth : Method} {c : Code} {Q : State → Prop}
variable {D : va_G} {A : Nat → Prop} {tys : List (ClassId × FieldType)} {own : String} {cc : ByteArray} {nL kc ks pc : Nat} {ws : List Cond} {lv : List (Nat × Value)} {st : List Value} {w : va_W}
abbrev rmL_cell : Room := { frames := 0, cells := 0, slots := 0, locals := 0 }
/-- the world, and the script beside it -/
def OKS (D : va_G) (tys : List (ClassId × FieldType)) (w : va_W) (A : Nat → Prop) (b L : Nat) (xs : Nat → Int32) (U : State) : Prop := OKX D tys w A U ∧ va_X b L xs U U.heap
theorem OKS_blind {b L : Nat} {xs : Nat → Int32} {av : List Value} : FrameBlind (va_Pc av (OKS D tys w A b L xs)) := fun a U g mk q =>
  ⟨q.1, ⟨q.2.1.1, va_K.moved (u := U) (U := U.calling g mk a) (Vm.Alike.refl U.vm) q.2.1.2.1, q.2.1.2.2⟩, va_X.moved (u := U) (U := U.calling g mk a) (Vm.Alike.refl U.vm) q.2.2⟩
theorem coL_7 : Cond.constant RL 7 (15485959 : Int32) ∈ wsL_cell := List.mem_of_getElem? (i := 1) rfl
theorem coL_8 : Cond.constant RL 8 (2147483647 : Int32) ∈ wsL_cell := List.mem_of_getElem? (i := 2) rfl
set_option maxHeartbeats 4000000 in
theorem c_L_cell (l : Launch) (D : va_G) (A : Nat → Prop) (tys : List (ClassId × FieldType)) (w : va_W) {b L : Nat} {xs : Nat → Int32} (hbA : ¬ A b) {k : Int32} (hk : ¬ k < 0) :
    Met l yL_cell wsL_cell rmL_cell (va_Pc [.ref b, .int k] (OKS D tys w A b L xs)) (va_Qi (fun r (_ : Unit) => r = cellV L xs k) (fun _ t => OKX D tys w A t) A) 0 0 A := by
  refine Met.ofW (cc := cL_cell) (maxL := 2) (ret := some .int) (by decide) rfl ?_
  intro p e s m args below meth c s₁ B hml hv
  obtain ⟨rfl, ⟨hP, hK, hD⟩, hX⟩ := hv
  have hown : s.vm.findClass RL = some m.cls := findClass_of_methodNamed B.named
  have hl := lv_entry [.ref b, .int k] (n := 2) (Nat.le_of_ble_eq_true rfl)
  rw [lg_entry_eq]
  have C : CxX p s m #[.ref b, .int k] c D tys RL cL_cell 2 wsL_cell := ⟨B.exec, B.bytes, hml, hown, atoms_spec (ws := wsL_cell) B.pre, hK⟩
  have hbl : b < s.heap.size := by
    obtain ⟨scr, h1, -⟩ := hX
    exact (Array.getElem?_eq_some_iff.mp h1).1
  have k20 : ∀ y : Int32, y &&& 2147483647 = cellV L xs k → GoX p l e rmL_cell s m #[.ref b, .int k] below meth c D A 2 0 0 (MQ below (va_Qi (fun r (_ : Unit) => r = cellV L xs k) (fun _ t => OKX D tys w A t) A) #[.ref b, .int k] s 0 0 A) 20 [(0, .ref b), (1, .int k)] [.int y] w := fun y hy => by
    refine g_ldc C coL_8 dL_cell_20 ?_
    refine g_iand C dL_cell_22 ?_
    exact g_iret C B.returns B.notSynchronized (Wu := fun _ : Unit => w) (u := ()) rfl hy dL_cell_23
  have hgo : GoX p l e rmL_cell s m #[.ref b, .int k] below meth c D A 2 0 0 (MQ below (va_Qi (fun r (_ : Unit) => r = cellV L xs k) (fun _ t => OKX D tys w A t) A) #[.ref b, .int k] s 0 0 A) 0 [(0, .ref b), (1, .int k)] [] w := by
    refine g_iload_n C 1 dL_cell_0 rfl rfl ?_
    refine g_aload_n C 0 dL_cell_1 rfl rfl ?_
    refine g_slen C hX hbl hbA dL_cell_2 ?_
    refine g_icmp_ge C 12 dL_cell_3 (by decide) (fun q => ?_) (fun q => ?_)
    · refine g_ldc C coL_7 dL_cell_12 ?_
      refine g_iload_n C 1 dL_cell_14 rfl rfl ?_
      refine g_imul C dL_cell_15 ?_
      refine g_sipush C (8688 : Int32) dL_cell_16 (by decide) ?_
      refine g_iadd C dL_cell_19 ?_
      refine k20 _ ?_
      unfold cellV
      rw [if_pos (show nI L ≤ k from q)]
    · have hin : vp_in k L := fun n => by
        rcases n with n | n
        · exact hk n
        · obtain ⟨j, hj, rfl⟩ := nI_of hk
          rw [nI_clamp hj] at n
          exact q (nI_le n hj)
      refine g_aload_n C 0 dL_cell_6 rfl rfl ?_
      refine g_iload_n C 1 dL_cell_7 rfl rfl ?_
      refine g_sld C hX hbl hbA hin dL_cell_8 ?_
      refine g_goto C 20 dL_cell_9 (by decide) ?_
      refine k20 _ ?_
      unfold cellV
      rw [if_neg (show ¬ nI L ≤ k from q)]
  exact hgo s.heap [] _ hP hD va_S.rf hl
theorem k_L_cell {index b L : Nat} {xs : Nat → Int32} {k : Int32} (C : CxX p s m args c D tys own cc nL ws) (hT : GoodIn ws (va_wsS own index yL_cell wsL_cell)) (hR : rmL_cell.frames + 1 ≤ R.frames ∧ 8 + (2 + 11) + rmL_cell.locals ≤ R.locals) (hk9 : kc ≤ R.cells ∧ ks ≤ R.slots) (hcat : (st.map fun v => v.category).sum ≤ 8) (hdg : decode cc pc = .ok (.invokestatic index, 3)) (hX : va_X b L xs s s.heap) (hbl : b < s.heap.size) (hbA : ¬ A b) (hk : ¬ k < 0)
    (kk : GoX p l e R s m args below meth c D A nL kc ks Q (pc + 3) lv (.int (cellV L xs k) :: st) w) : GoX p l e R s m args below meth c D A nL kc ks Q pc lv (.int k :: .ref b :: st) w := by
  intro H locs ls hP hD hS hl
  refine va_calli (va_runS (As := [.ref b, .int k]) (rest := st) ⟨C.1, C.2.1, C.2.2.1, C.2.2.2.1, C.2.2.2.2.1⟩ (c_L_cell l D A tys w (L := L) (xs := xs) hbA hk) (va_cwS 2 C.2.2.2.2.1 hT rfl rfl rfl (by decide +kernel) hR) ⟨OKS_blind, fun U hU hW => ⟨rfl, ⟨by rw [hU]; exact hP, va_K.moved hW.alike C.2.2.2.2.2, hD⟩, ?_⟩⟩ rfl rfl hl.1 rfl (lv_room hcat) hdg hk9) hS (fun _ _ h => h) (fun _ h => h) (fun r u t H1 locs1 ht hvm hp hB hz1 hk1 hS1 => ?_)
  · rw [hU]
    exact va_X.moved hW.alike (hX.kept (hS.2.1 b hbl hbA))
  · have hB1 := hB.1
    rw [ht] at hB1
    have hp : r = cellV L xs k := hp
    subst hp
    exact kk H1 locs1 ls hB1 hB.2.2 hS1 hl
end CELL
