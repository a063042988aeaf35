/-! ROW LAYER: GoX is W for every heap that holds the world w and every locals array that holds lv. -/
abbrev vwCl : List vw_C := [(RX0, TX0, 11), (RX1, TX1, 3), (RX3, TX3, 5), (RX4, TX4, 2), (RX5, TX5, 6)]
variable {p : Program} {l : Launch} {e : Env} {R : Room} {s : State} {m : MethodId} {args : Array Value} {below : List Frame} {meth : Method} {c : Code} {Q : State → Prop}
variable {D : va_G} {A : Nat → Prop} {tys : List (ClassId × FieldType)} {own : String} {cc : ByteArray} {nL : Nat} {ws : List Cond} {kc ks : Nat} {pc : Nat} {lv lv2 : List (Nat × Value)} {st : List Value} {w w2 : va_W}
def CxX (p : Program) (s : State) (m : MethodId) (args : Array Value) (c : Code) (D : va_G) (tys : List (ClassId × FieldType)) (own : String) (cc : ByteArray) (nL : Nat) (ws : List Cond) : Prop :=
  p.tables.exec = Jvm.exec ∧ c.code = cc ∧ c.maxLocals = nL ∧ s.vm.findClass own = some m.cls ∧ (∀ q ∈ ws, q.before args s = true) ∧ va_K D vwCl tys s
def GoX (p : Program) (l : Launch) (e : Env) (R : Room) (s : State) (m : MethodId) (args : Array Value) (below : List Frame) (meth : Method) (c : Code) (D : va_G) (A : Nat → Prop) (nL kc ks : Nat) (Q : State → Prop) (pc : Nat) (lv : List (Nat × Value)) (st : List Value) (w : va_W) : Prop :=
  ∀ (H : Heap) (locs : List Loc) (ls : Array Slot), va_P D vwCl w H → va_D A w → va_S A s.heap H locs → lv_has ls nL lv → W p l e R s m args below meth c H locs kc ks Q (F0 m pc ls st)
def OKX (D : va_G) (tys : List (ClassId × FieldType)) (w : va_W) (A : Nat → Prop) (U : State) : Prop := va_P D vwCl w U.heap ∧ va_K D vwCl tys U ∧ va_D A w
theorem OKX_blind {D : va_G} {tys : List (ClassId × FieldType)} {w : va_W} {A : Nat → Prop} {av : List Value} : FrameBlind (va_Pc av (OKX D tys w A)) := fun a U g mk q => ⟨q.1, q.2.1, va_K.moved (u := U) (U := U.calling g mk a) (Vm.Alike.refl U.vm) q.2.2.1, q.2.2.2⟩
theorem vp_lt {i : Int32} {n : Nat} (h : vp_in i n) : i.toNatClampNeg < n := Nat.not_le.mp fun q => h (Or.inr q)
abbrev lvF (i : Nat) (lv : List (Nat × Value)) : List (Nat × Value) := lv.filter (fun q => !(q.1 == i) && !(q.1 + 1 == i && q.2.category == 2))
abbrev lvF2 (i : Nat) (lv : List (Nat × Value)) : List (Nat × Value) := lv.filter (fun q => !(q.1 == i) && (!(q.1 == i + 1) && !(q.1 + 1 == i && q.2.category == 2)))
theorem g_iconst (C : CxX p s m args c D tys own cc nL ws) {z : Int} (v : Int32) (hdg : decode cc pc = .ok (.iconst z, 1)) (hv : Int32.ofInt z = v) (k : GoX p l e R s m args below meth c D A nL kc ks Q (pc + 1) lv (.int v :: st) w) : GoX p l e R s m args below meth c D A nL kc ks Q pc lv st w := by
  intro H locs ls hP hD hS hl
  exact lv_iconst C.1 C.2.1 hdg hv (k H locs ls hP hD hS hl)
theorem g_bipush (C : CxX p s m args c D tys own cc nL ws) {z : Int} (v : Int32) (hdg : decode cc pc = .ok (.bipush z, 2)) (hv : (Int8.ofInt z).toInt32 = v) (k : GoX p l e R s m args below meth c D A nL kc ks Q (pc + 2) lv (.int v :: st) w) : GoX p l e R s m args below meth c D A nL kc ks Q pc lv st w := by
  intro H locs ls hP hD hS hl
  exact lv_bipush C.1 C.2.1 hdg hv (k H locs ls hP hD hS hl)
theorem g_sipush (C : CxX p s m args c D tys own cc nL ws) {z : Int} (v : Int32) (hdg : decode cc pc = .ok (.sipush z, 3)) (hv : (Int16.ofInt z).toInt32 = v) (k : GoX p l e R s m args below meth c D A nL kc ks Q (pc + 3) lv (.int v :: st) w) : GoX p l e R s m args below meth c D A nL kc ks Q pc lv st w := by
  intro H locs ls hP hD hS hl
  exact lv_sipush C.1 C.2.1 hdg hv (k H locs ls hP hD hS hl)
theorem g_lconst (C : CxX p s m args c D tys own cc nL ws) {z : Fin 2} (v : Int64) (hdg : decode cc pc = .ok (.lconst z, 1)) (hv : Int64.ofNat (z : Nat) = v) (k : GoX p l e R s m args below meth c D A nL kc ks Q (pc + 1) lv (.long v :: st) w) : GoX p l e R s m args below meth c D A nL kc ks Q pc lv st w := by
  intro H locs ls hP hD hS hl
  exact lv_lconst C.1 C.2.1 hdg hv (k H locs ls hP hD hS hl)
theorem g_fconst1 (C : CxX p s m args c D tys own cc nL ws)  (hdg : decode cc pc = .ok (.fconst 1, 1)) (k : GoX p l e R s m args below meth c D A nL kc ks Q (pc + 1) lv (.float FP.fconst1 :: st) w) : GoX p l e R s m args below meth c D A nL kc ks Q pc lv st w := by
  intro H locs ls hP hD hS hl
  exact lv_fconst1 C.1 C.2.1 hdg (k H locs ls hP hD hS hl)
theorem g_iload_n (C : CxX p s m args c D tys own cc nL ws) {k9 : Fin 4} {i : Nat} {x : Int32} (q0 : Nat) (hdg : decode cc pc = .ok (.iload_n k9, 1)) (hi : (k9 : Nat) = i) (hk : lv[q0]? = some (i, .int x)) (k : GoX p l e R s m args below meth c D A nL kc ks Q (pc + 1) lv (.int x :: st) w) : GoX p l e R s m args below meth c D A nL kc ks Q pc lv st w := by
  intro H locs ls hP hD hS hl
  exact lv_iload_n C.1 C.2.1 hdg hi (lv_at hl q0 hk) (k H locs ls hP hD hS hl)
theorem g_iload (C : CxX p s m args c D tys own cc nL ws) {i : Nat} {x : Int32} (q0 : Nat) (hdg : decode cc pc = .ok (.iload i, 2)) (hk : lv[q0]? = some (i, .int x)) (k : GoX p l e R s m args below meth c D A nL kc ks Q (pc + 2) lv (.int x :: st) w) : GoX p l e R s m args below meth c D A nL kc ks Q pc lv st w := by
  intro H locs ls hP hD hS hl
  exact lv_iload C.1 C.2.1 hdg (lv_at hl q0 hk) (k H locs ls hP hD hS hl)
theorem g_lload_n (C : CxX p s m args c D tys own cc nL ws) {k9 : Fin 4} {i : Nat} {x : Int64} (q0 : Nat) (hdg : decode cc pc = .ok (.lload_n k9, 1)) (hi : (k9 : Nat) = i) (hk : lv[q0]? = some (i, .long x)) (k : GoX p l e R s m args below meth c D A nL kc ks Q (pc + 1) lv (.long x :: st) w) : GoX p l e R s m args below meth c D A nL kc ks Q pc lv st w := by
  intro H locs ls hP hD hS hl
  exact lv_lload_n C.1 C.2.1 hdg hi (lv_at hl q0 hk) (k H locs ls hP hD hS hl)
theorem g_lload (C : CxX p s m args c D tys own cc nL ws) {i : Nat} {x : Int64} (q0 : Nat) (hdg : decode cc pc = .ok (.lload i, 2)) (hk : lv[q0]? = some (i, .long x)) (k : GoX p l e R s m args below meth c D A nL kc ks Q (pc + 2) lv (.long x :: st) w) : GoX p l e R s m args below meth c D A nL kc ks Q pc lv st w := by
  intro H locs ls hP hD hS hl
  exact lv_lload C.1 C.2.1 hdg (lv_at hl q0 hk) (k H locs ls hP hD hS hl)
theorem g_aload_n (C : CxX p s m args c D tys own cc nL ws) {k9 : Fin 4} {i : Nat} {x : Nat} (q0 : Nat) (hdg : decode cc pc = .ok (.aload_n k9, 1)) (hi : (k9 : Nat) = i) (hk : lv[q0]? = some (i, .ref x)) (k : GoX p l e R s m args below meth c D A nL kc ks Q (pc + 1) lv (.ref x :: st) w) : GoX p l e R s m args below meth c D A nL kc ks Q pc lv st w := by
  intro H locs ls hP hD hS hl
  exact lv_aload_n C.1 C.2.1 hdg hi (lv_at hl q0 hk) (k H locs ls hP hD hS hl)
theorem g_aload (C : CxX p s m args c D tys own cc nL ws) {i : Nat} {x : Nat} (q0 : Nat) (hdg : decode cc pc = .ok (.aload i, 2)) (hk : lv[q0]? = some (i, .ref x)) (k : GoX p l e R s m args below meth c D A nL kc ks Q (pc + 2) lv (.ref x :: st) w) : GoX p l e R s m args below meth c D A nL kc ks Q pc lv st w := by
  intro H locs ls hP hD hS hl
  exact lv_aload C.1 C.2.1 hdg (lv_at hl q0 hk) (k H locs ls hP hD hS hl)
theorem g_fload_n (C : CxX p s m args c D tys own cc nL ws) {k9 : Fin 4} {i : Nat} {x : UInt32} (q0 : Nat) (hdg : decode cc pc = .ok (.fload_n k9, 1)) (hi : (k9 : Nat) = i) (hk : lv[q0]? = some (i, .float x)) (k : GoX p l e R s m args below meth c D A nL kc ks Q (pc + 1) lv (.float x :: st) w) : GoX p l e R s m args below meth c D A nL kc ks Q pc lv st w := by
  intro H locs ls hP hD hS hl
  exact lv_fload_n C.1 C.2.1 hdg hi (lv_at hl q0 hk) (k H locs ls hP hD hS hl)
theorem g_fload (C : CxX p s m args c D tys own cc nL ws) {i : Nat} {x : UInt32} (q0 : Nat) (hdg : decode cc pc = .ok (.fload i, 2)) (hk : lv[q0]? = some (i, .float x)) (k : GoX p l e R s m args below meth c D A nL kc ks Q (pc + 2) lv (.float x :: st) w) : GoX p l e R s m args below meth c D A nL kc ks Q pc lv st w := by
  intro H locs ls hP hD hS hl
  exact lv_fload C.1 C.2.1 hdg (lv_at hl q0 hk) (k H locs ls hP hD hS hl)
theorem g_dload_n (C : CxX p s m args c D tys own cc nL ws) {k9 : Fin 4} {i : Nat} {x : UInt64} (q0 : Nat) (hdg : decode cc pc = .ok (.dload_n k9, 1)) (hi : (k9 : Nat) = i) (hk : lv[q0]? = some (i, .double x)) (k : GoX p l e R s m args below meth c D A nL kc ks Q (pc + 1) lv (.double x :: st) w) : GoX p l e R s m args below meth c D A nL kc ks Q pc lv st w := by
  intro H locs ls hP hD hS hl
  exact lv_dload_n C.1 C.2.1 hdg hi (lv_at hl q0 hk) (k H locs ls hP hD hS hl)
theorem g_dload (C : CxX p s m args c D tys own cc nL ws) {i : Nat} {x : UInt64} (q0 : Nat) (hdg : decode cc pc = .ok (.dload i, 2)) (hk : lv[q0]? = some (i, .double x)) (k : GoX p l e R s m args below meth c D A nL kc ks Q (pc + 2) lv (.double x :: st) w) : GoX p l e R s m args below meth c D A nL kc ks Q pc lv st w := by
  intro H locs ls hP hD hS hl
  exact lv_dload C.1 C.2.1 hdg (lv_at hl q0 hk) (k H locs ls hP hD hS hl)
theorem g_istore_n (C : CxX p s m args c D tys own cc nL ws) {k9 : Fin 4} {i : Nat} {x : Int32} (hdg : decode cc pc = .ok (.istore_n k9, 1)) (hi : (k9 : Nat) = i) (hn : i < nL) (hv : (i, Value.int x) :: lvF i lv = lv2) (k : GoX p l e R s m args below meth c D A nL kc ks Q (pc + 1) lv2 st w) : GoX p l e R s m args below meth c D A nL kc ks Q pc lv (.int x :: st) w := by
  intro H locs ls hP hD hS hl
  exact lv_istore_n C.1 C.2.1 hdg hi hl hn hv (fun ls2 hl2 => k H locs ls2 hP hD hS hl2)
theorem g_istore (C : CxX p s m args c D tys own cc nL ws) {i : Nat} {x : Int32} (hdg : decode cc pc = .ok (.istore i, 2)) (hn : i < nL) (hv : (i, Value.int x) :: lvF i lv = lv2) (k : GoX p l e R s m args below meth c D A nL kc ks Q (pc + 2) lv2 st w) : GoX p l e R s m args below meth c D A nL kc ks Q pc lv (.int x :: st) w := by
  intro H locs ls hP hD hS hl
  exact lv_istore C.1 C.2.1 hdg hl hn hv (fun ls2 hl2 => k H locs ls2 hP hD hS hl2)
theorem g_lstore_n (C : CxX p s m args c D tys own cc nL ws) {k9 : Fin 4} {i : Nat} {x : Int64} (hdg : decode cc pc = .ok (.lstore_n k9, 1)) (hi : (k9 : Nat) = i) (hn : i + 1 < nL) (hv : (i, Value.long x) :: lvF2 i lv = lv2) (k : GoX p l e R s m args below meth c D A nL kc ks Q (pc + 1) lv2 st w) : GoX p l e R s m args below meth c D A nL kc ks Q pc lv (.long x :: st) w := by
  intro H locs ls hP hD hS hl
  exact lv_lstore_n C.1 C.2.1 hdg hi hl hn hv (fun ls2 hl2 => k H locs ls2 hP hD hS hl2)
theorem g_lstore (C : CxX p s m args c D tys own cc nL ws) {i : Nat} {x : Int64} (hdg : decode cc pc = .ok (.lstore i, 2)) (hn : i + 1 < nL) (hv : (i, Value.long x) :: lvF2 i lv = lv2) (k : GoX p l e R s m args below meth c D A nL kc ks Q (pc + 2) lv2 st w) : GoX p l e R s m args below meth c D A nL kc ks Q pc lv (.long x :: st) w := by
  intro H locs ls hP hD hS hl
  exact lv_lstore C.1 C.2.1 hdg hl hn hv (fun ls2 hl2 => k H locs ls2 hP hD hS hl2)
theorem g_astore_n (C : CxX p s m args c D tys own cc nL ws) {k9 : Fin 4} {i : Nat} {x : Nat} (hdg : decode cc pc = .ok (.astore_n k9, 1)) (hi : (k9 : Nat) = i) (hn : i < nL) (hv : (i, Value.ref x) :: lvF i lv = lv2) (k : GoX p l e R s m args below meth c D A nL kc ks Q (pc + 1) lv2 st w) : GoX p l e R s m args below meth c D A nL kc ks Q pc lv (.ref x :: st) w := by
  intro H locs ls hP hD hS hl
  exact lv_astore_n C.1 C.2.1 hdg hi hl hn hv (fun ls2 hl2 => k H locs ls2 hP hD hS hl2)
theorem g_astore (C : CxX p s m args c D tys own cc nL ws) {i : Nat} {x : Nat} (hdg : decode cc pc = .ok (.astore i, 2)) (hn : i < nL) (hv : (i, Value.ref x) :: lvF i lv = lv2) (k : GoX p l e R s m args below meth c D A nL kc ks Q (pc + 2) lv2 st w) : GoX p l e R s m args below meth c D A nL kc ks Q pc lv (.ref x :: st) w := by
  intro H locs ls hP hD hS hl
  exact lv_astore C.1 C.2.1 hdg hl hn hv (fun ls2 hl2 => k H locs ls2 hP hD hS hl2)
theorem g_dstore_n (C : CxX p s m args c D tys own cc nL ws) {k9 : Fin 4} {i : Nat} {x : UInt64} (hdg : decode cc pc = .ok (.dstore_n k9, 1)) (hi : (k9 : Nat) = i) (hn : i + 1 < nL) (hv : (i, Value.double x) :: lvF2 i lv = lv2) (k : GoX p l e R s m args below meth c D A nL kc ks Q (pc + 1) lv2 st w) : GoX p l e R s m args below meth c D A nL kc ks Q pc lv (.double x :: st) w := by
  intro H locs ls hP hD hS hl
  exact lv_dstore_n C.1 C.2.1 hdg hi hl hn hv (fun ls2 hl2 => k H locs ls2 hP hD hS hl2)
theorem g_dstore (C : CxX p s m args c D tys own cc nL ws) {i : Nat} {x : UInt64} (hdg : decode cc pc = .ok (.dstore i, 2)) (hn : i + 1 < nL) (hv : (i, Value.double x) :: lvF2 i lv = lv2) (k : GoX p l e R s m args below meth c D A nL kc ks Q (pc + 2) lv2 st w) : GoX p l e R s m args below meth c D A nL kc ks Q pc lv (.double x :: st) w := by
  intro H locs ls hP hD hS hl
  exact lv_dstore C.1 C.2.1 hdg hl hn hv (fun ls2 hl2 => k H locs ls2 hP hD hS hl2)
theorem g_fstore_n (C : CxX p s m args c D tys own cc nL ws) {k9 : Fin 4} {i : Nat} {x : UInt32} (hdg : decode cc pc = .ok (.fstore_n k9, 1)) (hi : (k9 : Nat) = i) (hn : i < nL) (hv : (i, Value.float x) :: lvF i lv = lv2) (k : GoX p l e R s m args below meth c D A nL kc ks Q (pc + 1) lv2 st w) : GoX p l e R s m args below meth c D A nL kc ks Q pc lv (.float x :: st) w := by
  intro H locs ls hP hD hS hl
  exact lv_fstore_n C.1 C.2.1 hdg hi hl hn hv (fun ls2 hl2 => k H locs ls2 hP hD hS hl2)
theorem g_fstore (C : CxX p s m args c D tys own cc nL ws) {i : Nat} {x : UInt32} (hdg : decode cc pc = .ok (.fstore i, 2)) (hn : i < nL) (hv : (i, Value.float x) :: lvF i lv = lv2) (k : GoX p l e R s m args below meth c D A nL kc ks Q (pc + 2) lv2 st w) : GoX p l e R s m args below meth c D A nL kc ks Q pc lv (.float x :: st) w := by
  intro H locs ls hP hD hS hl
  exact lv_fstore C.1 C.2.1 hdg hl hn hv (fun ls2 hl2 => k H locs ls2 hP hD hS hl2)
theorem g_iinc (C : CxX p s m args c D tys own cc nL ws) {i : Nat} {z : Int} {x v : Int32} (q0 : Nat) (hdg : decode cc pc = .ok (.iinc i z, 3)) (hk : lv[q0]? = some (i, .int x)) (hx : x + Int32.ofInt z = v) (hn : i < nL) (hv : (i, Value.int v) :: lvF i lv = lv2) (k : GoX p l e R s m args below meth c D A nL kc ks Q (pc + 3) lv2 st w) : GoX p l e R s m args below meth c D A nL kc ks Q pc lv st w := by
  intro H locs ls hP hD hS hl
  exact lv_iinc C.1 C.2.1 hdg hl hk hx hn hv (fun ls2 hl2 => k H locs ls2 hP hD hS hl2)
theorem g_iincW (C : CxX p s m args c D tys own cc nL ws) {i : Nat} {z : Int} {x v : Int32} (q0 : Nat) (hdg : decode cc pc = .ok (.iinc i z, 6)) (hk : lv[q0]? = some (i, .int x)) (hx : x + Int32.ofInt z = v) (hn : i < nL) (hv : (i, Value.int v) :: lvF i lv = lv2) (k : GoX p l e R s m args below meth c D A nL kc ks Q (pc + 6) lv2 st w) : GoX p l e R s m args below meth c D A nL kc ks Q pc lv st w := by
  intro H locs ls hP hD hS hl
  exact lv_iincW C.1 C.2.1 hdg hl hk hx hn hv (fun ls2 hl2 => k H locs ls2 hP hD hS hl2)
theorem g_iadd (C : CxX p s m args c D tys own cc nL ws) {x y : Int32} (hdg : decode cc pc = .ok (.iadd, 1)) (k : GoX p l e R s m args below meth c D A nL kc ks Q (pc + 1) lv (.int (x + y) :: st) w) : GoX p l e R s m args below meth c D A nL kc ks Q pc lv (.int y :: .int x :: st) w := by
  intro H locs ls hP hD hS hl
  exact lv_iadd C.1 C.2.1 hdg (k H locs ls hP hD hS hl)
theorem g_isub (C : CxX p s m args c D tys own cc nL ws) {x y : Int32} (hdg : decode cc pc = .ok (.isub, 1)) (k : GoX p l e R s m args below meth c D A nL kc ks Q (pc + 1) lv (.int (x - y) :: st) w) : GoX p l e R s m args below meth c D A nL kc ks Q pc lv (.int y :: .int x :: st) w := by
  intro H locs ls hP hD hS hl
  exact lv_isub C.1 C.2.1 hdg (k H locs ls hP hD hS hl)
theorem g_imul (C : CxX p s m args c D tys own cc nL ws) {x y : Int32} (hdg : decode cc pc = .ok (.imul, 1)) (k : GoX p l e R s m args below meth c D A nL kc ks Q (pc + 1) lv (.int (x * y) :: st) w) : GoX p l e R s m args below meth c D A nL kc ks Q pc lv (.int y :: .int x :: st) w := by
  intro H locs ls hP hD hS hl
  exact lv_imul C.1 C.2.1 hdg (k H locs ls hP hD hS hl)
theorem g_iand (C : CxX p s m args c D tys own cc nL ws) {x y : Int32} (hdg : decode cc pc = .ok (.iand, 1)) (k : GoX p l e R s m args below meth c D A nL kc ks Q (pc + 1) lv (.int (x &&& y) :: st) w) : GoX p l e R s m args below meth c D A nL kc ks Q pc lv (.int y :: .int x :: st) w := by
  intro H locs ls hP hD hS hl
  exact lv_iand C.1 C.2.1 hdg (k H locs ls hP hD hS hl)
theorem g_idiv (C : CxX p s m args c D tys own cc nL ws) {x y : Int32} (hdg : decode cc pc = .ok (.idiv, 1)) (hne : ¬ y = 0) (k : GoX p l e R s m args below meth c D A nL kc ks Q (pc + 1) lv (.int (x / y) :: st) w) : GoX p l e R s m args below meth c D A nL kc ks Q pc lv (.int y :: .int x :: st) w := by
  intro H locs ls hP hD hS hl
  exact lv_idiv C.1 C.2.1 hdg hne (k H locs ls hP hD hS hl)
theorem g_irem (C : CxX p s m args c D tys own cc nL ws) {x y : Int32} (hdg : decode cc pc = .ok (.irem, 1)) (hne : ¬ y = 0) (k : GoX p l e R s m args below meth c D A nL kc ks Q (pc + 1) lv (.int (x - x / y * y) :: st) w) : GoX p l e R s m args below meth c D A nL kc ks Q pc lv (.int y :: .int x :: st) w := by
  intro H locs ls hP hD hS hl
  exact lv_irem C.1 C.2.1 hdg hne (k H locs ls hP hD hS hl)
theorem g_ineg (C : CxX p s m args c D tys own cc nL ws) {x : Int32} (hdg : decode cc pc = .ok (.ineg, 1)) (k : GoX p l e R s m args below meth c D A nL kc ks Q (pc + 1) lv (.int (-x) :: st) w) : GoX p l e R s m args below meth c D A nL kc ks Q pc lv (.int x :: st) w := by
  intro H locs ls hP hD hS hl
  exact lv_ineg C.1 C.2.1 hdg (k H locs ls hP hD hS hl)
theorem g_lor (C : CxX p s m args c D tys own cc nL ws) {x y : Int64} (hdg : decode cc pc = .ok (.lor, 1)) (k : GoX p l e R s m args below meth c D A nL kc ks Q (pc + 1) lv (.long (x ||| y) :: st) w) : GoX p l e R s m args below meth c D A nL kc ks Q pc lv (.long y :: .long x :: st) w := by
  intro H locs ls hP hD hS hl
  exact lv_lor C.1 C.2.1 hdg (k H locs ls hP hD hS hl)
theorem g_i2l (C : CxX p s m args c D tys own cc nL ws) {x : Int32} (hdg : decode cc pc = .ok (.i2l, 1)) (k : GoX p l e R s m args below meth c D A nL kc ks Q (pc + 1) lv (.long x.toInt64 :: st) w) : GoX p l e R s m args below meth c D A nL kc ks Q pc lv (.int x :: st) w := by
  intro H locs ls hP hD hS hl
  exact lv_i2l C.1 C.2.1 hdg rfl (k H locs ls hP hD hS hl)
theorem g_l2i (C : CxX p s m args c D tys own cc nL ws) {x : Int64} (hdg : decode cc pc = .ok (.l2i, 1)) (k : GoX p l e R s m args below meth c D A nL kc ks Q (pc + 1) lv (.int x.toInt32 :: st) w) : GoX p l e R s m args below meth c D A nL kc ks Q pc lv (.long x :: st) w := by
  intro H locs ls hP hD hS hl
  exact lv_l2i C.1 C.2.1 hdg rfl (k H locs ls hP hD hS hl)
theorem g_i2c (C : CxX p s m args c D tys own cc nL ws) {x : Int32} (hdg : decode cc pc = .ok (.i2c, 1)) (k : GoX p l e R s m args below meth c D A nL kc ks Q (pc + 1) lv (.int (x.toUInt32 % 65536).toInt32 :: st) w) : GoX p l e R s m args below meth c D A nL kc ks Q pc lv (.int x :: st) w := by
  intro H locs ls hP hD hS hl
  exact lv_i2c C.1 C.2.1 hdg rfl (k H locs ls hP hD hS hl)
theorem g_i2f (C : CxX p s m args c D tys own cc nL ws) {x : Int32} (hdg : decode cc pc = .ok (.i2f, 1)) (k : GoX p l e R s m args below meth c D A nL kc ks Q (pc + 1) lv (.float (FP.i2f x) :: st) w) : GoX p l e R s m args below meth c D A nL kc ks Q pc lv (.int x :: st) w := by
  intro H locs ls hP hD hS hl
  exact lv_i2f C.1 C.2.1 hdg (k H locs ls hP hD hS hl)
theorem g_fdiv (C : CxX p s m args c D tys own cc nL ws) {x y : UInt32} (hdg : decode cc pc = .ok (.fdiv, 1)) (hne : vf_n32 (FP.fdiv x y)) (k : GoX p l e R s m args below meth c D A nL kc ks Q (pc + 1) lv (.float (FP.fdiv x y) :: st) w) : GoX p l e R s m args below meth c D A nL kc ks Q pc lv (.float y :: .float x :: st) w := by
  intro H locs ls hP hD hS hl
  exact lv_fdiv C.1 C.2.1 hdg hne (k H locs ls hP hD hS hl)
theorem g_f2d (C : CxX p s m args c D tys own cc nL ws) {x : UInt32} (hdg : decode cc pc = .ok (.f2d, 1)) (hne : vf_n64 (FP.f2d x)) (k : GoX p l e R s m args below meth c D A nL kc ks Q (pc + 1) lv (.double (FP.f2d x) :: st) w) : GoX p l e R s m args below meth c D A nL kc ks Q pc lv (.float x :: st) w := by
  intro H locs ls hP hD hS hl
  exact lv_f2d C.1 C.2.1 hdg hne (k H locs ls hP hD hS hl)
theorem g_dcmp (C : CxX p s m args c D tys own cc nL ws) {x y : UInt64} {op : CmpOp} (hdg : decode cc pc = .ok (.dcmp op, 1)) (k : GoX p l e R s m args below meth c D A nL kc ks Q (pc + 1) lv (.int (Op.cmpValue (FP.dcmp x y) op) :: st) w) : GoX p l e R s m args below meth c D A nL kc ks Q pc lv (.double y :: .double x :: st) w := by
  intro H locs ls hP hD hS hl
  exact lv_dcmp C.1 C.2.1 hdg (k H locs ls hP hD hS hl)
theorem g_lushr (C : CxX p s m args c D tys own cc nL ws) {x : Int64} {y : Int32} (hdg : decode cc pc = .ok (.lushr, 1)) (k : GoX p l e R s m args below meth c D A nL kc ks Q (pc + 1) lv (.long (x.toUInt64 >>> (y.toInt64.toUInt64 &&& Int64.toUInt64 63)).toInt64 :: st) w) : GoX p l e R s m args below meth c D A nL kc ks Q pc lv (.int y :: .long x :: st) w := by
  intro H locs ls hP hD hS hl
  exact lv_lushr C.1 C.2.1 hdg rfl (k H locs ls hP hD hS hl)
theorem g_lshl (C : CxX p s m args c D tys own cc nL ws) {x : Int64} {y : Int32} (hdg : decode cc pc = .ok (.lshl, 1)) (k : GoX p l e R s m args below meth c D A nL kc ks Q (pc + 1) lv (.long (x <<< (y.toInt64 &&& 63)) :: st) w) : GoX p l e R s m args below meth c D A nL kc ks Q pc lv (.int y :: .long x :: st) w := by
  intro H locs ls hP hD hS hl
  exact lv_lshl C.1 C.2.1 hdg rfl (k H locs ls hP hD hS hl)
theorem g_lcmp (C : CxX p s m args c D tys own cc nL ws) {x y : Int64} (hdg : decode cc pc = .ok (.lcmp, 1)) (k : GoX p l e R s m args below meth c D A nL kc ks Q (pc + 1) lv (.int (lg_cmp x y) :: st) w) : GoX p l e R s m args below meth c D A nL kc ks Q pc lv (.long y :: .long x :: st) w := by
  intro H locs ls hP hD hS hl
  exact W.lcmp C.1 C.2.1 hdg (k H locs ls hP hD hS hl)
theorem g_fcmp (C : CxX p s m args c D tys own cc nL ws) {x y : UInt32} {op : CmpOp} (hdg : decode cc pc = .ok (.fcmp op, 1)) (k : GoX p l e R s m args below meth c D A nL kc ks Q (pc + 1) lv (.int (Op.cmpValue (FP.fcmp x y) op) :: st) w) : GoX p l e R s m args below meth c D A nL kc ks Q pc lv (.float y :: .float x :: st) w := by
  intro H locs ls hP hD hS hl
  exact lv_fcmp C.1 C.2.1 hdg (k H locs ls hP hD hS hl)
theorem g_ishr (C : CxX p s m args c D tys own cc nL ws) {x y : Int32} (hdg : decode cc pc = .ok (.ishr, 1)) (k : GoX p l e R s m args below meth c D A nL kc ks Q (pc + 1) lv (.int (x >>> (y &&& 31)) :: st) w) : GoX p l e R s m args below meth c D A nL kc ks Q pc lv (.int y :: .int x :: st) w := by
  intro H locs ls hP hD hS hl
  exact lv_ishr C.1 C.2.1 hdg (k H locs ls hP hD hS hl)
theorem g_ldc (C : CxX p s m args c D tys own cc nL ws) {index : Nat} {v : Int32} (hcon : Cond.constant own index v ∈ ws) (hdg : decode cc pc = .ok (.ldc index, 2)) (k : GoX p l e R s m args below meth c D A nL kc ks Q (pc + 2) lv (.int v :: st) w) : GoX p l e R s m args below meth c D A nL kc ks Q pc lv st w := by
  intro H locs ls hP hD hS hl
  exact lv_ldc C.1 C.2.1 C.2.2.2.1 (C.2.2.2.2.1 _ hcon) hdg (k H locs ls hP hD hS hl)
theorem g_dup (C : CxX p s m args c D tys own cc nL ws) {va : Value} (hdg : decode cc pc = .ok (.dup, 1)) (hva : va.category = 1) (k : GoX p l e R s m args below meth c D A nL kc ks Q (pc + 1) lv (va :: va :: st) w) : GoX p l e R s m args below meth c D A nL kc ks Q pc lv (va :: st) w := by
  intro H locs ls hP hD hS hl
  exact lv_dup C.1 C.2.1 hdg hva (k H locs ls hP hD hS hl)
theorem g_pop (C : CxX p s m args c D tys own cc nL ws) {va : Value} (hdg : decode cc pc = .ok (.pop, 1)) (hva : va.category = 1) (k : GoX p l e R s m args below meth c D A nL kc ks Q (pc + 1) lv st w) : GoX p l e R s m args below meth c D A nL kc ks Q pc lv (va :: st) w := by
  intro H locs ls hP hD hS hl
  exact lv_pop C.1 C.2.1 hdg hva (k H locs ls hP hD hS hl)
theorem g_dup2 (C : CxX p s m args c D tys own cc nL ws) {va vb : Value} (hdg : decode cc pc = .ok (.dup2, 1)) (hva : va.category = 1) (hvb : vb.category = 1) (k : GoX p l e R s m args below meth c D A nL kc ks Q (pc + 1) lv (va :: vb :: va :: vb :: st) w) : GoX p l e R s m args below meth c D A nL kc ks Q pc lv (va :: vb :: st) w := by
  intro H locs ls hP hD hS hl
  exact lv_dup2_11 C.1 C.2.1 hdg hva hvb (k H locs ls hP hD hS hl)
theorem g_dup_x1 (C : CxX p s m args c D tys own cc nL ws) {va vb : Value} (hdg : decode cc pc = .ok (.dup_x1, 1)) (hva : va.category = 1) (hvb : vb.category = 1) (k : GoX p l e R s m args below meth c D A nL kc ks Q (pc + 1) lv (va :: vb :: va :: st) w) : GoX p l e R s m args below meth c D A nL kc ks Q pc lv (va :: vb :: st) w := by
  intro H locs ls hP hD hS hl
  exact lv_dup_x1 C.1 C.2.1 hdg hva hvb (k H locs ls hP hD hS hl)
theorem g_goto (C : CxX p s m args c D tys own cc nL ws) {off : Int} (tgt : Nat) (hdg : decode cc pc = .ok (.goto off, 3)) (ht : (pc : Int) + off = (tgt : Int)) (k : GoX p l e R s m args below meth c D A nL kc ks Q tgt lv st w) : GoX p l e R s m args below meth c D A nL kc ks Q pc lv st w := by
  intro H locs ls hP hD hS hl
  exact lv_goto C.1 C.2.1 hdg ht (k H locs ls hP hD hS hl)
theorem g_if_eq (C : CxX p s m args c D tys own cc nL ws) {x : Int32} {off : Int} (tgt : Nat) (hdg : decode cc pc = .ok (.ifCond .eq off, 3)) (ht : (pc : Int) + off = (tgt : Int)) (kt : x = 0 → GoX p l e R s m args below meth c D A nL kc ks Q tgt lv st w) (kf : ¬ x = 0 → GoX p l e R s m args below meth c D A nL kc ks Q (pc + 3) lv st w) : GoX p l e R s m args below meth c D A nL kc ks Q pc lv (.int x :: st) w := by
  intro H locs ls hP hD hS hl
  exact lv_if_eq C.1 C.2.1 hdg ht (fun q => kt q H locs ls hP hD hS hl) (fun q => kf q H locs ls hP hD hS hl)
theorem g_icmp_eq (C : CxX p s m args c D tys own cc nL ws) {x y : Int32} {off : Int} (tgt : Nat) (hdg : decode cc pc = .ok (.if_icmp .eq off, 3)) (ht : (pc : Int) + off = (tgt : Int)) (kt : x = y → GoX p l e R s m args below meth c D A nL kc ks Q tgt lv st w) (kf : ¬ x = y → GoX p l e R s m args below meth c D A nL kc ks Q (pc + 3) lv st w) : GoX p l e R s m args below meth c D A nL kc ks Q pc lv (.int y :: .int x :: st) w := by
  intro H locs ls hP hD hS hl
  exact lv_icmp_eq C.1 C.2.1 hdg ht (fun q => kt q H locs ls hP hD hS hl) (fun q => kf q H locs ls hP hD hS hl)
theorem g_if_lt (C : CxX p s m args c D tys own cc nL ws) {x : Int32} {off : Int} (tgt : Nat) (hdg : decode cc pc = .ok (.ifCond .lt off, 3)) (ht : (pc : Int) + off = (tgt : Int)) (kt : x < 0 → GoX p l e R s m args below meth c D A nL kc ks Q tgt lv st w) (kf : ¬ x < 0 → GoX p l e R s m args below meth c D A nL kc ks Q (pc + 3) lv st w) : GoX p l e R s m args below meth c D A nL kc ks Q pc lv (.int x :: st) w := by
  intro H locs ls hP hD hS hl
  exact lv_if_lt C.1 C.2.1 hdg ht (fun q => kt q H locs ls hP hD hS hl) (fun q => kf q H locs ls hP hD hS hl)
theorem g_icmp_lt (C : CxX p s m args c D tys own cc nL ws) {x y : Int32} {off : Int} (tgt : Nat) (hdg : decode cc pc = .ok (.if_icmp .lt off, 3)) (ht : (pc : Int) + off = (tgt : Int)) (kt : x < y → GoX p l e R s m args below meth c D A nL kc ks Q tgt lv st w) (kf : ¬ x < y → GoX p l e R s m args below meth c D A nL kc ks Q (pc + 3) lv st w) : GoX p l e R s m args below meth c D A nL kc ks Q pc lv (.int y :: .int x :: st) w := by
  intro H locs ls hP hD hS hl
  exact lv_icmp_lt C.1 C.2.1 hdg ht (fun q => kt q H locs ls hP hD hS hl) (fun q => kf q H locs ls hP hD hS hl)
theorem g_if_ge (C : CxX p s m args c D tys own cc nL ws) {x : Int32} {off : Int} (tgt : Nat) (hdg : decode cc pc = .ok (.ifCond .ge off, 3)) (ht : (pc : Int) + off = (tgt : Int)) (kt : 0 ≤ x → GoX p l e R s m args below meth c D A nL kc ks Q tgt lv st w) (kf : ¬ 0 ≤ x → GoX p l e R s m args below meth c D A nL kc ks Q (pc + 3) lv st w) : GoX p l e R s m args below meth c D A nL kc ks Q pc lv (.int x :: st) w := by
  intro H locs ls hP hD hS hl
  exact lv_if_ge C.1 C.2.1 hdg ht (fun q => kt q H locs ls hP hD hS hl) (fun q => kf q H locs ls hP hD hS hl)
theorem g_icmp_ge (C : CxX p s m args c D tys own cc nL ws) {x y : Int32} {off : Int} (tgt : Nat) (hdg : decode cc pc = .ok (.if_icmp .ge off, 3)) (ht : (pc : Int) + off = (tgt : Int)) (kt : y ≤ x → GoX p l e R s m args below meth c D A nL kc ks Q tgt lv st w) (kf : ¬ y ≤ x → GoX p l e R s m args below meth c D A nL kc ks Q (pc + 3) lv st w) : GoX p l e R s m args below meth c D A nL kc ks Q pc lv (.int y :: .int x :: st) w := by
  intro H locs ls hP hD hS hl
  exact lv_icmp_ge C.1 C.2.1 hdg ht (fun q => kt q H locs ls hP hD hS hl) (fun q => kf q H locs ls hP hD hS hl)
theorem g_if_gt (C : CxX p s m args c D tys own cc nL ws) {x : Int32} {off : Int} (tgt : Nat) (hdg : decode cc pc = .ok (.ifCond .gt off, 3)) (ht : (pc : Int) + off = (tgt : Int)) (kt : 0 < x → GoX p l e R s m args below meth c D A nL kc ks Q tgt lv st w) (kf : ¬ 0 < x → GoX p l e R s m args below meth c D A nL kc ks Q (pc + 3) lv st w) : GoX p l e R s m args below meth c D A nL kc ks Q pc lv (.int x :: st) w := by
  intro H locs ls hP hD hS hl
  exact lv_if_gt C.1 C.2.1 hdg ht (fun q => kt q H locs ls hP hD hS hl) (fun q => kf q H locs ls hP hD hS hl)
theorem g_icmp_gt (C : CxX p s m args c D tys own cc nL ws) {x y : Int32} {off : Int} (tgt : Nat) (hdg : decode cc pc = .ok (.if_icmp .gt off, 3)) (ht : (pc : Int) + off = (tgt : Int)) (kt : y < x → GoX p l e R s m args below meth c D A nL kc ks Q tgt lv st w) (kf : ¬ y < x → GoX p l e R s m args below meth c D A nL kc ks Q (pc + 3) lv st w) : GoX p l e R s m args below meth c D A nL kc ks Q pc lv (.int y :: .int x :: st) w := by
  intro H locs ls hP hD hS hl
  exact lv_icmp_gt C.1 C.2.1 hdg ht (fun q => kt q H locs ls hP hD hS hl) (fun q => kf q H locs ls hP hD hS hl)
theorem g_if_le (C : CxX p s m args c D tys own cc nL ws) {x : Int32} {off : Int} (tgt : Nat) (hdg : decode cc pc = .ok (.ifCond .le off, 3)) (ht : (pc : Int) + off = (tgt : Int)) (kt : x ≤ 0 → GoX p l e R s m args below meth c D A nL kc ks Q tgt lv st w) (kf : ¬ x ≤ 0 → GoX p l e R s m args below meth c D A nL kc ks Q (pc + 3) lv st w) : GoX p l e R s m args below meth c D A nL kc ks Q pc lv (.int x :: st) w := by
  intro H locs ls hP hD hS hl
  exact lv_if_le C.1 C.2.1 hdg ht (fun q => kt q H locs ls hP hD hS hl) (fun q => kf q H locs ls hP hD hS hl)
theorem g_icmp_le (C : CxX p s m args c D tys own cc nL ws) {x y : Int32} {off : Int} (tgt : Nat) (hdg : decode cc pc = .ok (.if_icmp .le off, 3)) (ht : (pc : Int) + off = (tgt : Int)) (kt : x ≤ y → GoX p l e R s m args below meth c D A nL kc ks Q tgt lv st w) (kf : ¬ x ≤ y → GoX p l e R s m args below meth c D A nL kc ks Q (pc + 3) lv st w) : GoX p l e R s m args below meth c D A nL kc ks Q pc lv (.int y :: .int x :: st) w := by
  intro H locs ls hP hD hS hl
  exact lv_icmp_le C.1 C.2.1 hdg ht (fun q => kt q H locs ls hP hD hS hl) (fun q => kf q H locs ls hP hD hS hl)
theorem g_if_ne (C : CxX p s m args c D tys own cc nL ws) {x : Int32} {off : Int} (tgt : Nat) (hdg : decode cc pc = .ok (.ifCond .ne off, 3)) (ht : (pc : Int) + off = (tgt : Int)) (kt : ¬ x = 0 → GoX p l e R s m args below meth c D A nL kc ks Q tgt lv st w) (kf : x = 0 → GoX p l e R s m args below meth c D A nL kc ks Q (pc + 3) lv st w) : GoX p l e R s m args below meth c D A nL kc ks Q pc lv (.int x :: st) w := by
  intro H locs ls hP hD hS hl
  exact lv_if_ne C.1 C.2.1 hdg ht (fun q => kt q H locs ls hP hD hS hl) (fun q => kf q H locs ls hP hD hS hl)
theorem g_icmp_ne (C : CxX p s m args c D tys own cc nL ws) {x y : Int32} {off : Int} (tgt : Nat) (hdg : decode cc pc = .ok (.if_icmp .ne off, 3)) (ht : (pc : Int) + off = (tgt : Int)) (kt : ¬ x = y → GoX p l e R s m args below meth c D A nL kc ks Q tgt lv st w) (kf : x = y → GoX p l e R s m args below meth c D A nL kc ks Q (pc + 3) lv st w) : GoX p l e R s m args below meth c D A nL kc ks Q pc lv (.int y :: .int x :: st) w := by
  intro H locs ls hP hD hS hl
  exact lv_icmp_ne C.1 C.2.1 hdg ht (fun q => kt q H locs ls hP hD hS hl) (fun q => kf q H locs ls hP hD hS hl)
theorem g_lookup (C : CxX p s m args c D tys own cc nL ws) {dflt : Int} {ps : Array (Int × Int)} {len : Nat} {x : Int32} (off : Int) (tgt : Nat) (hdg : decode cc pc = .ok (.lookupswitch dflt ps, len)) (hp : (ps.toList.zip (ps.toList.drop 1)).all (fun (a, next) => a.1 < next.1) = true) (ho : Op.lookupswitch.offset ps.toList dflt x.toInt = off) (ht : (pc : Int) + off = (tgt : Int)) (k : GoX p l e R s m args below meth c D A nL kc ks Q tgt lv st w) : GoX p l e R s m args below meth c D A nL kc ks Q pc lv (.int x :: st) w := by
  intro H locs ls hP hD hS hl
  exact lv_lookup C.1 C.2.1 hdg hp ho ht (k H locs ls hP hD hS hl)
theorem g_tableOut (C : CxX p s m args c D tys own cc nL ws) {dflt lo hi : Int} {offs : Array Int} {len : Nat} {x : Int32} (tgt : Nat) (hdg : decode cc pc = .ok (.tableswitch dflt lo hi offs, len)) (h : x.toInt < lo ∨ hi < x.toInt) (ht : (pc : Int) + dflt = (tgt : Int)) (k : GoX p l e R s m args below meth c D A nL kc ks Q tgt lv st w) : GoX p l e R s m args below meth c D A nL kc ks Q pc lv (.int x :: st) w := by
  intro H locs ls hP hD hS hl
  exact lv_tableOut C.1 C.2.1 hdg h ht (k H locs ls hP hD hS hl)
theorem g_tableIn (C : CxX p s m args c D tys own cc nL ws) {dflt lo hi : Int} {offs : Array Int} {len : Nat} {x : Int32} (off : Int) (tgt : Nat) (hdg : decode cc pc = .ok (.tableswitch dflt lo hi offs, len)) (h1 : ¬ x.toInt < lo) (h2 : ¬ hi < x.toInt) (ho : offs[(x.toInt - lo).toNat]? = some off) (ht : (pc : Int) + off = (tgt : Int)) (k : GoX p l e R s m args below meth c D A nL kc ks Q tgt lv st w) : GoX p l e R s m args below meth c D A nL kc ks Q pc lv (.int x :: st) w := by
  intro H locs ls hP hD hS hl
  exact lv_tableIn C.1 C.2.1 hdg h1 h2 ho ht (k H locs ls hP hD hS hl)
theorem g_sub (ks9 : List Nat) (hk : lv_pick lv ks9 = lv2) (k : GoX p l e R s m args below meth c D A nL kc ks Q pc lv2 st w) : GoX p l e R s m args below meth c D A nL kc ks Q pc lv st w := fun H locs ls hP hD hS hl => k H locs ls hP hD hS (lv_sub hl ks9 hk)
theorem g_world (hw : w = w2) (k : GoX p l e R s m args below meth c D A nL kc ks Q pc lv st w2) : GoX p l e R s m args below meth c D A nL kc ks Q pc lv st w := hw ▸ k
theorem g_get (C : CxX p s m args c D tys own cc nL ws) {Cn : String} {T : u_T} {N ci index a : Nat} (hin : ∀ q ∈ u_ws Cn T N, q ∈ ws) (q0 : Nat) {fs : List Value} (he : w[q0]? = some (a, .inr (ci, fs))) (hc : vwCl[ci]? = some (Cn, T, N)) (k9 : Nat) (hk9 : k9 < N) (hlink : Cond.fieldLink own index (T k9).1 (T k9).2.1 (T k9).2.2.1 ∈ ws) {v : Value} (hv : fs[k9]? = some v) (hdg : decode cc pc = .ok (.getfield index, 3)) (k : GoX p l e R s m args below meth c D A nL kc ks Q (pc + 3) lv (v :: st) w) : GoX p l e R s m args below meth c D A nL kc ks Q pc lv (.ref a :: st) w := by
  intro H locs ls hP hD hS hl
  exact va_get C.1 C.2.1 C.2.2.2.2.1 hin C.2.2.2.1 C.2.2.2.2.2 hP q0 he hc k9 hk9 (C.2.2.2.2.1 _ hlink) (fun _ h9 => h9) hv hdg (k H locs ls hP hD hS hl)
theorem g_put (C : CxX p s m args c D tys own cc nL ws) {Cn : String} {T : u_T} {N ci index a : Nat} (hin : ∀ q ∈ u_ws Cn T N, q ∈ ws) (ty0 : Nat → FieldType) (hty : ∀ k, k < N → parseFieldDescriptor (T k).2.2.1 = some (ty0 k)) (hnm : ∀ a, a < N → ∀ b, b < N → a ≠ b → (T a).2.1 ≠ (T b).2.1) (q0 : Nat) {fs : List Value} (he : w[q0]? = some (a, .inr (ci, fs))) (hc : vwCl[ci]? = some (Cn, T, N)) (k9 : Nat) (hk9 : k9 < N) (hlink : Cond.fieldLink own index (T k9).1 (T k9).2.1 (T k9).2.2.1 ∈ ws) (hfin : (T k9).2.2.2 = false) {v : Value} (hn : narrow (ty0 k9) v = v) (hfit : fits (ty0 k9) v = true) (hl9 : k9 < fs.length) (hw : w.set q0 (a, .inr (ci, fs.set k9 v)) = w2) (hdg : decode cc pc = .ok (.putfield index, 3)) (k : GoX p l e R s m args below meth c D A nL kc ks Q (pc + 3) lv st w2) : GoX p l e R s m args below meth c D A nL kc ks Q pc lv (v :: .ref a :: st) w := by
  intro H locs ls hP hD hS hl
  subst hw
  exact va_put C.1 C.2.1 C.2.2.2.2.1 hin ty0 hty hnm C.2.2.2.1 C.2.2.2.2.2 hP hD hS q0 he hc k9 hk9 (C.2.2.2.2.1 _ hlink) (fun _ h9 => h9) hfin (hty k9 hk9) hn hfit hl9 hdg (fun H1 locs1 hP1 hD1 hS1 => k H1 locs1 ls hP1 hD1 hS1 hl)
theorem g_putF (C : CxX p s m args c D tys own cc nL ws) {Cn : String} {T : u_T} {N ci index a : Nat} (hin2 : meth.name = "<init>") (hdecl : ∀ k9, k9 < N → (T k9).1 = own) (hin : ∀ q ∈ u_ws Cn T N, q ∈ ws) (ty0 : Nat → FieldType) (hty : ∀ k, k < N → parseFieldDescriptor (T k).2.2.1 = some (ty0 k)) (hnm : ∀ a, a < N → ∀ b, b < N → a ≠ b → (T a).2.1 ≠ (T b).2.1) (q0 : Nat) {fs : List Value} (he : w[q0]? = some (a, .inr (ci, fs))) (hc : vwCl[ci]? = some (Cn, T, N)) (k9 : Nat) (hk9 : k9 < N) (hlink : Cond.fieldLink own index (T k9).1 (T k9).2.1 (T k9).2.2.1 ∈ ws) (hfin : (T k9).2.2.2 = true) {v : Value} (hn : narrow (ty0 k9) v = v) (hfit : fits (ty0 k9) v = true) (hl9 : k9 < fs.length) (hw : w.set q0 (a, .inr (ci, fs.set k9 v)) = w2) (hdg : decode cc pc = .ok (.putfield index, 3)) (k : GoX p l e R s m args below meth c D A nL kc ks Q (pc + 3) lv st w2) : GoX p l e R s m args below meth c D A nL kc ks Q pc lv (v :: .ref a :: st) w := by
  intro H locs ls hP hD hS hl
  subst hw
  exact va_putF C.1 C.2.1 C.2.2.2.2.1 hin ty0 hty hnm C.2.2.2.1 C.2.2.2.2.2 hP hD hS q0 he hc k9 hk9 (C.2.2.2.2.1 _ hlink) (fun _ h9 => h9) hfin hin2 (hdecl k9 hk9) (hty k9 hk9) hn hfit hl9 hdg (fun H1 locs1 hP1 hD1 hS1 => k H1 locs1 ls hP1 hD1 hS1 hl)
theorem g_iald (C : CxX p s m args c D tys own cc nL ws) (q0 t0 : Nat) {cA : ClassId} {a n : Nat} {f : Nat → Int32} (ha : w[q0]? = some (a, .inl (cA, n, .inl f))) (ht : tys[t0]? = some (cA, .int)) {i : Int32} (hin : vp_in i n) (hdg : decode cc pc = .ok (.iaload, 1)) (k : GoX p l e R s m args below meth c D A nL kc ks Q (pc + 1) lv (.int (f i.toNatClampNeg) :: st) w) : GoX p l e R s m args below meth c D A nL kc ks Q pc lv (.int i :: .ref a :: st) w := by
  intro H locs ls hP hD hS hl
  exact va_iald C.1 C.2.1 C.2.2.2.2.2 hP q0 t0 ha ht hin hdg (k H locs ls hP hD hS hl)
theorem g_cald (C : CxX p s m args c D tys own cc nL ws) (q0 t0 : Nat) {cA : ClassId} {a n : Nat} {f : Nat → Int32} (ha : w[q0]? = some (a, .inl (cA, n, .inl f))) (ht : tys[t0]? = some (cA, .char)) {i : Int32} (hin : vp_in i n) (hdg : decode cc pc = .ok (.caload, 1)) (k : GoX p l e R s m args below meth c D A nL kc ks Q (pc + 1) lv (.int (f i.toNatClampNeg) :: st) w) : GoX p l e R s m args below meth c D A nL kc ks Q pc lv (.int i :: .ref a :: st) w := by
  intro H locs ls hP hD hS hl
  exact va_cald C.1 C.2.1 C.2.2.2.2.2 hP q0 t0 ha ht hin hdg (k H locs ls hP hD hS hl)
theorem g_lald (C : CxX p s m args c D tys own cc nL ws) (q0 t0 : Nat) {cA : ClassId} {a n : Nat} {f : Nat → Int64} (ha : w[q0]? = some (a, .inl (cA, n, .inr (.inl f)))) (ht : tys[t0]? = some (cA, .long)) {i : Int32} (hin : vp_in i n) (hdg : decode cc pc = .ok (.laload, 1)) (k : GoX p l e R s m args below meth c D A nL kc ks Q (pc + 1) lv (.long (f i.toNatClampNeg) :: st) w) : GoX p l e R s m args below meth c D A nL kc ks Q pc lv (.int i :: .ref a :: st) w := by
  intro H locs ls hP hD hS hl
  exact va_lald C.1 C.2.1 C.2.2.2.2.2 hP q0 t0 ha ht hin hdg (k H locs ls hP hD hS hl)
theorem g_iast (C : CxX p s m args c D tys own cc nL ws) (q0 t0 : Nat) {cA : ClassId} {a n : Nat} {f : Nat → Int32} (ha : w[q0]? = some (a, .inl (cA, n, .inl f))) (ht : tys[t0]? = some (cA, .int)) {i : Int32} {x : Int32} (hin : vp_in i n) (hw : w.set q0 (a, .inl (cA, n, .inl (upd f i.toNatClampNeg x))) = w2) (hdg : decode cc pc = .ok (.iastore, 1)) (k : GoX p l e R s m args below meth c D A nL kc ks Q (pc + 1) lv st w2) : GoX p l e R s m args below meth c D A nL kc ks Q pc lv (.int x :: .int i :: .ref a :: st) w := by
  intro H locs ls hP hD hS hl
  subst hw
  exact va_iast C.1 C.2.1 C.2.2.2.2.2 hP hD hS q0 t0 ha ht hin hdg (fun H1 locs1 hP1 hD1 hS1 => k H1 locs1 ls hP1 hD1 hS1 hl)
theorem g_cast (C : CxX p s m args c D tys own cc nL ws) (q0 t0 : Nat) {cA : ClassId} {a n : Nat} {f : Nat → Int32} (ha : w[q0]? = some (a, .inl (cA, n, .inl f))) (ht : tys[t0]? = some (cA, .char)) {i : Int32} {x : Int32} (hin : vp_in i n) (hw : w.set q0 (a, .inl (cA, n, .inl (upd f i.toNatClampNeg (vp_nar .char x)))) = w2) (hdg : decode cc pc = .ok (.castore, 1)) (k : GoX p l e R s m args below meth c D A nL kc ks Q (pc + 1) lv st w2) : GoX p l e R s m args below meth c D A nL kc ks Q pc lv (.int x :: .int i :: .ref a :: st) w := by
  intro H locs ls hP hD hS hl
  subst hw
  exact va_cast C.1 C.2.1 C.2.2.2.2.2 hP hD hS q0 t0 ha ht hin hdg (fun H1 locs1 hP1 hD1 hS1 => k H1 locs1 ls hP1 hD1 hS1 hl)
theorem g_last (C : CxX p s m args c D tys own cc nL ws) (q0 t0 : Nat) {cA : ClassId} {a n : Nat} {f : Nat → Int64} (ha : w[q0]? = some (a, .inl (cA, n, .inr (.inl f)))) (ht : tys[t0]? = some (cA, .long)) {i : Int32} {x : Int64} (hin : vp_in i n) (hw : w.set q0 (a, .inl (cA, n, .inr (.inl (vp_updL f i.toNatClampNeg x)))) = w2) (hdg : decode cc pc = .ok (.lastore, 1)) (k : GoX p l e R s m args below meth c D A nL kc ks Q (pc + 1) lv st w2) : GoX p l e R s m args below meth c D A nL kc ks Q pc lv (.long x :: .int i :: .ref a :: st) w := by
  intro H locs ls hP hD hS hl
  subst hw
  exact va_last C.1 C.2.1 C.2.2.2.2.2 hP hD hS q0 t0 ha ht hin hdg (fun H1 locs1 hP1 hD1 hS1 => k H1 locs1 ls hP1 hD1 hS1 hl)
theorem g_aald (C : CxX p s m args c D tys own cc nL ws) (q0 t0 : Nat) {cA : ClassId} {ty : FieldType} {a n : Nat} {f : Nat → Option Nat} (ha : w[q0]? = some (a, .inl (cA, n, .inr (.inr (.inr (.inr f)))))) (ht : tys[t0]? = some (cA, ty)) (href : ty.isReference = true) {i : Int32} (hin : vp_in i n) {v : Nat} (hv : f i.toNatClampNeg = some v) (hdg : decode cc pc = .ok (.aaload, 1)) (k : GoX p l e R s m args below meth c D A nL kc ks Q (pc + 1) lv (.ref v :: st) w) : GoX p l e R s m args below meth c D A nL kc ks Q pc lv (.int i :: .ref a :: st) w := by
  intro H locs ls hP hD hS hl
  have hlt : i.toNatClampNeg < n := vp_lt hin
  exact W.aald (v := .ref v) (ty := ty) C.1 C.2.1 (hP q0 _ ha) ((C.2.2.2.2.2.2 t0 _ ht).1 n (fun j => va_rf (f j))) href (fun q => by cases q) (by show ¬ (i < 0 ∨ (arrV _ _ _).slots.size ≤ _); rw [arrV_size]; exact hin) (by show (arrV _ _ _).slots[_]? = _; rw [arrV_read _ _ hlt, hv]; rfl) rfl rfl hdg (k H locs ls hP hD hS hl)
theorem g_alen (C : CxX p s m args c D tys own cc nL ws) (q0 t0 : Nat) {cA : ClassId} {a : Nat} {x : vp_A} (ha : w[q0]? = some (a, .inl (cA, x))) {ty : FieldType} (ht : tys[t0]? = some (cA, ty)) {v : Int32} (hv : Int32.ofNat x.1 = v) (hdg : decode cc pc = .ok (.arraylength, 1)) (k : GoX p l e R s m args below meth c D A nL kc ks Q (pc + 1) lv (.int v :: st) w) : GoX p l e R s m args below meth c D A nL kc ks Q pc lv (.ref a :: st) w := by
  intro H locs ls hP hD hS hl
  exact va_alen C.1 C.2.1 C.2.2.2.2.2 hP q0 t0 ha ht hv hdg (k H locs ls hP hD hS hl)
theorem g_copyi (C : CxX p s m args c D tys own cc nL ws) {index : Nat} (hlink : Cond.methodLink own index arraycopyName ∈ ws) (hnat : Cond.native arraycopyName ∈ ws) (hstat : Cond.static arraycopyName ∈ ws) (hini : Cond.initialized "java/lang/System" ∈ ws) (q0 q1 t0 t1 : Nat) {a a0 : Nat} {c0 c1 : ClassId} {n0 n1 : Nat} {f g : Nat → Int32} (ha0 : w[q0]? = some (a0, .inl (c0, n0, .inl f))) (ha1 : w[q1]? = some (a, .inl (c1, n1, .inl g))) (ht0 : tys[t0]? = some (c0, .int)) (ht1 : tys[t1]? = some (c1, .int))
    {sp dp n : Int32} (h1 : ¬ sp < 0) (h2 : ¬ dp < 0) (h3 : ¬ n < 0) (h4 : sp.toNatClampNeg + n.toNatClampNeg ≤ n0) (h5 : dp.toNatClampNeg + n.toNatClampNeg ≤ n1) (hframes : 1 ≤ R.frames) (hlocals : (st.map fun v => v.category).sum + (nativeFrameWords "java/lang/System" "arraycopy" 5 + 11) ≤ R.locals) (hw : w.set q1 (a, .inl (c1, n1, .inl (va_cpy f g sp.toNatClampNeg dp.toNatClampNeg n.toNatClampNeg))) = w2) (hdg : decode cc pc = .ok (.invokestatic index, 3))
    (k : GoX p l e R s m args below meth c D A nL kc ks Q (pc + 3) lv st w2) : GoX p l e R s m args below meth c D A nL kc ks Q pc lv (.int n :: .int dp :: .ref a :: .int sp :: .ref a0 :: st) w := by
  intro H locs ls hP hD hS hl
  subst hw
  exact va_copyi C.1 C.2.1 (C.2.2.1.trans hl.1.symm) C.2.2.2.1 (C.2.2.2.2.1 _ hlink) (C.2.2.2.2.1 _ hnat) (C.2.2.2.2.1 _ hstat) (C.2.2.2.2.1 _ hini) C.2.2.2.2.2 hP hD hS q0 q1 t0 t1 ha0 ha1 ht0 ht1 rfl h1 h2 h3 h4 h5 (fun _ _ => rfl) hframes hlocals hdg (fun H1 locs1 hP1 hD1 hS1 => k H1 locs1 ls hP1 hD1 hS1 hl)
theorem g_mmax (C : CxX p s m args c D tys own cc nL ws) {index : Nat} (hlink : Cond.methodLink own index Lib.Math.max.name ∈ ws) (hstat : Cond.static Lib.Math.max.name ∈ ws) (hini : Cond.initialized "java/lang/Math" ∈ ws) (hcode : Cond.code Lib.Math.max.name Lib.Math.max.code 2 (some .int) ∈ ws) (hframes : 1 ≤ R.frames) (hlocals : (st.map fun v => v.category).sum + 13 ≤ R.locals) (hkc : kc ≤ R.cells) (hks : ks ≤ R.slots) {x y : Int32} (hdg : decode cc pc = .ok (.invokestatic index, 3))
    (k : GoX p l e R s m args below meth c D A nL kc ks Q (pc + 3) lv (.int (if x < y then y else x) :: st) w) : GoX p l e R s m args below meth c D A nL kc ks Q pc lv (.int y :: .int x :: st) w := by
  intro H locs ls hP hD hS hl
  exact va_mmax C.1 C.2.1 (C.2.2.1.trans hl.1.symm) C.2.2.2.1 (C.2.2.2.2.1 _ hlink) (C.2.2.2.2.1 _ hstat) (C.2.2.2.2.1 _ hini) (C.2.2.2.2.1 _ hcode) hframes hlocals hkc hks hdg (k H locs ls hP hD hS hl)
theorem g_mmin (C : CxX p s m args c D tys own cc nL ws) {index : Nat} (hlink : Cond.methodLink own index Lib.Math.min.name ∈ ws) (hstat : Cond.static Lib.Math.min.name ∈ ws) (hini : Cond.initialized "java/lang/Math" ∈ ws) (hcode : Cond.code Lib.Math.min.name Lib.Math.min.code 2 (some .int) ∈ ws) (hframes : 1 ≤ R.frames) (hlocals : (st.map fun v => v.category).sum + 13 ≤ R.locals) (hkc : kc ≤ R.cells) (hks : ks ≤ R.slots) {x y : Int32} (hdg : decode cc pc = .ok (.invokestatic index, 3))
    (k : GoX p l e R s m args below meth c D A nL kc ks Q (pc + 3) lv (.int (if y < x then y else x) :: st) w) : GoX p l e R s m args below meth c D A nL kc ks Q pc lv (.int y :: .int x :: st) w := by
  intro H locs ls hP hD hS hl
  exact va_mmin C.1 C.2.1 (C.2.2.1.trans hl.1.symm) C.2.2.2.1 (C.2.2.2.2.1 _ hlink) (C.2.2.2.2.1 _ hstat) (C.2.2.2.2.1 _ hini) (C.2.2.2.2.1 _ hcode) hframes hlocals hkc hks hdg (k H locs ls hP hD hS hl)
section RET
variable {S : Type} {Wu : S → va_W}
theorem g_iret (C : CxX p s m args c D tys own cc nL ws) (hr : meth.sig.returnType = some .int) (hlk : meth.locks = false) {post : Int32 → S → Prop} {v : Int32} (u : S) (hw : Wu u = w) (hp : post v u) (hdg : decode cc pc = .ok (.ireturn, 1)) : GoX p l e R s m args below meth c D A nL 0 0 (MQ below (va_Qi post (fun u t => OKX D tys (Wu u) A t) A) args s 0 0 A) pc lv [.int v] w := by
  intro H locs ls hP hD hS hl
  subst hw
  exact W.iret C.1 C.2.1 hr (fun t ht hW => ⟨⟨v, u, rfl, hp, by rw [ht]; exact hP, va_K.moved hW.alike C.2.2.2.2.2, hD⟩, hS.F ht⟩) hS.2.2 hdg hlk
theorem g_lret (C : CxX p s m args c D tys own cc nL ws) (hr : meth.sig.returnType = some .long) (hlk : meth.locks = false) {post : Int64 → S → Prop} {v : Int64} (u : S) (hw : Wu u = w) (hp : post v u) (hdg : decode cc pc = .ok (.lreturn, 1)) : GoX p l e R s m args below meth c D A nL 0 0 (MQ below (va_Ql post (fun u t => OKX D tys (Wu u) A t) A) args s 0 0 A) pc lv [.long v] w := by
  intro H locs ls hP hD hS hl
  subst hw
  exact W.lret C.1 C.2.1 hr (fun t ht hW => ⟨⟨v, u, rfl, hp, by rw [ht]; exact hP, va_K.moved hW.alike C.2.2.2.2.2, hD⟩, hS.F ht⟩) hS.2.2 hdg hlk
theorem g_fret (C : CxX p s m args c D tys own cc nL ws) (hr : meth.sig.returnType = some .float) (hlk : meth.locks = false) {post : UInt32 → S → Prop} {v : UInt32} (u : S) (hw : Wu u = w) (hp : post v u) (hdg : decode cc pc = .ok (.freturn, 1)) : GoX p l e R s m args below meth c D A nL 0 0 (MQ below (va_Qf post (fun u t => OKX D tys (Wu u) A t) A) args s 0 0 A) pc lv [.float v] w := by
  intro H locs ls hP hD hS hl
  subst hw
  exact W.fret C.1 C.2.1 hr (fun t ht hW => ⟨⟨v, u, rfl, hp, by rw [ht]; exact hP, va_K.moved hW.alike C.2.2.2.2.2, hD⟩, hS.F ht⟩) hS.2.2 hdg hlk
theorem g_zret (C : CxX p s m args c D tys own cc nL ws) {ty : FieldType} (hr : meth.sig.returnType = some ty) (hlk : meth.locks = false) {post : Int32 → S → Prop} {v : Int32} (hn : narrow ty (.int v) = .int v) (u : S) (hw : Wu u = w) (hp : post v u) (hdg : decode cc pc = .ok (.ireturn, 1)) : GoX p l e R s m args below meth c D A nL 0 0 (MQ below (va_Qi post (fun u t => OKX D tys (Wu u) A t) A) args s 0 0 A) pc lv [.int v] w := by
  intro H locs ls hP hD hS hl
  subst hw
  exact W.zret C.1 C.2.1 hr hn (fun t ht hW => ⟨⟨v, u, rfl, hp, by rw [ht]; exact hP, va_K.moved hW.alike C.2.2.2.2.2, hD⟩, hS.F ht⟩) hS.2.2 hdg hlk
theorem g_vret (C : CxX p s m args c D tys own cc nL ws) (hr : meth.sig.returnType = none) (hlk : meth.locks = false) {post : S → Prop} (u : S) (hw : Wu u = w) (hp : post u) (hdg : decode cc pc = .ok (.return_, 1)) : GoX p l e R s m args below meth c D A nL 0 0 (MQ below (va_Qv post (fun u t => OKX D tys (Wu u) A t) A) args s 0 0 A) pc lv [] w := by
  intro H locs ls hP hD hS hl
  subst hw
  exact W.vret C.1 C.2.1 hr (fun t ht hW => ⟨⟨u, rfl, hp, by rw [ht]; exact hP, va_K.moved hW.alike C.2.2.2.2.2, hD⟩, hS.F ht⟩) hS.2.2 hdg hlk
theorem g_aret (C : CxX p s m args c D tys own cc nL ws) {ty : FieldType} (hr : meth.sig.returnType = some (.array ty)) (hlk : meth.locks = false) {post : S → Prop} {av : S → Nat} (u : S) (hw : Wu u = w) (hp : post u) (hdg : decode cc pc = .ok (.areturn, 1)) : GoX p l e R s m args below meth c D A nL 0 0 (MQ below (va_Qr post (fun u a t => a = av u ∧ OKX D tys (Wu u) A t) A) args s 0 0 A) pc lv [.ref (av u)] w := by
  intro H locs ls hP hD hS hl
  subst hw
  exact W.aret C.1 C.2.1 hr (Or.inr ⟨_, rfl⟩) (Or.inr ⟨_, rfl⟩) (fun t ht hW => ⟨⟨u, av u, rfl, hp, rfl, by rw [ht]; exact hP, va_K.moved hW.alike C.2.2.2.2.2, hD⟩, hS.F ht⟩) hS.2.2 hdg hlk
theorem g_callVi (C : CxX p s m args c D tys own cc nL ws) {Cn : String} {T : u_T} {N ci b : Nat} {y : MethodName} {wsy wsy2 : List Cond} {bytes : ByteArray} {maxL : Nat} {ret : Option FieldType} {rm : Room} {index : Nat} {As : List Value} {post : Int32 → S → Prop} (n9 : Nat) (hM : Met l y wsy rm (va_Pc (.ref b :: As) (OKX D tys w A)) (va_Qi post (fun u t => OKX D tys (Wu u) A t) A) 0 0 A) (hT : GoodIn ws (wsV own index Cn y wsy)) (hwy : wsy = Cond.code y bytes maxL ret :: wsy2) (hrc : rm.cells = 0) (hrs : rm.slots = 0) (hd : y.cls = Cn ∧ y.cls ≠ "java/lang/invoke/MethodHandle" ∧ y.cls ≠ "java/lang/invoke/VarHandle" ∧ (parseMethodDescriptor y.desc).map (fun d => d.parameters.length) = some n9) (hR : rm.frames + 1 ≤ R.frames ∧ 8 + (maxL + 11) + rm.locals ≤ R.locals) (hk9 : kc ≤ R.cells ∧ ks ≤ R.slots) (q0 : Nat) {fs : List Value} (he : w[q0]? = some (b, .inr (ci, fs))) (hc : vwCl[ci]? = some (Cn, T, N)) {stk : List Value} (hst : stk = As.reverse ++ .ref b :: st) (hlen : As.length = n9) (hcat : (st.map fun v => v.category).sum ≤ 8) (hdg : decode cc pc = .ok (.invokevirtual index, 3)) (kk : ∀ (r : Int32) (u : S), post r u → GoX p l e R s m args below meth c D A nL kc ks Q (pc + 3) lv (.int r :: st) (Wu u)) : GoX p l e R s m args below meth c D A nL kc ks Q pc lv stk w := by
  intro H locs ls hP hD hS hl
  refine va_calli (va_runV (As := As) (rest := st) ⟨C.1, C.2.1, C.2.2.1, C.2.2.2.1, C.2.2.2.2.1⟩ hM (cwV n9 C.2.2.2.2.1 hT hwy hrc hrs hd hR) ⟨OKX_blind, va_recv C.2.2.2.2.2 hP hc he, fun U hU hW => ⟨rfl, by rw [hU]; exact hP, va_K.moved hW.alike C.2.2.2.2.2, hD⟩⟩ rfl hlen hl.1 hst (lv_room hcat) hdg hk9) hS (fun _ _ h => h) (fun _ h => h) (fun r u t H1 locs1 ht hvm hp hB hz1 hk1 hS1 => ?_)
  have hB1 := hB.1
  rw [ht] at hB1
  exact kk r u hp H1 locs1 ls hB1 hB.2.2 hS1 hl
theorem g_callSi (C : CxX p s m args c D tys own cc nL ws) {y : MethodName} {wsy wsy2 : List Cond} {bytes : ByteArray} {maxL : Nat} {ret : Option FieldType} {rm : Room} {index : Nat} {As : List Value} {post : Int32 → S → Prop} (n9 : Nat) (hM : Met l y wsy rm (va_Pc As (OKX D tys w A)) (va_Qi post (fun u t => OKX D tys (Wu u) A t) A) 0 0 A) (hT : GoodIn ws (va_wsS own index y wsy)) (hwy : wsy = Cond.code y bytes maxL ret :: wsy2) (hrc : rm.cells = 0) (hrs : rm.slots = 0) (hd : y.cls ≠ "java/lang/invoke/MethodHandle" ∧ y.cls ≠ "java/lang/invoke/VarHandle" ∧ (parseMethodDescriptor y.desc).map (fun d => d.parameters.length) = some n9) (hR : rm.frames + 1 ≤ R.frames ∧ 8 + (maxL + 11) + rm.locals ≤ R.locals) (hk9 : kc ≤ R.cells ∧ ks ≤ R.slots) {stk : List Value} (hst : stk = As.reverse ++ st) (hlen : As.length = n9) (hcat : (st.map fun v => v.category).sum ≤ 8) (hdg : decode cc pc = .ok (.invokestatic index, 3)) (kk : ∀ (r : Int32) (u : S), post r u → GoX p l e R s m args below meth c D A nL kc ks Q (pc + 3) lv (.int r :: st) (Wu u)) : GoX p l e R s m args below meth c D A nL kc ks Q pc lv stk w := by
  intro H locs ls hP hD hS hl
  refine va_calli (va_runS (As := As) (rest := st) ⟨C.1, C.2.1, C.2.2.1, C.2.2.2.1, C.2.2.2.2.1⟩ hM (va_cwS n9 C.2.2.2.2.1 hT hwy hrc hrs hd hR) ⟨OKX_blind, fun U hU hW => ⟨rfl, by rw [hU]; exact hP, va_K.moved hW.alike C.2.2.2.2.2, hD⟩⟩ rfl hlen hl.1 hst (lv_room hcat) hdg hk9) hS (fun _ _ h => h) (fun _ h => h) (fun r u t H1 locs1 ht hvm hp hB hz1 hk1 hS1 => ?_)
  have hB1 := hB.1
  rw [ht] at hB1
  exact kk r u hp H1 locs1 ls hB1 hB.2.2 hS1 hl
theorem g_callVl (C : CxX p s m args c D tys own cc nL ws) {Cn : String} {T : u_T} {N ci b : Nat} {y : MethodName} {wsy wsy2 : List Cond} {bytes : ByteArray} {maxL : Nat} {ret : Option FieldType} {rm : Room} {index : Nat} {As : List Value} {post : Int64 → S → Prop} (n9 : Nat) (hM : Met l y wsy rm (va_Pc (.ref b :: As) (OKX D tys w A)) (va_Ql post (fun u t => OKX D tys (Wu u) A t) A) 0 0 A) (hT : GoodIn ws (wsV own index Cn y wsy)) (hwy : wsy = Cond.code y bytes maxL ret :: wsy2) (hrc : rm.cells = 0) (hrs : rm.slots = 0) (hd : y.cls = Cn ∧ y.cls ≠ "java/lang/invoke/MethodHandle" ∧ y.cls ≠ "java/lang/invoke/VarHandle" ∧ (parseMethodDescriptor y.desc).map (fun d => d.parameters.length) = some n9) (hR : rm.frames + 1 ≤ R.frames ∧ 8 + (maxL + 11) + rm.locals ≤ R.locals) (hk9 : kc ≤ R.cells ∧ ks ≤ R.slots) (q0 : Nat) {fs : List Value} (he : w[q0]? = some (b, .inr (ci, fs))) (hc : vwCl[ci]? = some (Cn, T, N)) {stk : List Value} (hst : stk = As.reverse ++ .ref b :: st) (hlen : As.length = n9) (hcat : (st.map fun v => v.category).sum ≤ 8) (hdg : decode cc pc = .ok (.invokevirtual index, 3)) (kk : ∀ (r : Int64) (u : S), post r u → GoX p l e R s m args below meth c D A nL kc ks Q (pc + 3) lv (.long r :: st) (Wu u)) : GoX p l e R s m args below meth c D A nL kc ks Q pc lv stk w := by
  intro H locs ls hP hD hS hl
  refine va_calll (va_runV (As := As) (rest := st) ⟨C.1, C.2.1, C.2.2.1, C.2.2.2.1, C.2.2.2.2.1⟩ hM (cwV n9 C.2.2.2.2.1 hT hwy hrc hrs hd hR) ⟨OKX_blind, va_recv C.2.2.2.2.2 hP hc he, fun U hU hW => ⟨rfl, by rw [hU]; exact hP, va_K.moved hW.alike C.2.2.2.2.2, hD⟩⟩ rfl hlen hl.1 hst (lv_room hcat) hdg hk9) hS (fun _ _ h => h) (fun _ h => h) (fun r u t H1 locs1 ht hvm hp hB hz1 hk1 hS1 => ?_)
  have hB1 := hB.1
  rw [ht] at hB1
  exact kk r u hp H1 locs1 ls hB1 hB.2.2 hS1 hl
theorem g_callSl (C : CxX p s m args c D tys own cc nL ws) {y : MethodName} {wsy wsy2 : List Cond} {bytes : ByteArray} {maxL : Nat} {ret : Option FieldType} {rm : Room} {index : Nat} {As : List Value} {post : Int64 → S → Prop} (n9 : Nat) (hM : Met l y wsy rm (va_Pc As (OKX D tys w A)) (va_Ql post (fun u t => OKX D tys (Wu u) A t) A) 0 0 A) (hT : GoodIn ws (va_wsS own index y wsy)) (hwy : wsy = Cond.code y bytes maxL ret :: wsy2) (hrc : rm.cells = 0) (hrs : rm.slots = 0) (hd : y.cls ≠ "java/lang/invoke/MethodHandle" ∧ y.cls ≠ "java/lang/invoke/VarHandle" ∧ (parseMethodDescriptor y.desc).map (fun d => d.parameters.length) = some n9) (hR : rm.frames + 1 ≤ R.frames ∧ 8 + (maxL + 11) + rm.locals ≤ R.locals) (hk9 : kc ≤ R.cells ∧ ks ≤ R.slots) {stk : List Value} (hst : stk = As.reverse ++ st) (hlen : As.length = n9) (hcat : (st.map fun v => v.category).sum ≤ 8) (hdg : decode cc pc = .ok (.invokestatic index, 3)) (kk : ∀ (r : Int64) (u : S), post r u → GoX p l e R s m args below meth c D A nL kc ks Q (pc + 3) lv (.long r :: st) (Wu u)) : GoX p l e R s m args below meth c D A nL kc ks Q pc lv stk w := by
  intro H locs ls hP hD hS hl
  refine va_calll (va_runS (As := As) (rest := st) ⟨C.1, C.2.1, C.2.2.1, C.2.2.2.1, C.2.2.2.2.1⟩ hM (va_cwS n9 C.2.2.2.2.1 hT hwy hrc hrs hd hR) ⟨OKX_blind, fun U hU hW => ⟨rfl, by rw [hU]; exact hP, va_K.moved hW.alike C.2.2.2.2.2, hD⟩⟩ rfl hlen hl.1 hst (lv_room hcat) hdg hk9) hS (fun _ _ h => h) (fun _ h => h) (fun r u t H1 locs1 ht hvm hp hB hz1 hk1 hS1 => ?_)
  have hB1 := hB.1
  rw [ht] at hB1
  exact kk r u hp H1 locs1 ls hB1 hB.2.2 hS1 hl
theorem g_callVf (C : CxX p s m args c D tys own cc nL ws) {Cn : String} {T : u_T} {N ci b : Nat} {y : MethodName} {wsy wsy2 : List Cond} {bytes : ByteArray} {maxL : Nat} {ret : Option FieldType} {rm : Room} {index : Nat} {As : List Value} {post : UInt32 → S → Prop} (n9 : Nat) (hM : Met l y wsy rm (va_Pc (.ref b :: As) (OKX D tys w A)) (va_Qf post (fun u t => OKX D tys (Wu u) A t) A) 0 0 A) (hT : GoodIn ws (wsV own index Cn y wsy)) (hwy : wsy = Cond.code y bytes maxL ret :: wsy2) (hrc : rm.cells = 0) (hrs : rm.slots = 0) (hd : y.cls = Cn ∧ y.cls ≠ "java/lang/invoke/MethodHandle" ∧ y.cls ≠ "java/lang/invoke/VarHandle" ∧ (parseMethodDescriptor y.desc).map (fun d => d.parameters.length) = some n9) (hR : rm.frames + 1 ≤ R.frames ∧ 8 + (maxL + 11) + rm.locals ≤ R.locals) (hk9 : kc ≤ R.cells ∧ ks ≤ R.slots) (q0 : Nat) {fs : List Value} (he : w[q0]? = some (b, .inr (ci, fs))) (hc : vwCl[ci]? = some (Cn, T, N)) {stk : List Value} (hst : stk = As.reverse ++ .ref b :: st) (hlen : As.length = n9) (hcat : (st.map fun v => v.category).sum ≤ 8) (hdg : decode cc pc = .ok (.invokevirtual index, 3)) (kk : ∀ (r : UInt32) (u : S), post r u → GoX p l e R s m args below meth c D A nL kc ks Q (pc + 3) lv (.float r :: st) (Wu u)) : GoX p l e R s m args below meth c D A nL kc ks Q pc lv stk w := by
  intro H locs ls hP hD hS hl
  refine va_callf (va_runV (As := As) (rest := st) ⟨C.1, C.2.1, C.2.2.1, C.2.2.2.1, C.2.2.2.2.1⟩ hM (cwV n9 C.2.2.2.2.1 hT hwy hrc hrs hd hR) ⟨OKX_blind, va_recv C.2.2.2.2.2 hP hc he, fun U hU hW => ⟨rfl, by rw [hU]; exact hP, va_K.moved hW.alike C.2.2.2.2.2, hD⟩⟩ rfl hlen hl.1 hst (lv_room hcat) hdg hk9) hS (fun _ _ h => h) (fun _ h => h) (fun r u t H1 locs1 ht hvm hp hB hz1 hk1 hS1 => ?_)
  have hB1 := hB.1
  rw [ht] at hB1
  exact kk r u hp H1 locs1 ls hB1 hB.2.2 hS1 hl
theorem g_callSf (C : CxX p s m args c D tys own cc nL ws) {y : MethodName} {wsy wsy2 : List Cond} {bytes : ByteArray} {maxL : Nat} {ret : Option FieldType} {rm : Room} {index : Nat} {As : List Value} {post : UInt32 → S → Prop} (n9 : Nat) (hM : Met l y wsy rm (va_Pc As (OKX D tys w A)) (va_Qf post (fun u t => OKX D tys (Wu u) A t) A) 0 0 A) (hT : GoodIn ws (va_wsS own index y wsy)) (hwy : wsy = Cond.code y bytes maxL ret :: wsy2) (hrc : rm.cells = 0) (hrs : rm.slots = 0) (hd : y.cls ≠ "java/lang/invoke/MethodHandle" ∧ y.cls ≠ "java/lang/invoke/VarHandle" ∧ (parseMethodDescriptor y.desc).map (fun d => d.parameters.length) = some n9) (hR : rm.frames + 1 ≤ R.frames ∧ 8 + (maxL + 11) + rm.locals ≤ R.locals) (hk9 : kc ≤ R.cells ∧ ks ≤ R.slots) {stk : List Value} (hst : stk = As.reverse ++ st) (hlen : As.length = n9) (hcat : (st.map fun v => v.category).sum ≤ 8) (hdg : decode cc pc = .ok (.invokestatic index, 3)) (kk : ∀ (r : UInt32) (u : S), post r u → GoX p l e R s m args below meth c D A nL kc ks Q (pc + 3) lv (.float r :: st) (Wu u)) : GoX p l e R s m args below meth c D A nL kc ks Q pc lv stk w := by
  intro H locs ls hP hD hS hl
  refine va_callf (va_runS (As := As) (rest := st) ⟨C.1, C.2.1, C.2.2.1, C.2.2.2.1, C.2.2.2.2.1⟩ hM (va_cwS n9 C.2.2.2.2.1 hT hwy hrc hrs hd hR) ⟨OKX_blind, fun U hU hW => ⟨rfl, by rw [hU]; exact hP, va_K.moved hW.alike C.2.2.2.2.2, hD⟩⟩ rfl hlen hl.1 hst (lv_room hcat) hdg hk9) hS (fun _ _ h => h) (fun _ h => h) (fun r u t H1 locs1 ht hvm hp hB hz1 hk1 hS1 => ?_)
  have hB1 := hB.1
  rw [ht] at hB1
  exact kk r u hp H1 locs1 ls hB1 hB.2.2 hS1 hl
theorem g_callVv (C : CxX p s m args c D tys own cc nL ws) {Cn : String} {T : u_T} {N ci b : Nat} {y : MethodName} {wsy wsy2 : List Cond} {bytes : ByteArray} {maxL : Nat} {ret : Option FieldType} {rm : Room} {index : Nat} {As : List Value} {post : S → Prop} (n9 : Nat) (hM : Met l y wsy rm (va_Pc (.ref b :: As) (OKX D tys w A)) (va_Qv post (fun u t => OKX D tys (Wu u) A t) A) 0 0 A) (hT : GoodIn ws (wsV own index Cn y wsy)) (hwy : wsy = Cond.code y bytes maxL ret :: wsy2) (hrc : rm.cells = 0) (hrs : rm.slots = 0) (hd : y.cls = Cn ∧ y.cls ≠ "java/lang/invoke/MethodHandle" ∧ y.cls ≠ "java/lang/invoke/VarHandle" ∧ (parseMethodDescriptor y.desc).map (fun d => d.parameters.length) = some n9) (hR : rm.frames + 1 ≤ R.frames ∧ 8 + (maxL + 11) + rm.locals ≤ R.locals) (hk9 : kc ≤ R.cells ∧ ks ≤ R.slots) (q0 : Nat) {fs : List Value} (he : w[q0]? = some (b, .inr (ci, fs))) (hc : vwCl[ci]? = some (Cn, T, N)) {stk : List Value} (hst : stk = As.reverse ++ .ref b :: st) (hlen : As.length = n9) (hcat : (st.map fun v => v.category).sum ≤ 8) (hdg : decode cc pc = .ok (.invokevirtual index, 3)) (kk : ∀ u : S, post u → GoX p l e R s m args below meth c D A nL kc ks Q (pc + 3) lv st (Wu u)) : GoX p l e R s m args below meth c D A nL kc ks Q pc lv stk w := by
  intro H locs ls hP hD hS hl
  refine va_callv (va_runV (As := As) (rest := st) ⟨C.1, C.2.1, C.2.2.1, C.2.2.2.1, C.2.2.2.2.1⟩ hM (cwV n9 C.2.2.2.2.1 hT hwy hrc hrs hd hR) ⟨OKX_blind, va_recv C.2.2.2.2.2 hP hc he, fun U hU hW => ⟨rfl, by rw [hU]; exact hP, va_K.moved hW.alike C.2.2.2.2.2, hD⟩⟩ rfl hlen hl.1 hst (lv_room hcat) hdg hk9) hS (fun _ _ h => h) (fun _ h => h) (fun u t H1 locs1 ht hvm hp hB hz1 hk1 hS1 => ?_)
  have hB1 := hB.1
  rw [ht] at hB1
  exact kk u hp H1 locs1 ls hB1 hB.2.2 hS1 hl
theorem g_callSv (C : CxX p s m args c D tys own cc nL ws) {y : MethodName} {wsy wsy2 : List Cond} {bytes : ByteArray} {maxL : Nat} {ret : Option FieldType} {rm : Room} {index : Nat} {As : List Value} {post : S → Prop} (n9 : Nat) (hM : Met l y wsy rm (va_Pc As (OKX D tys w A)) (va_Qv post (fun u t => OKX D tys (Wu u) A t) A) 0 0 A) (hT : GoodIn ws (va_wsS own index y wsy)) (hwy : wsy = Cond.code y bytes maxL ret :: wsy2) (hrc : rm.cells = 0) (hrs : rm.slots = 0) (hd : y.cls ≠ "java/lang/invoke/MethodHandle" ∧ y.cls ≠ "java/lang/invoke/VarHandle" ∧ (parseMethodDescriptor y.desc).map (fun d => d.parameters.length) = some n9) (hR : rm.frames + 1 ≤ R.frames ∧ 8 + (maxL + 11) + rm.locals ≤ R.locals) (hk9 : kc ≤ R.cells ∧ ks ≤ R.slots) {stk : List Value} (hst : stk = As.reverse ++ st) (hlen : As.length = n9) (hcat : (st.map fun v => v.category).sum ≤ 8) (hdg : decode cc pc = .ok (.invokestatic index, 3)) (kk : ∀ u : S, post u → GoX p l e R s m args below meth c D A nL kc ks Q (pc + 3) lv st (Wu u)) : GoX p l e R s m args below meth c D A nL kc ks Q pc lv stk w := by
  intro H locs ls hP hD hS hl
  refine va_callv (va_runS (As := As) (rest := st) ⟨C.1, C.2.1, C.2.2.1, C.2.2.2.1, C.2.2.2.2.1⟩ hM (va_cwS n9 C.2.2.2.2.1 hT hwy hrc hrs hd hR) ⟨OKX_blind, fun U hU hW => ⟨rfl, by rw [hU]; exact hP, va_K.moved hW.alike C.2.2.2.2.2, hD⟩⟩ rfl hlen hl.1 hst (lv_room hcat) hdg hk9) hS (fun _ _ h => h) (fun _ h => h) (fun u t H1 locs1 ht hvm hp hB hz1 hk1 hS1 => ?_)
  have hB1 := hB.1
  rw [ht] at hB1
  exact kk u hp H1 locs1 ls hB1 hB.2.2 hS1 hl
theorem g_callVr (C : CxX p s m args c D tys own cc nL ws) {Cn : String} {T : u_T} {N ci b : Nat} {y : MethodName} {wsy wsy2 : List Cond} {bytes : ByteArray} {maxL : Nat} {ret : Option FieldType} {rm : Room} {index : Nat} {As : List Value} {post : S → Prop} {av : S → Nat} (n9 : Nat) (hM : Met l y wsy rm (va_Pc (.ref b :: As) (OKX D tys w A)) (va_Qr post (fun u a t => a = av u ∧ OKX D tys (Wu u) A t) A) 0 0 A) (hT : GoodIn ws (wsV own index Cn y wsy)) (hwy : wsy = Cond.code y bytes maxL ret :: wsy2) (hrc : rm.cells = 0) (hrs : rm.slots = 0) (hd : y.cls = Cn ∧ y.cls ≠ "java/lang/invoke/MethodHandle" ∧ y.cls ≠ "java/lang/invoke/VarHandle" ∧ (parseMethodDescriptor y.desc).map (fun d => d.parameters.length) = some n9) (hR : rm.frames + 1 ≤ R.frames ∧ 8 + (maxL + 11) + rm.locals ≤ R.locals) (hk9 : kc ≤ R.cells ∧ ks ≤ R.slots) (q0 : Nat) {fs : List Value} (he : w[q0]? = some (b, .inr (ci, fs))) (hc : vwCl[ci]? = some (Cn, T, N)) {stk : List Value} (hst : stk = As.reverse ++ .ref b :: st) (hlen : As.length = n9) (hcat : (st.map fun v => v.category).sum ≤ 8) (hdg : decode cc pc = .ok (.invokevirtual index, 3)) (kk : ∀ u : S, post u → GoX p l e R s m args below meth c D A nL kc ks Q (pc + 3) lv (.ref (av u) :: st) (Wu u)) : GoX p l e R s m args below meth c D A nL kc ks Q pc lv stk w := by
  intro H locs ls hP hD hS hl
  refine va_callr (va_runV (As := As) (rest := st) ⟨C.1, C.2.1, C.2.2.1, C.2.2.2.1, C.2.2.2.2.1⟩ hM (cwV n9 C.2.2.2.2.1 hT hwy hrc hrs hd hR) ⟨OKX_blind, va_recv C.2.2.2.2.2 hP hc he, fun U hU hW => ⟨rfl, by rw [hU]; exact hP, va_K.moved hW.alike C.2.2.2.2.2, hD⟩⟩ rfl hlen hl.1 hst (lv_room hcat) hdg hk9) hS (fun _ _ h => h) (fun _ h => h) ?_
  intro u a t H1 locs1 ht hvm hp hB hz1 hk1 hS1
  obtain ⟨rfl, hB1, hB2, hB3⟩ := hB
  rw [ht] at hB1
  exact kk u hp H1 locs1 ls hB1 hB3 hS1 hl
theorem g_callSr (C : CxX p s m args c D tys own cc nL ws) {y : MethodName} {wsy wsy2 : List Cond} {bytes : ByteArray} {maxL : Nat} {ret : Option FieldType} {rm : Room} {index : Nat} {As : List Value} {post : S → Prop} {av : S → Nat} (n9 : Nat) (hM : Met l y wsy rm (va_Pc As (OKX D tys w A)) (va_Qr post (fun u a t => a = av u ∧ OKX D tys (Wu u) A t) A) 0 0 A) (hT : GoodIn ws (va_wsS own index y wsy)) (hwy : wsy = Cond.code y bytes maxL ret :: wsy2) (hrc : rm.cells = 0) (hrs : rm.slots = 0) (hd : y.cls ≠ "java/lang/invoke/MethodHandle" ∧ y.cls ≠ "java/lang/invoke/VarHandle" ∧ (parseMethodDescriptor y.desc).map (fun d => d.parameters.length) = some n9) (hR : rm.frames + 1 ≤ R.frames ∧ 8 + (maxL + 11) + rm.locals ≤ R.locals) (hk9 : kc ≤ R.cells ∧ ks ≤ R.slots) {stk : List Value} (hst : stk = As.reverse ++ st) (hlen : As.length = n9) (hcat : (st.map fun v => v.category).sum ≤ 8) (hdg : decode cc pc = .ok (.invokestatic index, 3)) (kk : ∀ u : S, post u → GoX p l e R s m args below meth c D A nL kc ks Q (pc + 3) lv (.ref (av u) :: st) (Wu u)) : GoX p l e R s m args below meth c D A nL kc ks Q pc lv stk w := by
  intro H locs ls hP hD hS hl
  refine va_callr (va_runS (As := As) (rest := st) ⟨C.1, C.2.1, C.2.2.1, C.2.2.2.1, C.2.2.2.2.1⟩ hM (va_cwS n9 C.2.2.2.2.1 hT hwy hrc hrs hd hR) ⟨OKX_blind, fun U hU hW => ⟨rfl, by rw [hU]; exact hP, va_K.moved hW.alike C.2.2.2.2.2, hD⟩⟩ rfl hlen hl.1 hst (lv_room hcat) hdg hk9) hS (fun _ _ h => h) (fun _ h => h) ?_
  intro u a t H1 locs1 ht hvm hp hB hz1 hk1 hS1
  obtain ⟨rfl, hB1, hB2, hB3⟩ := hB
  rw [ht] at hB1
  exact kk u hp H1 locs1 ls hB1 hB3 hS1 hl
end RET
theorem g_met {l : Launch} {D : va_G} {A : Nat → Prop} {tys : List (ClassId × FieldType)} {own : String} {y : MethodName} {wsy wsy2 : List Cond} {rm : Room} {cc : ByteArray} {maxL : Nat} {ret : Option FieldType} {av : List Value} {w : va_W} {Qc : Array Value → State → Outcome → State → Prop} (hy : plainName y.cls = true) (hyo : y.cls = own) (hw : wsy = Cond.code y cc maxL ret :: wsy2) (hlg : (lg_sl av).length ≤ maxL)
    (body : ∀ (p : Program) (e : Env) (s : State) (m : MethodId) (below : List Frame) (meth : Method) (c : Code), CxX p s m av.toArray c D tys own cc maxL wsy → meth.sig.returnType = ret → meth.locks = false → (s.methodNamed? y = some m ∧ s.vm.method? m = some meth) → GoX p l e rm s m av.toArray below meth c D A maxL 0 0 (MQ below Qc av.toArray s 0 0 A) 0 (lv_args 0 av) [] w) : Met l y wsy rm (va_Pc av (OKX D tys w A)) Qc 0 0 A := by
  refine Met.ofW (cc := cc) (maxL := maxL) (ret := ret) hy hw ?_
  intro p e s m args below meth c s₁ B hml hv
  obtain ⟨rfl, hP, hK, hD⟩ := hv
  have hown : s.vm.findClass own = some m.cls := by rw [← hyo]; exact findClass_of_methodNamed B.named
  have hl := lv_entry av (n := maxL) hlg
  rw [lg_entry_eq]
  exact body p e s m below meth c ⟨B.exec, B.bytes, hml, hown, atoms_spec (ws := wsy) B.pre, hK⟩ B.returns B.notSynchronized ⟨B.named, B.method⟩ s.heap [] _ hP hD va_S.rf hl
