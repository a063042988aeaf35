/-! THE LAW: its object made, then its walk -/
theorem woL_5c : Cond.classLink RL 10 RX5 ∈ wsL_law := by decide +kernel
theorem woL_5i : Cond.instantiable RX5 6 ∈ wsL_law := by decide +kernel
theorem woL_5n : Cond.initialized RX5 ∈ wsL_law := by decide +kernel
theorem woL_5l : Cond.methodLink RL 95 yX5_init ∈ wsL_law := by decide +kernel
theorem woL_5m : Cond.instanceMethod yX5_init ∈ wsL_law := by decide +kernel
section GO
variable {p : Program} {l : Launch} {e : Env} {s : State} {m : MethodId} {below : List Frame} {meth : Method} {c : Code} {Q : State → Prop}
variable {D : va_G} {cA : Nat → ClassId} {b L : Nat} {xs : Nat → Int32}
set_option maxHeartbeats 4000000 in
set_option maxRecDepth 100000 in
theorem law_go (C : CxX p s m #[.ref b] c D (tysX cA) RL cL_law 7 wsL_law) (hO : KO s) (hX : va_X b L xs s s.heap) (hbl : b < s.heap.size) (hE : ∀ (lv : List (Nat × Value)) (w : va_W), GoX p l e room_1 s m #[.ref b] below meth c D (fun q : Nat => s.heap.size ≤ q) 7 102 687 Q 339 lv [.int 1] w) : GoX p l e room_1 s m #[.ref b] below meth c D (fun q : Nat => s.heap.size ≤ q) 7 0 0 Q 0 [(0, .ref b)] [] [] := by
  refine g_new C (fun _ h => h) inlX5 tyX5 tyX5_ok woL_5c woL_5i woL_5n (ci := 4) rfl [.null, .null, .null, .int 0, .null, .null] dfX5 (by decide) (by decide) dL_law_0 (fun x => ?_)
  refine g_dup C dL_law_3 rfl ?_
  refine g_callI (wc := oX5 x) C hO (fun _ h => h) (c_X5_init l D cA x) gL_law_X5_init rfl rfl rfl woL_5n woL_5l woL_5m rfl (by decide +kernel) (by decide) (Nat.le_of_ble_eq_true rfl) (by decide) dL_law_4 (fun u _ => ?_)
  refine g_re (w2 := WX0 cA x u) (fun H h => W5_P (by rw [List.nil_append] at h; exact h)) (fun B h => W5_D (by rw [List.nil_append] at h; exact h)) ?_
  refine g_astore_n C (lv2 := [(1, .ref x), (0, .ref b)]) dL_law_7 rfl (by decide) rfl ?_
  refine g_wide (k9 := 102) (n9 := 687) (by decide) (by decide) ?_
  refine g_sub (lv2 := [(0, .ref b), (1, .ref (adX5 x u 0))]) [1, 0] rfl ?_
  exact t_B_L_law_8 (Q := fun v => v = 1) (ad := adX5 x u) C hX hbl (fun v lv w hv => by
    have hv : v = 1 := hv
    subst hv
    exact hE lv w) _ _ _ _ _ _ _ _ _ _ _ _ _ _ _ _ _ _ _ _ _ _ (ok_law rfl)
end GO
theorem law_K {s : State} {b : Nat} (hts : ∀ w ∈ lw_tbl, w.before #[Value.ref b] s = true) : ∃ (D : va_G) (cA : Nat → ClassId), va_K D vwCl (tysX cA) s ∧ KO s := by
  obtain ⟨k0, j0, g0⟩ := u_known (C := RX0) (T := TX0) (N := 11) (n := 11) hts inX0 (hts (.instantiable RX0 11) (by decide +kernel))
  obtain ⟨k1, j1, g1⟩ := u_known (C := RX1) (T := TX1) (N := 3) (n := 3) hts inX1 (hts (.instantiable RX1 3) (by decide +kernel))
  obtain ⟨k2, j2, g2⟩ := u_known (C := RX3) (T := TX3) (N := 5) (n := 5) hts inX3 (hts (.instantiable RX3 5) (by decide +kernel))
  obtain ⟨k3, j3, g3⟩ := u_known (C := RX4) (T := TX4) (N := 2) (n := 2) hts inX4 (hts (.instantiable RX4 2) (by decide +kernel))
  obtain ⟨k4, j4, g4⟩ := u_known (C := RX5) (T := TX5) (N := 6) (n := 6) hts inX5 (hts (.instantiable RX5 6) (by decide +kernel))
  have hao : (Cond.arrayOver (.object "ScoreNumbers$State")).before #[Value.ref b] s = true := hts _ (by decide +kernel)
  have haa : (Cond.arrayOver (.array .int)).before #[Value.ref b] s = true := hts _ (by decide +kernel)
  have hac : (Cond.arrayClass .char).before #[Value.ref b] s = true := hts _ (by decide +kernel)
  have hai : (Cond.arrayClass .int).before #[Value.ref b] s = true := hts _ (by decide +kernel)
  have hal : (Cond.arrayClass .long).before #[Value.ref b] s = true := hts _ (by decide +kernel)
  have hnw : nsWays.before #[Value.ref b] s = true := hts _ (by decide +kernel)
  have hne : nsEar.before #[Value.ref b] s = true := hts _ (by decide +kernel)
  have hO : KO s := by
    refine ⟨?_, va_AO.of hao, va_Nw.of rfl hnw, va_Nw.of rfl hne⟩
    unfold va_AOA
    simp only [Cond.before, Cond.holds, Cond.value] at haa ⊢
    exact haa
  obtain ⟨c0, y0, z0, a1, a2, a3⟩ := Cond.arrayClass_spec hac
  obtain ⟨c1, y1, z1, b1, b2, b3⟩ := Cond.arrayClass_spec hai
  obtain ⟨c2, y2, z2, d1, d2, d3⟩ := Cond.arrayClass_spec hal
  obtain ⟨z3, c3, y3, f1, f2, f3, f4, f5⟩ := Cond.arrayOver_spec hao
  obtain ⟨z4, c4, y4, h1, h2, h3, h4⟩ := Cond.arrayOver_specA haa
  refine ⟨(fun k => [k0, k1, k2, k3, k4].getD k 0, fun k => [j0, j1, j2, j3, j4].getD k (fun _ => 0)), fun k => [c0, c1, c2, c3, c4].getD k 0, ⟨fun k q hq => ?_, fun k q hq => ?_⟩, hO⟩
  · match k, hq with
    | 0, hq => cases hq; exact g0
    | 1, hq => cases hq; exact g1
    | 2, hq => cases hq; exact g2
    | 3, hq => cases hq; exact g3
    | 4, hq => cases hq; exact g4
    | k + 5, hq => cases hq
  · match k, hq with
    | 0, hq => cases hq; exact ⟨fun n z => ⟨fun k h => (by cases h), y0, a2, z0, a3⟩, a1⟩
    | 1, hq => cases hq; exact ⟨fun n z => ⟨fun k h => (by cases h), y1, b2, z1, b3⟩, b1⟩
    | 2, hq => cases hq; exact ⟨fun n z => ⟨fun k h => (by cases h), y2, d2, z2, d3⟩, d1⟩
    | 3, hq => cases hq; exact ⟨fun n z => ⟨fun k h => (by cases h), y3, f3, z3, f4⟩, ⟨y3, z3, f3, f4, f1, f5⟩⟩
    | 4, hq => cases hq; exact ⟨fun n z => ⟨fun k h => (by cases h), y4, h2, z4, h3⟩, h4⟩
    | k + 5, hq => cases hq
