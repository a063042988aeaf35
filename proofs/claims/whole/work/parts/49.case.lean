/-! THE LAW'S CASES: class and reference side by side in one heap -/
def INV (adX adM : Nat → Nat) (cA : Nat → ClassId) (T : Nat) (w : va_W) : Prop := ∃ (tl : Int32) (tx : Nat → Int32) (mn : Int32) (sd : Nat → Int64) (e0 e1 e2 e3 e4 e5 e6 e7 e8 e9 e10 fr hd : Int32) (nw kp pt : Nat → Int32) (hr lr : Nat → Nat → Int32) (ms mb my mt mw ml mo : Nat → Int32) (gm gs ga gg gb gu gh gk gl gn gt : Int32), w = WX adX cA tl tx mn sd e0 e1 e2 e3 e4 e5 e6 e7 e8 e9 e10 fr hd nw kp pt hr lr ++ WM adM cA ms mb my mt mw ml mo gm gs ga gg gb gu gh gk gl gn gt ∧ RR T tl tx fr hd nw kp pt hr lr ms mb mt gn gt
theorem INV.mk1 {adX adM : Nat → Nat} {cA : Nat → ClassId} {T : Nat} {tl : Int32} {tx : Nat → Int32} {mn : Int32} {sd : Nat → Int64} {e0 e1 e2 e3 e4 e5 e6 e7 e8 e9 e10 fr hd : Int32} {nw kp pt : Nat → Int32} {hr lr : Nat → Nat → Int32} {ms mb my mt mw ml mo : Nat → Int32} {gm gs ga gg gb gu gh gk gl gn gt : Int32} (h : RR T tl tx fr hd nw kp pt hr lr ms mb mt gn gt) : INV adX adM cA T (WX adX cA tl tx mn sd e0 e1 e2 e3 e4 e5 e6 e7 e8 e9 e10 fr hd nw kp pt hr lr ++ WM adM cA ms mb my mt mw ml mo gm gs ga gg gb gu gh gk gl gn gt) := ⟨tl, tx, mn, sd, e0, e1, e2, e3, e4, e5, e6, e7, e8, e9, e10, fr, hd, nw, kp, pt, hr, lr, ms, mb, my, mt, mw, ml, mo, gm, gs, ga, gg, gb, gu, gh, gk, gl, gn, gt, rfl, h⟩
theorem n64_core {a : UInt64} (h : FP.Core.dIsNaN a = false) : vf_n64 a := by
  have h1 : ¬ 9218868437227405312 < a.toNat % 2 ^ 63 := fun q => by
    rw [(FP.Core.isNaN_bits a).mpr q] at h
    cases h
  unfold vf_n64
  rw [UInt64.le_iff_toNat_le, UInt64.toNat_and]
  have h2 : (0x7fffffffffffffff : UInt64).toNat = 2 ^ 63 - 1 := by decide
  have h3 : (0x7ff0000000000000 : UInt64).toNat = 9218868437227405312 := by decide
  rw [h2, h3, Nat.and_two_pow_sub_one_eq_mod]
  omega
theorem share_n64 {r : UInt32} (h : FP.Core.fIsNaN r = false) : vf_n64 (FP.f2d r) := n64_core ((FP.f2d_nan r).trans h)
theorem share_cmp {r : UInt32} (h : FP.Core.fIsNaN r = false) (op : CmpOp) : Op.cmpValue (FP.dcmp (FP.f2d r) (FP.f2d r)) op = 0 := by
  have e : FP.dcmp (FP.f2d r) (FP.f2d r) = some .eq := FP.Core.dcmp_refl ((FP.f2d_nan r).trans h)
  rw [e]
  rfl
section CASES
variable {p : Program} {l : Launch} {e : Env} {s : State} {m : MethodId} {below : List Frame} {meth : Method} {c : Code} {Q : State → Prop}
variable {D : va_G} {cA : Nat → ClassId} {adX adM : Nat → Nat} {b L T : Nat} {xs : Nat → Int32} {iv : Int32} {w : va_W}
theorem eq_share2 {tl fr hd gn gt : Int32} {tx nw kp pt ms mb mt : Nat → Int32} {hr lr : Nat → Nat → Int32} (hT : T ≤ 100000) (hR : RR T tl tx fr hd nw kp pt hr lr ms mb mt gn gt) : F_X5_share hr (fun r => FP.Core.fIsNaN r = false ∧ F_X6_share ms (fun q => q = r ∧ FP.Core.fIsNaN r = false ∧ RR (T + 1) tl tx fr hd nw kp pt hr lr ms mb mt gn gt)) := by
  have hR0 := RR_1 hR
  obtain ⟨w, F, H, hw, x1, x2, x3, hH, hS⟩ := hR
  obtain ⟨s, s1, s2⟩ := sum_told hS hT
  have at9 : ∀ h c, h < 6 → c < 9 → ms (9 * h + c) = hr h c := fun h c a b => (SR_at hS a b).symm
  have t7 : sumH (rowV ms 0) 6 = sumH (fun h => hr h 7) 6 := sumH_congr 6 (fun h hh => by unfold rowV; rw [if_pos rfl]; exact at9 h 7 hh (by omega))
  have t8 : sumH (rowV ms 1) 6 = sumH (fun h => hr h 8) 6 := sumH_congr 6 (fun h hh => by unfold rowV; rw [if_neg (by decide), if_pos rfl]; exact at9 h 8 hh (by omega))
  unfold F_X5_share B_X5_share_0
  refine sp_total1 (c := 7) (by omega) ⟨fun q => sp_total1 (c := 8) (by omega) ?_, fun q => ?_⟩
  · have hne : sumH (fun h => hr h 7) 6 ≠ 0 := fun e => by rw [e] at q; exact absurd q (by decide)
    have hn := share_core (a := sumH (fun h => hr h 7) 6 - sumH (fun h => hr h 8) 6) hne
    refine ⟨n32_core hn, hn, sp_sumOf ?_⟩
    rw [t7]
    refine ⟨fun q2 => absurd q2 hne, fun _ => sp_sumOf ?_⟩
    rw [t8]
    exact ⟨n32_core hn, rfl, hn, hR0⟩
  · have e : sumH (fun h => hr h 7) 6 = 0 := by
      rw [s2] at q ⊢
      rcases Nat.eq_zero_or_pos s with z | z
      · rw [z]; rfl
      · exact absurd (nI_lt (a := 0) z (by omega)) q
    refine ⟨by decide, sp_sumOf ?_⟩
    rw [t7]
    exact ⟨fun _ => ⟨rfl, by decide, hR0⟩, fun q2 => absurd e q2⟩
set_option maxHeartbeats 4000000 in
set_option maxRecDepth 100000 in
theorem L_learn (C : CxX p s m #[.ref b] c D (tysX cA) RL cL_law 8 wsL_law) (hX : va_X b L xs s s.heap) (hbl : b < s.heap.size) (h1 : vp_in (iv + 1) L) (h2 : vp_in (iv + 2) L) (h3 : vp_in (iv + 3) L) (hT : T ≤ 100000) (hI : INV adX adM cA T w) (K : ∀ w2 : va_W, INV adX adM cA (T + 1) w2 → GoX p l e room_1 s m #[.ref b] below meth c D (fun q : Nat => s.heap.size ≤ q) 8 110 1467 Q 907 [(3, .int iv), (2, .ref (adM 0)), (1, .ref (adX 0)), (0, .ref b)] [] w2) : GoX p l e room_1 s m #[.ref b] below meth c D (fun q : Nat => s.heap.size ≤ q) 8 110 1467 Q 156 [(3, .int iv), (2, .ref (adM 0)), (1, .ref (adX 0)), (0, .ref b)] [] w := by
  obtain ⟨tl, tx, mn, sd, e0, e1, e2, e3, e4, e5, e6, e7, e8, e9, e10, fr, hd, nw, kp, pt, hr, lr, ms, mb, my, mt, mw, ml, mo, gm, gs, ga, gg, gb, gu, gh, gk, gl, gn, gt, rfl, hR⟩ := hI
  refine g_aload_n C 2 dL_law_156 rfl rfl ?_
  refine g_aload_n C 3 dL_law_157 rfl rfl ?_
  refine g_iload_n C 0 dL_law_158 rfl rfl ?_
  refine g_iconst C (1 : Int32) dL_law_159 (by decide) ?_
  refine g_iadd C dL_law_160 ?_
  refine g_sld C hX hbl (Nat.not_le.mpr hbl) h1 dL_law_161 ?_
  refine g_aload_n C 3 dL_law_162 rfl rfl ?_
  refine g_iload_n C 0 dL_law_163 rfl rfl ?_
  refine g_iconst C (2 : Int32) dL_law_164 (by decide) ?_
  refine g_iadd C dL_law_165 ?_
  refine g_sld C hX hbl (Nat.not_le.mpr hbl) h2 dL_law_166 ?_
  refine g_swap ?_
  refine g_call2i C (fun _ h => h) (As := [.int (xs (iv + 1).toNatClampNeg), .int (xs (iv + 2).toNatClampNeg)]) 2 (fun A1 => c_X5_learn l D A1 adX cA (xs (iv + 1).toNatClampNeg) (xs (iv + 2).toNatClampNeg) _ (eq_learn  hR)) gL_law_X5_learn rfl rfl rfl (by decide +kernel) (by decide) 0 WXg0 rfl rfl rfl (Nat.le_of_ble_eq_true rfl) (by decide) (by decide) dL_law_167 (fun r u hu => ?_)
  refine g_swap ?_
  refine g_aload_n C 1 dL_law_170 rfl rfl ?_
  refine g_aload_n C 3 dL_law_171 rfl rfl ?_
  refine g_iload_n C 0 dL_law_172 rfl rfl ?_
  refine g_iconst C (1 : Int32) dL_law_173 (by decide) ?_
  refine g_iadd C dL_law_174 ?_
  refine g_sld C hX hbl (Nat.not_le.mpr hbl) h1 dL_law_175 ?_
  refine g_aload_n C 3 dL_law_176 rfl rfl ?_
  refine g_iload_n C 0 dL_law_177 rfl rfl ?_
  refine g_iconst C (2 : Int32) dL_law_178 (by decide) ?_
  refine g_iadd C dL_law_179 ?_
  refine g_sld C hX hbl (Nat.not_le.mpr hbl) h2 dL_law_180 ?_
  refine g_call2i C (fun _ h => h) (As := [.int (xs (iv + 1).toNatClampNeg), .int (xs (iv + 2).toNatClampNeg)]) 2 (fun A1 => c_X6_learn l D A1 adM cA (xs (iv + 1).toNatClampNeg) (xs (iv + 2).toNatClampNeg) _ hu) gL_law_X6_learn rfl rfl rfl (by decide +kernel) (by decide) 0 WMg0 rfl rfl rfl (Nat.le_of_ble_eq_true rfl) (by decide) (by decide) dL_law_181 (fun q v hv => ?_)
  exact g_icmp_eq C 907 dL_law_184 (by decide) (fun _ => K _ (INV.mk1 hv.2)) (fun hne => absurd hv.1.symm hne)
set_option maxHeartbeats 4000000 in
set_option maxRecDepth 100000 in
theorem L_unlearn (C : CxX p s m #[.ref b] c D (tysX cA) RL cL_law 8 wsL_law) (hX : va_X b L xs s s.heap) (hbl : b < s.heap.size) (h1 : vp_in (iv + 1) L) (h2 : vp_in (iv + 2) L) (h3 : vp_in (iv + 3) L) (hT : T ≤ 100000) (hI : INV adX adM cA T w) (K : ∀ w2 : va_W, INV adX adM cA (T + 1) w2 → GoX p l e room_1 s m #[.ref b] below meth c D (fun q : Nat => s.heap.size ≤ q) 8 110 1467 Q 907 [(3, .int iv), (2, .ref (adM 0)), (1, .ref (adX 0)), (0, .ref b)] [] w2) : GoX p l e room_1 s m #[.ref b] below meth c D (fun q : Nat => s.heap.size ≤ q) 8 110 1467 Q 189 [(3, .int iv), (2, .ref (adM 0)), (1, .ref (adX 0)), (0, .ref b)] [] w := by
  obtain ⟨tl, tx, mn, sd, e0, e1, e2, e3, e4, e5, e6, e7, e8, e9, e10, fr, hd, nw, kp, pt, hr, lr, ms, mb, my, mt, mw, ml, mo, gm, gs, ga, gg, gb, gu, gh, gk, gl, gn, gt, rfl, hR⟩ := hI
  refine g_aload_n C 2 dL_law_189 rfl rfl ?_
  refine g_aload_n C 3 dL_law_190 rfl rfl ?_
  refine g_iload_n C 0 dL_law_191 rfl rfl ?_
  refine g_iconst C (1 : Int32) dL_law_192 (by decide) ?_
  refine g_iadd C dL_law_193 ?_
  refine g_sld C hX hbl (Nat.not_le.mpr hbl) h1 dL_law_194 ?_
  refine g_aload_n C 3 dL_law_195 rfl rfl ?_
  refine g_iload_n C 0 dL_law_196 rfl rfl ?_
  refine g_iconst C (2 : Int32) dL_law_197 (by decide) ?_
  refine g_iadd C dL_law_198 ?_
  refine g_sld C hX hbl (Nat.not_le.mpr hbl) h2 dL_law_199 ?_
  refine g_swap ?_
  refine g_call2i C (fun _ h => h) (As := [.int (xs (iv + 1).toNatClampNeg), .int (xs (iv + 2).toNatClampNeg)]) 2 (fun A1 => c_X5_unlearn l D A1 adX cA (xs (iv + 1).toNatClampNeg) (xs (iv + 2).toNatClampNeg) _ (eq_unlearn  hR)) gL_law_X5_unlearn rfl rfl rfl (by decide +kernel) (by decide) 0 WXg0 rfl rfl rfl (Nat.le_of_ble_eq_true rfl) (by decide) (by decide) dL_law_200 (fun r u hu => ?_)
  refine g_swap ?_
  refine g_aload_n C 1 dL_law_203 rfl rfl ?_
  refine g_aload_n C 3 dL_law_204 rfl rfl ?_
  refine g_iload_n C 0 dL_law_205 rfl rfl ?_
  refine g_iconst C (1 : Int32) dL_law_206 (by decide) ?_
  refine g_iadd C dL_law_207 ?_
  refine g_sld C hX hbl (Nat.not_le.mpr hbl) h1 dL_law_208 ?_
  refine g_aload_n C 3 dL_law_209 rfl rfl ?_
  refine g_iload_n C 0 dL_law_210 rfl rfl ?_
  refine g_iconst C (2 : Int32) dL_law_211 (by decide) ?_
  refine g_iadd C dL_law_212 ?_
  refine g_sld C hX hbl (Nat.not_le.mpr hbl) h2 dL_law_213 ?_
  refine g_call2i C (fun _ h => h) (As := [.int (xs (iv + 1).toNatClampNeg), .int (xs (iv + 2).toNatClampNeg)]) 2 (fun A1 => c_X6_unlearn l D A1 adM cA (xs (iv + 1).toNatClampNeg) (xs (iv + 2).toNatClampNeg) _ hu) gL_law_X6_unlearn rfl rfl rfl (by decide +kernel) (by decide) 0 WMg0 rfl rfl rfl (Nat.le_of_ble_eq_true rfl) (by decide) (by decide) dL_law_214 (fun q v hv => ?_)
  exact g_icmp_eq C 907 dL_law_217 (by decide) (fun _ => K _ (INV.mk1 hv.2)) (fun hne => absurd hv.1.symm hne)
set_option maxHeartbeats 4000000 in
set_option maxRecDepth 100000 in
theorem L_attend (C : CxX p s m #[.ref b] c D (tysX cA) RL cL_law 8 wsL_law) (hX : va_X b L xs s s.heap) (hbl : b < s.heap.size) (h1 : vp_in (iv + 1) L) (h2 : vp_in (iv + 2) L) (h3 : vp_in (iv + 3) L) (hT : T ≤ 100000) (hI : INV adX adM cA T w) (K : ∀ w2 : va_W, INV adX adM cA (T + 1) w2 → GoX p l e room_1 s m #[.ref b] below meth c D (fun q : Nat => s.heap.size ≤ q) 8 110 1467 Q 907 [(3, .int iv), (2, .ref (adM 0)), (1, .ref (adX 0)), (0, .ref b)] [] w2) : GoX p l e room_1 s m #[.ref b] below meth c D (fun q : Nat => s.heap.size ≤ q) 8 110 1467 Q 222 [(3, .int iv), (2, .ref (adM 0)), (1, .ref (adX 0)), (0, .ref b)] [] w := by
  obtain ⟨tl, tx, mn, sd, e0, e1, e2, e3, e4, e5, e6, e7, e8, e9, e10, fr, hd, nw, kp, pt, hr, lr, ms, mb, my, mt, mw, ml, mo, gm, gs, ga, gg, gb, gu, gh, gk, gl, gn, gt, rfl, hR⟩ := hI
  refine g_aload_n C 2 dL_law_222 rfl rfl ?_
  refine g_aload_n C 3 dL_law_223 rfl rfl ?_
  refine g_iload_n C 0 dL_law_224 rfl rfl ?_
  refine g_iconst C (1 : Int32) dL_law_225 (by decide) ?_
  refine g_iadd C dL_law_226 ?_
  refine g_sld C hX hbl (Nat.not_le.mpr hbl) h1 dL_law_227 ?_
  refine g_aload_n C 3 dL_law_228 rfl rfl ?_
  refine g_iload_n C 0 dL_law_229 rfl rfl ?_
  refine g_iconst C (2 : Int32) dL_law_230 (by decide) ?_
  refine g_iadd C dL_law_231 ?_
  refine g_sld C hX hbl (Nat.not_le.mpr hbl) h2 dL_law_232 ?_
  refine g_swap ?_
  refine g_call2i C (fun _ h => h) (As := [.int (xs (iv + 1).toNatClampNeg), .int (xs (iv + 2).toNatClampNeg)]) 2 (fun A1 => c_X5_attend l D A1 adX cA (xs (iv + 1).toNatClampNeg) (xs (iv + 2).toNatClampNeg) _ (eq_attend  hR)) gL_law_X5_attend rfl rfl rfl (by decide +kernel) (by decide) 0 WXg0 rfl rfl rfl (Nat.le_of_ble_eq_true rfl) (by decide) (by decide) dL_law_233 (fun r u hu => ?_)
  refine g_swap ?_
  refine g_aload_n C 1 dL_law_236 rfl rfl ?_
  refine g_aload_n C 3 dL_law_237 rfl rfl ?_
  refine g_iload_n C 0 dL_law_238 rfl rfl ?_
  refine g_iconst C (1 : Int32) dL_law_239 (by decide) ?_
  refine g_iadd C dL_law_240 ?_
  refine g_sld C hX hbl (Nat.not_le.mpr hbl) h1 dL_law_241 ?_
  refine g_aload_n C 3 dL_law_242 rfl rfl ?_
  refine g_iload_n C 0 dL_law_243 rfl rfl ?_
  refine g_iconst C (2 : Int32) dL_law_244 (by decide) ?_
  refine g_iadd C dL_law_245 ?_
  refine g_sld C hX hbl (Nat.not_le.mpr hbl) h2 dL_law_246 ?_
  refine g_call2i C (fun _ h => h) (As := [.int (xs (iv + 1).toNatClampNeg), .int (xs (iv + 2).toNatClampNeg)]) 2 (fun A1 => c_X6_attend l D A1 adM cA (xs (iv + 1).toNatClampNeg) (xs (iv + 2).toNatClampNeg) _ hu) gL_law_X6_attend rfl rfl rfl (by decide +kernel) (by decide) 0 WMg0 rfl rfl rfl (Nat.le_of_ble_eq_true rfl) (by decide) (by decide) dL_law_247 (fun q v hv => ?_)
  exact g_icmp_eq C 907 dL_law_250 (by decide) (fun _ => K _ (INV.mk1 hv.2)) (fun hne => absurd hv.1.symm hne)
set_option maxHeartbeats 4000000 in
set_option maxRecDepth 100000 in
theorem L_set (C : CxX p s m #[.ref b] c D (tysX cA) RL cL_law 8 wsL_law) (hX : va_X b L xs s s.heap) (hbl : b < s.heap.size) (h1 : vp_in (iv + 1) L) (h2 : vp_in (iv + 2) L) (h3 : vp_in (iv + 3) L) (hT : T ≤ 100000) (hI : INV adX adM cA T w) (K : ∀ w2 : va_W, INV adX adM cA (T + 1) w2 → GoX p l e room_1 s m #[.ref b] below meth c D (fun q : Nat => s.heap.size ≤ q) 8 110 1467 Q 907 [(3, .int iv), (2, .ref (adM 0)), (1, .ref (adX 0)), (0, .ref b)] [] w2) : GoX p l e room_1 s m #[.ref b] below meth c D (fun q : Nat => s.heap.size ≤ q) 8 110 1467 Q 255 [(3, .int iv), (2, .ref (adM 0)), (1, .ref (adX 0)), (0, .ref b)] [] w := by
  obtain ⟨tl, tx, mn, sd, e0, e1, e2, e3, e4, e5, e6, e7, e8, e9, e10, fr, hd, nw, kp, pt, hr, lr, ms, mb, my, mt, mw, ml, mo, gm, gs, ga, gg, gb, gu, gh, gk, gl, gn, gt, rfl, hR⟩ := hI
  refine g_aload_n C 2 dL_law_255 rfl rfl ?_
  refine g_aload_n C 3 dL_law_256 rfl rfl ?_
  refine g_iload_n C 0 dL_law_257 rfl rfl ?_
  refine g_iconst C (1 : Int32) dL_law_258 (by decide) ?_
  refine g_iadd C dL_law_259 ?_
  refine g_sld C hX hbl (Nat.not_le.mpr hbl) h1 dL_law_260 ?_
  refine g_swap ?_
  refine g_call2i C (fun _ h => h) (As := [.int (xs (iv + 1).toNatClampNeg)]) 1 (fun A1 => c_X5_set l D A1 adX cA (xs (iv + 1).toNatClampNeg) _ (eq_set  hR)) gL_law_X5_set rfl rfl rfl (by decide +kernel) (by decide) 0 WXg0 rfl rfl rfl (Nat.le_of_ble_eq_true rfl) (by decide) (by decide) dL_law_261 (fun r u hu => ?_)
  refine g_swap ?_
  refine g_aload_n C 1 dL_law_264 rfl rfl ?_
  refine g_aload_n C 3 dL_law_265 rfl rfl ?_
  refine g_iload_n C 0 dL_law_266 rfl rfl ?_
  refine g_iconst C (1 : Int32) dL_law_267 (by decide) ?_
  refine g_iadd C dL_law_268 ?_
  refine g_sld C hX hbl (Nat.not_le.mpr hbl) h1 dL_law_269 ?_
  refine g_call2i C (fun _ h => h) (As := [.int (xs (iv + 1).toNatClampNeg)]) 1 (fun A1 => c_X6_set l D A1 adM cA (xs (iv + 1).toNatClampNeg) _ hu) gL_law_X6_set rfl rfl rfl (by decide +kernel) (by decide) 0 WMg0 rfl rfl rfl (Nat.le_of_ble_eq_true rfl) (by decide) (by decide) dL_law_270 (fun q v hv => ?_)
  exact g_icmp_eq C 907 dL_law_273 (by decide) (fun _ => K _ (INV.mk1 hv.2)) (fun hne => absurd hv.1.symm hne)
set_option maxHeartbeats 4000000 in
set_option maxRecDepth 100000 in
theorem L_tell (C : CxX p s m #[.ref b] c D (tysX cA) RL cL_law 8 wsL_law) (hX : va_X b L xs s s.heap) (hbl : b < s.heap.size) (h1 : vp_in (iv + 1) L) (h2 : vp_in (iv + 2) L) (h3 : vp_in (iv + 3) L) (hT : T ≤ 100000) (hI : INV adX adM cA T w) (K : ∀ w2 : va_W, INV adX adM cA (T + 1) w2 → GoX p l e room_1 s m #[.ref b] below meth c D (fun q : Nat => s.heap.size ≤ q) 8 110 1467 Q 907 [(3, .int iv), (2, .ref (adM 0)), (1, .ref (adX 0)), (0, .ref b)] [] w2) : GoX p l e room_1 s m #[.ref b] below meth c D (fun q : Nat => s.heap.size ≤ q) 8 110 1467 Q 278 [(3, .int iv), (2, .ref (adM 0)), (1, .ref (adX 0)), (0, .ref b)] [] w := by
  obtain ⟨tl, tx, mn, sd, e0, e1, e2, e3, e4, e5, e6, e7, e8, e9, e10, fr, hd, nw, kp, pt, hr, lr, ms, mb, my, mt, mw, ml, mo, gm, gs, ga, gg, gb, gu, gh, gk, gl, gn, gt, rfl, hR⟩ := hI
  refine g_aload_n C 2 dL_law_278 rfl rfl ?_
  refine g_aload_n C 3 dL_law_279 rfl rfl ?_
  refine g_iload_n C 0 dL_law_280 rfl rfl ?_
  refine g_iconst C (1 : Int32) dL_law_281 (by decide) ?_
  refine g_iadd C dL_law_282 ?_
  refine g_sld C hX hbl (Nat.not_le.mpr hbl) h1 dL_law_283 ?_
  refine g_aload_n C 3 dL_law_284 rfl rfl ?_
  refine g_iload_n C 0 dL_law_285 rfl rfl ?_
  refine g_iconst C (2 : Int32) dL_law_286 (by decide) ?_
  refine g_iadd C dL_law_287 ?_
  refine g_sld C hX hbl (Nat.not_le.mpr hbl) h2 dL_law_288 ?_
  refine g_aload_n C 3 dL_law_289 rfl rfl ?_
  refine g_iload_n C 0 dL_law_290 rfl rfl ?_
  refine g_iconst C (3 : Int32) dL_law_291 (by decide) ?_
  refine g_iadd C dL_law_292 ?_
  refine g_sld C hX hbl (Nat.not_le.mpr hbl) h3 dL_law_293 ?_
  refine g_swap ?_
  refine g_call2i C (fun _ h => h) (As := [.int (xs (iv + 1).toNatClampNeg), .int (xs (iv + 2).toNatClampNeg), .int (xs (iv + 3).toNatClampNeg)]) 3 (fun A1 => c_X5_tell l D A1 adX cA (xs (iv + 1).toNatClampNeg) (xs (iv + 2).toNatClampNeg) (xs (iv + 3).toNatClampNeg) _ (eq_tell (mn := mn) (sd := sd) (e0 := e0) (e1 := e1) (e2 := e2) (e3 := e3) (e4 := e4) (e5 := e5) (e6 := e6) (e7 := e7) (e8 := e8) (e9 := e9) (e10 := e10) (my := my) (mw := mw) (ml := ml) (mo := mo) (gm := gm) (gs := gs) (ga := ga) (gg := gg) (gb := gb) (gu := gu) (gh := gh) (gk := gk) (gl := gl) hR)) gL_law_X5_tell rfl rfl rfl (by decide +kernel) (by decide) 0 WXg0 rfl rfl rfl (Nat.le_of_ble_eq_true rfl) (by decide) (by decide) dL_law_294 (fun r u hu => ?_)
  refine g_swap ?_
  refine g_aload_n C 1 dL_law_297 rfl rfl ?_
  refine g_aload_n C 3 dL_law_298 rfl rfl ?_
  refine g_iload_n C 0 dL_law_299 rfl rfl ?_
  refine g_iconst C (1 : Int32) dL_law_300 (by decide) ?_
  refine g_iadd C dL_law_301 ?_
  refine g_sld C hX hbl (Nat.not_le.mpr hbl) h1 dL_law_302 ?_
  refine g_aload_n C 3 dL_law_303 rfl rfl ?_
  refine g_iload_n C 0 dL_law_304 rfl rfl ?_
  refine g_iconst C (2 : Int32) dL_law_305 (by decide) ?_
  refine g_iadd C dL_law_306 ?_
  refine g_sld C hX hbl (Nat.not_le.mpr hbl) h2 dL_law_307 ?_
  refine g_aload_n C 3 dL_law_308 rfl rfl ?_
  refine g_iload_n C 0 dL_law_309 rfl rfl ?_
  refine g_iconst C (3 : Int32) dL_law_310 (by decide) ?_
  refine g_iadd C dL_law_311 ?_
  refine g_sld C hX hbl (Nat.not_le.mpr hbl) h3 dL_law_312 ?_
  refine g_call2i C (fun _ h => h) (As := [.int (xs (iv + 1).toNatClampNeg), .int (xs (iv + 2).toNatClampNeg), .int (xs (iv + 3).toNatClampNeg)]) 3 (fun A1 => c_X6_tell l D A1 adM cA (xs (iv + 1).toNatClampNeg) (xs (iv + 2).toNatClampNeg) (xs (iv + 3).toNatClampNeg) _ hu) gL_law_X6_tell rfl rfl rfl (by decide +kernel) (by decide) 0 WMg0 rfl rfl rfl (Nat.le_of_ble_eq_true rfl) (by decide) (by decide) dL_law_313 (fun q v hv => ?_)
  exact g_icmp_eq C 907 dL_law_316 (by decide) (fun _ => K _ (INV.mk1 hv.2)) (fun hne => absurd hv.1.symm hne)
set_option maxHeartbeats 4000000 in
set_option maxRecDepth 100000 in
theorem L_tellText (C : CxX p s m #[.ref b] c D (tysX cA) RL cL_law 8 wsL_law) (hX : va_X b L xs s s.heap) (hbl : b < s.heap.size) (h1 : vp_in (iv + 1) L) (h2 : vp_in (iv + 2) L) (h3 : vp_in (iv + 3) L) (hT : T ≤ 100000) (hI : INV adX adM cA T w) (K : ∀ w2 : va_W, INV adX adM cA (T + 1) w2 → GoX p l e room_1 s m #[.ref b] below meth c D (fun q : Nat => s.heap.size ≤ q) 8 110 1467 Q 907 [(3, .int iv), (2, .ref (adM 0)), (1, .ref (adX 0)), (0, .ref b)] [] w2) : GoX p l e room_1 s m #[.ref b] below meth c D (fun q : Nat => s.heap.size ≤ q) 8 110 1467 Q 321 [(3, .int iv), (2, .ref (adM 0)), (1, .ref (adX 0)), (0, .ref b)] [] w := by
  obtain ⟨tl, tx, mn, sd, e0, e1, e2, e3, e4, e5, e6, e7, e8, e9, e10, fr, hd, nw, kp, pt, hr, lr, ms, mb, my, mt, mw, ml, mo, gm, gs, ga, gg, gb, gu, gh, gk, gl, gn, gt, rfl, hR⟩ := hI
  refine g_aload_n C 2 dL_law_321 rfl rfl ?_
  refine g_aload_n C 3 dL_law_322 rfl rfl ?_
  refine g_iload_n C 0 dL_law_323 rfl rfl ?_
  refine g_iconst C (1 : Int32) dL_law_324 (by decide) ?_
  refine g_iadd C dL_law_325 ?_
  refine g_sld C hX hbl (Nat.not_le.mpr hbl) h1 dL_law_326 ?_
  refine g_swap ?_
  refine g_call2i C (fun _ h => h) (As := [.int (xs (iv + 1).toNatClampNeg)]) 1 (fun A1 => c_X5_tellText l D A1 adX cA (xs (iv + 1).toNatClampNeg) _ (eq_tellText (e0 := e0) (e1 := e1) (e2 := e2) (e3 := e3) (e4 := e4) (e5 := e5) (e6 := e6) (e7 := e7) (e8 := e8) (e9 := e9) (e10 := e10) (my := my) (gs := gs) (ga := ga) (gg := gg) (gb := gb) (gu := gu) (gh := gh) (gk := gk) (gl := gl) hR)) gL_law_X5_tellText rfl rfl rfl (by decide +kernel) (by decide) 0 WXg0 rfl rfl rfl (Nat.le_of_ble_eq_true rfl) (by decide) (by decide) dL_law_327 (fun r u hu => ?_)
  refine g_swap ?_
  refine g_aload_n C 1 dL_law_330 rfl rfl ?_
  refine g_aload_n C 3 dL_law_331 rfl rfl ?_
  refine g_iload_n C 0 dL_law_332 rfl rfl ?_
  refine g_iconst C (1 : Int32) dL_law_333 (by decide) ?_
  refine g_iadd C dL_law_334 ?_
  refine g_sld C hX hbl (Nat.not_le.mpr hbl) h1 dL_law_335 ?_
  refine g_call2i C (fun _ h => h) (As := [.int (xs (iv + 1).toNatClampNeg)]) 1 (fun A1 => c_X6_tellText l D A1 adM cA (xs (iv + 1).toNatClampNeg) _ hu) gL_law_X6_tellText rfl rfl rfl (by decide +kernel) (by decide) 0 WMg0 rfl rfl rfl (Nat.le_of_ble_eq_true rfl) (by decide) (by decide) dL_law_336 (fun q v hv => ?_)
  exact g_icmp_eq C 907 dL_law_339 (by decide) (fun _ => K _ (INV.mk1 hv.2)) (fun hne => absurd hv.1.symm hne)
set_option maxHeartbeats 4000000 in
set_option maxRecDepth 100000 in
theorem L_append (C : CxX p s m #[.ref b] c D (tysX cA) RL cL_law 8 wsL_law) (hX : va_X b L xs s s.heap) (hbl : b < s.heap.size) (h1 : vp_in (iv + 1) L) (h2 : vp_in (iv + 2) L) (h3 : vp_in (iv + 3) L) (hT : T ≤ 100000) (hI : INV adX adM cA T w) (K : ∀ w2 : va_W, INV adX adM cA (T + 1) w2 → GoX p l e room_1 s m #[.ref b] below meth c D (fun q : Nat => s.heap.size ≤ q) 8 110 1467 Q 907 [(3, .int iv), (2, .ref (adM 0)), (1, .ref (adX 0)), (0, .ref b)] [] w2) : GoX p l e room_1 s m #[.ref b] below meth c D (fun q : Nat => s.heap.size ≤ q) 8 110 1467 Q 344 [(3, .int iv), (2, .ref (adM 0)), (1, .ref (adX 0)), (0, .ref b)] [] w := by
  obtain ⟨tl, tx, mn, sd, e0, e1, e2, e3, e4, e5, e6, e7, e8, e9, e10, fr, hd, nw, kp, pt, hr, lr, ms, mb, my, mt, mw, ml, mo, gm, gs, ga, gg, gb, gu, gh, gk, gl, gn, gt, rfl, hR⟩ := hI
  refine g_aload_n C 2 dL_law_344 rfl rfl ?_
  refine g_aload_n C 3 dL_law_345 rfl rfl ?_
  refine g_iload_n C 0 dL_law_346 rfl rfl ?_
  refine g_iconst C (1 : Int32) dL_law_347 (by decide) ?_
  refine g_iadd C dL_law_348 ?_
  refine g_sld C hX hbl (Nat.not_le.mpr hbl) h1 dL_law_349 ?_
  refine g_swap ?_
  refine g_call2i C (fun _ h => h) (As := [.int (xs (iv + 1).toNatClampNeg)]) 1 (fun A1 => c_X5_append l D A1 adX cA (xs (iv + 1).toNatClampNeg) _ (eq_append  hR)) gL_law_X5_append rfl rfl rfl (by decide +kernel) (by decide) 0 WXg0 rfl rfl rfl (Nat.le_of_ble_eq_true rfl) (by decide) (by decide) dL_law_350 (fun r u hu => ?_)
  refine g_swap ?_
  refine g_aload_n C 1 dL_law_353 rfl rfl ?_
  refine g_aload_n C 3 dL_law_354 rfl rfl ?_
  refine g_iload_n C 0 dL_law_355 rfl rfl ?_
  refine g_iconst C (1 : Int32) dL_law_356 (by decide) ?_
  refine g_iadd C dL_law_357 ?_
  refine g_sld C hX hbl (Nat.not_le.mpr hbl) h1 dL_law_358 ?_
  refine g_call2i C (fun _ h => h) (As := [.int (xs (iv + 1).toNatClampNeg)]) 1 (fun A1 => c_X6_append l D A1 adM cA (xs (iv + 1).toNatClampNeg) _ hu) gL_law_X6_append rfl rfl rfl (by decide +kernel) (by decide) 0 WMg0 rfl rfl rfl (Nat.le_of_ble_eq_true rfl) (by decide) (by decide) dL_law_359 (fun q v hv => ?_)
  exact g_icmp_eq C 907 dL_law_362 (by decide) (fun _ => K _ (INV.mk1 hv.2)) (fun hne => absurd hv.1.symm hne)
set_option maxHeartbeats 4000000 in
set_option maxRecDepth 100000 in
theorem L_clearText (C : CxX p s m #[.ref b] c D (tysX cA) RL cL_law 8 wsL_law) (hX : va_X b L xs s s.heap) (hbl : b < s.heap.size) (h1 : vp_in (iv + 1) L) (h2 : vp_in (iv + 2) L) (h3 : vp_in (iv + 3) L) (hT : T ≤ 100000) (hI : INV adX adM cA T w) (K : ∀ w2 : va_W, INV adX adM cA (T + 1) w2 → GoX p l e room_1 s m #[.ref b] below meth c D (fun q : Nat => s.heap.size ≤ q) 8 110 1467 Q 907 [(3, .int iv), (2, .ref (adM 0)), (1, .ref (adX 0)), (0, .ref b)] [] w2) : GoX p l e room_1 s m #[.ref b] below meth c D (fun q : Nat => s.heap.size ≤ q) 8 110 1467 Q 367 [(3, .int iv), (2, .ref (adM 0)), (1, .ref (adX 0)), (0, .ref b)] [] w := by
  obtain ⟨tl, tx, mn, sd, e0, e1, e2, e3, e4, e5, e6, e7, e8, e9, e10, fr, hd, nw, kp, pt, hr, lr, ms, mb, my, mt, mw, ml, mo, gm, gs, ga, gg, gb, gu, gh, gk, gl, gn, gt, rfl, hR⟩ := hI
  refine g_aload_n C 2 dL_law_367 rfl rfl ?_
  refine g_swap ?_
  refine g_call2i C (fun _ h => h) (As := []) 0 (fun A1 => c_X5_clearText l D A1 adX cA  _ (eq_clearText  hR)) gL_law_X5_clearText rfl rfl rfl (by decide +kernel) (by decide) 0 WXg0 rfl rfl rfl (Nat.le_of_ble_eq_true rfl) (by decide) (by decide) dL_law_368 (fun r u hu => ?_)
  refine g_swap ?_
  refine g_aload_n C 1 dL_law_371 rfl rfl ?_
  refine g_call2i C (fun _ h => h) (As := []) 0 (fun A1 => c_X6_clearText l D A1 adM cA  _ hu) gL_law_X6_clearText rfl rfl rfl (by decide +kernel) (by decide) 0 WMg0 rfl rfl rfl (Nat.le_of_ble_eq_true rfl) (by decide) (by decide) dL_law_372 (fun q v hv => ?_)
  exact g_icmp_eq C 907 dL_law_375 (by decide) (fun _ => K _ (INV.mk1 hv.2)) (fun hne => absurd hv.1.symm hne)
set_option maxHeartbeats 4000000 in
set_option maxRecDepth 100000 in
theorem L_fault (C : CxX p s m #[.ref b] c D (tysX cA) RL cL_law 8 wsL_law) (hX : va_X b L xs s s.heap) (hbl : b < s.heap.size) (h1 : vp_in (iv + 1) L) (h2 : vp_in (iv + 2) L) (h3 : vp_in (iv + 3) L) (hT : T ≤ 100000) (hI : INV adX adM cA T w) (K : ∀ w2 : va_W, INV adX adM cA (T + 1) w2 → GoX p l e room_1 s m #[.ref b] below meth c D (fun q : Nat => s.heap.size ≤ q) 8 110 1467 Q 907 [(3, .int iv), (2, .ref (adM 0)), (1, .ref (adX 0)), (0, .ref b)] [] w2) : GoX p l e room_1 s m #[.ref b] below meth c D (fun q : Nat => s.heap.size ≤ q) 8 110 1467 Q 380 [(3, .int iv), (2, .ref (adM 0)), (1, .ref (adX 0)), (0, .ref b)] [] w := by
  obtain ⟨tl, tx, mn, sd, e0, e1, e2, e3, e4, e5, e6, e7, e8, e9, e10, fr, hd, nw, kp, pt, hr, lr, ms, mb, my, mt, mw, ml, mo, gm, gs, ga, gg, gb, gu, gh, gk, gl, gn, gt, rfl, hR⟩ := hI
  refine g_aload_n C 2 dL_law_380 rfl rfl ?_
  refine g_swap ?_
  refine g_call2i C (fun _ h => h) (As := []) 0 (fun A1 => c_X5_fault l D A1 adX cA  _ (eq_fault (e0 := e0) (e1 := e1) (e2 := e2) (e3 := e3) (e4 := e4) (e5 := e5) (e6 := e6) (e7 := e7) (e8 := e8) (e9 := e9) (e10 := e10) (my := my) (gs := gs) (ga := ga) (gg := gg) (gb := gb) (gu := gu) (gh := gh) (gk := gk) (gl := gl) hR)) gL_law_X5_fault rfl rfl rfl (by decide +kernel) (by decide) 0 WXg0 rfl rfl rfl (Nat.le_of_ble_eq_true rfl) (by decide) (by decide) dL_law_381 (fun r u hu => ?_)
  refine g_swap ?_
  refine g_aload_n C 1 dL_law_384 rfl rfl ?_
  refine g_call2i C (fun _ h => h) (As := []) 0 (fun A1 => c_X6_fault l D A1 adM cA  _ hu) gL_law_X6_fault rfl rfl rfl (by decide +kernel) (by decide) 0 WMg0 rfl rfl rfl (Nat.le_of_ble_eq_true rfl) (by decide) (by decide) dL_law_385 (fun q v hv => ?_)
  exact g_icmp_eq C 907 dL_law_388 (by decide) (fun _ => K _ (INV.mk1 hv.2)) (fun hne => absurd hv.1.symm hne)
set_option maxHeartbeats 4000000 in
set_option maxRecDepth 100000 in
theorem L_meaning (C : CxX p s m #[.ref b] c D (tysX cA) RL cL_law 8 wsL_law) (hX : va_X b L xs s s.heap) (hbl : b < s.heap.size) (h1 : vp_in (iv + 1) L) (h2 : vp_in (iv + 2) L) (h3 : vp_in (iv + 3) L) (hT : T ≤ 100000) (hI : INV adX adM cA T w) (K : ∀ w2 : va_W, INV adX adM cA (T + 1) w2 → GoX p l e room_1 s m #[.ref b] below meth c D (fun q : Nat => s.heap.size ≤ q) 8 110 1467 Q 907 [(3, .int iv), (2, .ref (adM 0)), (1, .ref (adX 0)), (0, .ref b)] [] w2) : GoX p l e room_1 s m #[.ref b] below meth c D (fun q : Nat => s.heap.size ≤ q) 8 110 1467 Q 393 [(3, .int iv), (2, .ref (adM 0)), (1, .ref (adX 0)), (0, .ref b)] [] w := by
  obtain ⟨tl, tx, mn, sd, e0, e1, e2, e3, e4, e5, e6, e7, e8, e9, e10, fr, hd, nw, kp, pt, hr, lr, ms, mb, my, mt, mw, ml, mo, gm, gs, ga, gg, gb, gu, gh, gk, gl, gn, gt, rfl, hR⟩ := hI
  refine g_aload_n C 2 dL_law_393 rfl rfl ?_
  refine g_swap ?_
  refine g_call2i C (fun _ h => h) (As := []) 0 (fun A1 => c_X5_meaning l D A1 adX cA  _ (eq_meaning (e0 := e0) (e1 := e1) (e2 := e2) (e3 := e3) (e4 := e4) (e5 := e5) (e6 := e6) (e7 := e7) (e8 := e8) (e9 := e9) (e10 := e10) (my := my) (gs := gs) (ga := ga) (gg := gg) (gb := gb) (gu := gu) (gh := gh) (gk := gk) (gl := gl) hR)) gL_law_X5_meaning rfl rfl rfl (by decide +kernel) (by decide) 0 WXg0 rfl rfl rfl (Nat.le_of_ble_eq_true rfl) (by decide) (by decide) dL_law_394 (fun r u hu => ?_)
  refine g_swap ?_
  refine g_aload_n C 1 dL_law_397 rfl rfl ?_
  refine g_call2i C (fun _ h => h) (As := []) 0 (fun A1 => c_X6_meaning l D A1 adM cA  _ hu) gL_law_X6_meaning rfl rfl rfl (by decide +kernel) (by decide) 0 WMg0 rfl rfl rfl (Nat.le_of_ble_eq_true rfl) (by decide) (by decide) dL_law_398 (fun q v hv => ?_)
  exact g_icmp_eq C 907 dL_law_401 (by decide) (fun _ => K _ (INV.mk1 hv.2)) (fun hne => absurd hv.1.symm hne)
set_option maxHeartbeats 4000000 in
set_option maxRecDepth 100000 in
theorem L_undo (C : CxX p s m #[.ref b] c D (tysX cA) RL cL_law 8 wsL_law) (hX : va_X b L xs s s.heap) (hbl : b < s.heap.size) (h1 : vp_in (iv + 1) L) (h2 : vp_in (iv + 2) L) (h3 : vp_in (iv + 3) L) (hT : T ≤ 100000) (hI : INV adX adM cA T w) (K : ∀ w2 : va_W, INV adX adM cA (T + 1) w2 → GoX p l e room_1 s m #[.ref b] below meth c D (fun q : Nat => s.heap.size ≤ q) 8 110 1467 Q 907 [(3, .int iv), (2, .ref (adM 0)), (1, .ref (adX 0)), (0, .ref b)] [] w2) : GoX p l e room_1 s m #[.ref b] below meth c D (fun q : Nat => s.heap.size ≤ q) 8 110 1467 Q 406 [(3, .int iv), (2, .ref (adM 0)), (1, .ref (adX 0)), (0, .ref b)] [] w := by
  obtain ⟨tl, tx, mn, sd, e0, e1, e2, e3, e4, e5, e6, e7, e8, e9, e10, fr, hd, nw, kp, pt, hr, lr, ms, mb, my, mt, mw, ml, mo, gm, gs, ga, gg, gb, gu, gh, gk, gl, gn, gt, rfl, hR⟩ := hI
  refine g_aload_n C 2 dL_law_406 rfl rfl ?_
  refine g_swap ?_
  refine g_call2i C (fun _ h => h) (As := []) 0 (fun A1 => c_X5_undo l D A1 adX cA  _ (eq_undo  hR)) gL_law_X5_undo rfl rfl rfl (by decide +kernel) (by decide) 0 WXg0 rfl rfl rfl (Nat.le_of_ble_eq_true rfl) (by decide) (by decide) dL_law_407 (fun r u hu => ?_)
  refine g_swap ?_
  refine g_aload_n C 1 dL_law_410 rfl rfl ?_
  refine g_call2i C (fun _ h => h) (As := []) 0 (fun A1 => c_X6_undo l D A1 adM cA  _ hu) gL_law_X6_undo rfl rfl rfl (by decide +kernel) (by decide) 0 WMg0 rfl rfl rfl (Nat.le_of_ble_eq_true rfl) (by decide) (by decide) dL_law_411 (fun q v hv => ?_)
  exact g_icmp_eq C 907 dL_law_414 (by decide) (fun _ => K _ (INV.mk1 hv.2)) (fun hne => absurd hv.1.symm hne)
set_option maxHeartbeats 4000000 in
set_option maxRecDepth 100000 in
theorem L_ways (C : CxX p s m #[.ref b] c D (tysX cA) RL cL_law 8 wsL_law) (hX : va_X b L xs s s.heap) (hbl : b < s.heap.size) (h1 : vp_in (iv + 1) L) (h2 : vp_in (iv + 2) L) (h3 : vp_in (iv + 3) L) (hT : T ≤ 100000) (hI : INV adX adM cA T w) (K : ∀ w2 : va_W, INV adX adM cA (T + 1) w2 → GoX p l e room_1 s m #[.ref b] below meth c D (fun q : Nat => s.heap.size ≤ q) 8 110 1467 Q 907 [(3, .int iv), (2, .ref (adM 0)), (1, .ref (adX 0)), (0, .ref b)] [] w2) : GoX p l e room_1 s m #[.ref b] below meth c D (fun q : Nat => s.heap.size ≤ q) 8 110 1467 Q 419 [(3, .int iv), (2, .ref (adM 0)), (1, .ref (adX 0)), (0, .ref b)] [] w := by
  obtain ⟨tl, tx, mn, sd, e0, e1, e2, e3, e4, e5, e6, e7, e8, e9, e10, fr, hd, nw, kp, pt, hr, lr, ms, mb, my, mt, mw, ml, mo, gm, gs, ga, gg, gb, gu, gh, gk, gl, gn, gt, rfl, hR⟩ := hI
  refine g_aload_n C 2 dL_law_419 rfl rfl ?_
  refine g_aload_n C 3 dL_law_420 rfl rfl ?_
  refine g_iload_n C 0 dL_law_421 rfl rfl ?_
  refine g_iconst C (1 : Int32) dL_law_422 (by decide) ?_
  refine g_iadd C dL_law_423 ?_
  refine g_sld C hX hbl (Nat.not_le.mpr hbl) h1 dL_law_424 ?_
  refine g_swap ?_
  refine g_call2i C (fun _ h => h) (As := [.int (xs (iv + 1).toNatClampNeg)]) 1 (fun A1 => c_X5_ways l D A1 adX cA (xs (iv + 1).toNatClampNeg) _ (eq_ways (mn := mn) (sd := sd) (mw := mw) (ml := ml) (mo := mo) (gm := gm) hR)) gL_law_X5_ways rfl rfl rfl (by decide +kernel) (by decide) 0 WXg0 rfl rfl rfl (Nat.le_of_ble_eq_true rfl) (by decide) (by decide) dL_law_425 (fun r u hu => ?_)
  refine g_swap ?_
  refine g_aload_n C 1 dL_law_428 rfl rfl ?_
  refine g_aload_n C 3 dL_law_429 rfl rfl ?_
  refine g_iload_n C 0 dL_law_430 rfl rfl ?_
  refine g_iconst C (1 : Int32) dL_law_431 (by decide) ?_
  refine g_iadd C dL_law_432 ?_
  refine g_sld C hX hbl (Nat.not_le.mpr hbl) h1 dL_law_433 ?_
  refine g_call2i C (fun _ h => h) (As := [.int (xs (iv + 1).toNatClampNeg)]) 1 (fun A1 => c_X6_ways l D A1 adM cA (xs (iv + 1).toNatClampNeg) _ hu) gL_law_X6_ways rfl rfl rfl (by decide +kernel) (by decide) 0 WMg0 rfl rfl rfl (Nat.le_of_ble_eq_true rfl) (by decide) (by decide) dL_law_434 (fun q v hv => ?_)
  exact g_icmp_eq C 907 dL_law_437 (by decide) (fun _ => K _ (INV.mk1 hv.2)) (fun hne => absurd hv.1.symm hne)
set_option maxHeartbeats 4000000 in
set_option maxRecDepth 100000 in
theorem L_wayLength (C : CxX p s m #[.ref b] c D (tysX cA) RL cL_law 8 wsL_law) (hX : va_X b L xs s s.heap) (hbl : b < s.heap.size) (h1 : vp_in (iv + 1) L) (h2 : vp_in (iv + 2) L) (h3 : vp_in (iv + 3) L) (hT : T ≤ 100000) (hI : INV adX adM cA T w) (K : ∀ w2 : va_W, INV adX adM cA (T + 1) w2 → GoX p l e room_1 s m #[.ref b] below meth c D (fun q : Nat => s.heap.size ≤ q) 8 110 1467 Q 907 [(3, .int iv), (2, .ref (adM 0)), (1, .ref (adX 0)), (0, .ref b)] [] w2) : GoX p l e room_1 s m #[.ref b] below meth c D (fun q : Nat => s.heap.size ≤ q) 8 110 1467 Q 442 [(3, .int iv), (2, .ref (adM 0)), (1, .ref (adX 0)), (0, .ref b)] [] w := by
  obtain ⟨tl, tx, mn, sd, e0, e1, e2, e3, e4, e5, e6, e7, e8, e9, e10, fr, hd, nw, kp, pt, hr, lr, ms, mb, my, mt, mw, ml, mo, gm, gs, ga, gg, gb, gu, gh, gk, gl, gn, gt, rfl, hR⟩ := hI
  refine g_aload_n C 2 dL_law_442 rfl rfl ?_
  refine g_aload_n C 3 dL_law_443 rfl rfl ?_
  refine g_iload_n C 0 dL_law_444 rfl rfl ?_
  refine g_iconst C (1 : Int32) dL_law_445 (by decide) ?_
  refine g_iadd C dL_law_446 ?_
  refine g_sld C hX hbl (Nat.not_le.mpr hbl) h1 dL_law_447 ?_
  refine g_aload_n C 3 dL_law_448 rfl rfl ?_
  refine g_iload_n C 0 dL_law_449 rfl rfl ?_
  refine g_iconst C (2 : Int32) dL_law_450 (by decide) ?_
  refine g_iadd C dL_law_451 ?_
  refine g_sld C hX hbl (Nat.not_le.mpr hbl) h2 dL_law_452 ?_
  refine g_swap ?_
  refine g_call2i C (fun _ h => h) (As := [.int (xs (iv + 1).toNatClampNeg), .int (xs (iv + 2).toNatClampNeg)]) 2 (fun A1 => c_X5_wayLength l D A1 adX cA (xs (iv + 1).toNatClampNeg) (xs (iv + 2).toNatClampNeg) _ (eq_wayLength (mn := mn) (sd := sd) (mw := mw) (ml := ml) (mo := mo) (gm := gm) hR)) gL_law_X5_wayLength rfl rfl rfl (by decide +kernel) (by decide) 0 WXg0 rfl rfl rfl (Nat.le_of_ble_eq_true rfl) (by decide) (by decide) dL_law_453 (fun r u hu => ?_)
  refine g_swap ?_
  refine g_aload_n C 1 dL_law_456 rfl rfl ?_
  refine g_aload_n C 3 dL_law_457 rfl rfl ?_
  refine g_iload_n C 0 dL_law_458 rfl rfl ?_
  refine g_iconst C (1 : Int32) dL_law_459 (by decide) ?_
  refine g_iadd C dL_law_460 ?_
  refine g_sld C hX hbl (Nat.not_le.mpr hbl) h1 dL_law_461 ?_
  refine g_aload_n C 3 dL_law_462 rfl rfl ?_
  refine g_iload_n C 0 dL_law_463 rfl rfl ?_
  refine g_iconst C (2 : Int32) dL_law_464 (by decide) ?_
  refine g_iadd C dL_law_465 ?_
  refine g_sld C hX hbl (Nat.not_le.mpr hbl) h2 dL_law_466 ?_
  refine g_call2i C (fun _ h => h) (As := [.int (xs (iv + 1).toNatClampNeg), .int (xs (iv + 2).toNatClampNeg)]) 2 (fun A1 => c_X6_wayLength l D A1 adM cA (xs (iv + 1).toNatClampNeg) (xs (iv + 2).toNatClampNeg) _ hu) gL_law_X6_wayLength rfl rfl rfl (by decide +kernel) (by decide) 0 WMg0 rfl rfl rfl (Nat.le_of_ble_eq_true rfl) (by decide) (by decide) dL_law_467 (fun q v hv => ?_)
  exact g_icmp_eq C 907 dL_law_470 (by decide) (fun _ => K _ (INV.mk1 hv.2)) (fun hne => absurd hv.1.symm hne)
set_option maxHeartbeats 4000000 in
set_option maxRecDepth 100000 in
theorem L_wayAt (C : CxX p s m #[.ref b] c D (tysX cA) RL cL_law 8 wsL_law) (hX : va_X b L xs s s.heap) (hbl : b < s.heap.size) (h1 : vp_in (iv + 1) L) (h2 : vp_in (iv + 2) L) (h3 : vp_in (iv + 3) L) (hT : T ≤ 100000) (hI : INV adX adM cA T w) (K : ∀ w2 : va_W, INV adX adM cA (T + 1) w2 → GoX p l e room_1 s m #[.ref b] below meth c D (fun q : Nat => s.heap.size ≤ q) 8 110 1467 Q 907 [(3, .int iv), (2, .ref (adM 0)), (1, .ref (adX 0)), (0, .ref b)] [] w2) : GoX p l e room_1 s m #[.ref b] below meth c D (fun q : Nat => s.heap.size ≤ q) 8 110 1467 Q 475 [(3, .int iv), (2, .ref (adM 0)), (1, .ref (adX 0)), (0, .ref b)] [] w := by
  obtain ⟨tl, tx, mn, sd, e0, e1, e2, e3, e4, e5, e6, e7, e8, e9, e10, fr, hd, nw, kp, pt, hr, lr, ms, mb, my, mt, mw, ml, mo, gm, gs, ga, gg, gb, gu, gh, gk, gl, gn, gt, rfl, hR⟩ := hI
  refine g_aload_n C 2 dL_law_475 rfl rfl ?_
  refine g_aload_n C 3 dL_law_476 rfl rfl ?_
  refine g_iload_n C 0 dL_law_477 rfl rfl ?_
  refine g_iconst C (1 : Int32) dL_law_478 (by decide) ?_
  refine g_iadd C dL_law_479 ?_
  refine g_sld C hX hbl (Nat.not_le.mpr hbl) h1 dL_law_480 ?_
  refine g_aload_n C 3 dL_law_481 rfl rfl ?_
  refine g_iload_n C 0 dL_law_482 rfl rfl ?_
  refine g_iconst C (2 : Int32) dL_law_483 (by decide) ?_
  refine g_iadd C dL_law_484 ?_
  refine g_sld C hX hbl (Nat.not_le.mpr hbl) h2 dL_law_485 ?_
  refine g_aload_n C 3 dL_law_486 rfl rfl ?_
  refine g_iload_n C 0 dL_law_487 rfl rfl ?_
  refine g_iconst C (3 : Int32) dL_law_488 (by decide) ?_
  refine g_iadd C dL_law_489 ?_
  refine g_sld C hX hbl (Nat.not_le.mpr hbl) h3 dL_law_490 ?_
  refine g_swap ?_
  refine g_call2i C (fun _ h => h) (As := [.int (xs (iv + 1).toNatClampNeg), .int (xs (iv + 2).toNatClampNeg), .int (xs (iv + 3).toNatClampNeg)]) 3 (fun A1 => c_X5_wayAt l D A1 adX cA (xs (iv + 1).toNatClampNeg) (xs (iv + 2).toNatClampNeg) (xs (iv + 3).toNatClampNeg) _ (eq_wayAt (mn := mn) (sd := sd) (mw := mw) (ml := ml) (mo := mo) (gm := gm) hR)) gL_law_X5_wayAt rfl rfl rfl (by decide +kernel) (by decide) 0 WXg0 rfl rfl rfl (Nat.le_of_ble_eq_true rfl) (by decide) (by decide) dL_law_491 (fun r u hu => ?_)
  refine g_swap ?_
  refine g_aload_n C 1 dL_law_494 rfl rfl ?_
  refine g_aload_n C 3 dL_law_495 rfl rfl ?_
  refine g_iload_n C 0 dL_law_496 rfl rfl ?_
  refine g_iconst C (1 : Int32) dL_law_497 (by decide) ?_
  refine g_iadd C dL_law_498 ?_
  refine g_sld C hX hbl (Nat.not_le.mpr hbl) h1 dL_law_499 ?_
  refine g_aload_n C 3 dL_law_500 rfl rfl ?_
  refine g_iload_n C 0 dL_law_501 rfl rfl ?_
  refine g_iconst C (2 : Int32) dL_law_502 (by decide) ?_
  refine g_iadd C dL_law_503 ?_
  refine g_sld C hX hbl (Nat.not_le.mpr hbl) h2 dL_law_504 ?_
  refine g_aload_n C 3 dL_law_505 rfl rfl ?_
  refine g_iload_n C 0 dL_law_506 rfl rfl ?_
  refine g_iconst C (3 : Int32) dL_law_507 (by decide) ?_
  refine g_iadd C dL_law_508 ?_
  refine g_sld C hX hbl (Nat.not_le.mpr hbl) h3 dL_law_509 ?_
  refine g_call2i C (fun _ h => h) (As := [.int (xs (iv + 1).toNatClampNeg), .int (xs (iv + 2).toNatClampNeg), .int (xs (iv + 3).toNatClampNeg)]) 3 (fun A1 => c_X6_wayAt l D A1 adM cA (xs (iv + 1).toNatClampNeg) (xs (iv + 2).toNatClampNeg) (xs (iv + 3).toNatClampNeg) _ hu) gL_law_X6_wayAt rfl rfl rfl (by decide +kernel) (by decide) 0 WMg0 rfl rfl rfl (Nat.le_of_ble_eq_true rfl) (by decide) (by decide) dL_law_510 (fun q v hv => ?_)
  exact g_icmp_eq C 907 dL_law_513 (by decide) (fun _ => K _ (INV.mk1 hv.2)) (fun hne => absurd hv.1.symm hne)
set_option maxHeartbeats 4000000 in
set_option maxRecDepth 100000 in
theorem L_styled (C : CxX p s m #[.ref b] c D (tysX cA) RL cL_law 8 wsL_law) (hX : va_X b L xs s s.heap) (hbl : b < s.heap.size) (h1 : vp_in (iv + 1) L) (h2 : vp_in (iv + 2) L) (h3 : vp_in (iv + 3) L) (hT : T ≤ 100000) (hI : INV adX adM cA T w) (K : ∀ w2 : va_W, INV adX adM cA (T + 1) w2 → GoX p l e room_1 s m #[.ref b] below meth c D (fun q : Nat => s.heap.size ≤ q) 8 110 1467 Q 907 [(3, .int iv), (2, .ref (adM 0)), (1, .ref (adX 0)), (0, .ref b)] [] w2) : GoX p l e room_1 s m #[.ref b] below meth c D (fun q : Nat => s.heap.size ≤ q) 8 110 1467 Q 518 [(3, .int iv), (2, .ref (adM 0)), (1, .ref (adX 0)), (0, .ref b)] [] w := by
  obtain ⟨tl, tx, mn, sd, e0, e1, e2, e3, e4, e5, e6, e7, e8, e9, e10, fr, hd, nw, kp, pt, hr, lr, ms, mb, my, mt, mw, ml, mo, gm, gs, ga, gg, gb, gu, gh, gk, gl, gn, gt, rfl, hR⟩ := hI
  refine g_aload_n C 2 dL_law_518 rfl rfl ?_
  refine g_aload_n C 3 dL_law_519 rfl rfl ?_
  refine g_iload_n C 0 dL_law_520 rfl rfl ?_
  refine g_iconst C (1 : Int32) dL_law_521 (by decide) ?_
  refine g_iadd C dL_law_522 ?_
  refine g_sld C hX hbl (Nat.not_le.mpr hbl) h1 dL_law_523 ?_
  refine g_aload_n C 3 dL_law_524 rfl rfl ?_
  refine g_iload_n C 0 dL_law_525 rfl rfl ?_
  refine g_iconst C (2 : Int32) dL_law_526 (by decide) ?_
  refine g_iadd C dL_law_527 ?_
  refine g_sld C hX hbl (Nat.not_le.mpr hbl) h2 dL_law_528 ?_
  refine g_swap ?_
  refine g_call2i C (fun _ h => h) (As := [.int (xs (iv + 1).toNatClampNeg), .int (xs (iv + 2).toNatClampNeg)]) 2 (fun A1 => c_X5_styled l D A1 adX cA (xs (iv + 1).toNatClampNeg) (xs (iv + 2).toNatClampNeg) _ (eq_styled (mn := mn) (sd := sd) (mw := mw) (ml := ml) (mo := mo) (gm := gm) hR)) gL_law_X5_styled rfl rfl rfl (by decide +kernel) (by decide) 0 WXg0 rfl rfl rfl (Nat.le_of_ble_eq_true rfl) (by decide) (by decide) dL_law_529 (fun r u hu => ?_)
  refine g_swap ?_
  refine g_aload_n C 1 dL_law_532 rfl rfl ?_
  refine g_aload_n C 3 dL_law_533 rfl rfl ?_
  refine g_iload_n C 0 dL_law_534 rfl rfl ?_
  refine g_iconst C (1 : Int32) dL_law_535 (by decide) ?_
  refine g_iadd C dL_law_536 ?_
  refine g_sld C hX hbl (Nat.not_le.mpr hbl) h1 dL_law_537 ?_
  refine g_aload_n C 3 dL_law_538 rfl rfl ?_
  refine g_iload_n C 0 dL_law_539 rfl rfl ?_
  refine g_iconst C (2 : Int32) dL_law_540 (by decide) ?_
  refine g_iadd C dL_law_541 ?_
  refine g_sld C hX hbl (Nat.not_le.mpr hbl) h2 dL_law_542 ?_
  refine g_call2i C (fun _ h => h) (As := [.int (xs (iv + 1).toNatClampNeg), .int (xs (iv + 2).toNatClampNeg)]) 2 (fun A1 => c_X6_styled l D A1 adM cA (xs (iv + 1).toNatClampNeg) (xs (iv + 2).toNatClampNeg) _ hu) gL_law_X6_styled rfl rfl rfl (by decide +kernel) (by decide) 0 WMg0 rfl rfl rfl (Nat.le_of_ble_eq_true rfl) (by decide) (by decide) dL_law_543 (fun q v hv => ?_)
  exact g_icmp_eq C 907 dL_law_546 (by decide) (fun _ => K _ (INV.mk1 hv.2)) (fun hne => absurd hv.1.symm hne)
set_option maxHeartbeats 4000000 in
set_option maxRecDepth 100000 in
theorem L_placeOfText (C : CxX p s m #[.ref b] c D (tysX cA) RL cL_law 8 wsL_law) (hX : va_X b L xs s s.heap) (hbl : b < s.heap.size) (h1 : vp_in (iv + 1) L) (h2 : vp_in (iv + 2) L) (h3 : vp_in (iv + 3) L) (hT : T ≤ 100000) (hI : INV adX adM cA T w) (K : ∀ w2 : va_W, INV adX adM cA (T + 1) w2 → GoX p l e room_1 s m #[.ref b] below meth c D (fun q : Nat => s.heap.size ≤ q) 8 110 1467 Q 907 [(3, .int iv), (2, .ref (adM 0)), (1, .ref (adX 0)), (0, .ref b)] [] w2) : GoX p l e room_1 s m #[.ref b] below meth c D (fun q : Nat => s.heap.size ≤ q) 8 110 1467 Q 551 [(3, .int iv), (2, .ref (adM 0)), (1, .ref (adX 0)), (0, .ref b)] [] w := by
  obtain ⟨tl, tx, mn, sd, e0, e1, e2, e3, e4, e5, e6, e7, e8, e9, e10, fr, hd, nw, kp, pt, hr, lr, ms, mb, my, mt, mw, ml, mo, gm, gs, ga, gg, gb, gu, gh, gk, gl, gn, gt, rfl, hR⟩ := hI
  refine g_aload_n C 2 dL_law_551 rfl rfl ?_
  refine g_swap ?_
  refine g_call2i C (fun _ h => h) (As := []) 0 (fun A1 => c_X5_placeOfText l D A1 adX cA  _ (eq_placeOfText (mn := mn) (sd := sd) (e0 := e0) (e1 := e1) (e2 := e2) (e3 := e3) (e4 := e4) (e5 := e5) (e6 := e6) (e7 := e7) (e8 := e8) (e9 := e9) (e10 := e10) (my := my) (mw := mw) (ml := ml) (mo := mo) (gm := gm) (gs := gs) (ga := ga) (gg := gg) (gb := gb) (gu := gu) (gh := gh) (gk := gk) (gl := gl) hR)) gL_law_X5_placeOfText rfl rfl rfl (by decide +kernel) (by decide) 0 WXg0 rfl rfl rfl (Nat.le_of_ble_eq_true rfl) (by decide) (by decide) dL_law_552 (fun r u hu => ?_)
  refine g_swap ?_
  refine g_aload_n C 1 dL_law_555 rfl rfl ?_
  refine g_call2i C (fun _ h => h) (As := []) 0 (fun A1 => c_X6_placeOfText l D A1 adM cA  _ hu) gL_law_X6_placeOfText rfl rfl rfl (by decide +kernel) (by decide) 0 WMg0 rfl rfl rfl (Nat.le_of_ble_eq_true rfl) (by decide) (by decide) dL_law_556 (fun q v hv => ?_)
  exact g_icmp_eq C 907 dL_law_559 (by decide) (fun _ => K _ (INV.mk1 hv.2)) (fun hne => absurd hv.1.symm hne)
set_option maxHeartbeats 4000000 in
set_option maxRecDepth 100000 in
theorem L_hearer (C : CxX p s m #[.ref b] c D (tysX cA) RL cL_law 8 wsL_law) (hX : va_X b L xs s s.heap) (hbl : b < s.heap.size) (h1 : vp_in (iv + 1) L) (h2 : vp_in (iv + 2) L) (h3 : vp_in (iv + 3) L) (hT : T ≤ 100000) (hI : INV adX adM cA T w) (K : ∀ w2 : va_W, INV adX adM cA (T + 1) w2 → GoX p l e room_1 s m #[.ref b] below meth c D (fun q : Nat => s.heap.size ≤ q) 8 110 1467 Q 907 [(3, .int iv), (2, .ref (adM 0)), (1, .ref (adX 0)), (0, .ref b)] [] w2) : GoX p l e room_1 s m #[.ref b] below meth c D (fun q : Nat => s.heap.size ≤ q) 8 110 1467 Q 564 [(3, .int iv), (2, .ref (adM 0)), (1, .ref (adX 0)), (0, .ref b)] [] w := by
  obtain ⟨tl, tx, mn, sd, e0, e1, e2, e3, e4, e5, e6, e7, e8, e9, e10, fr, hd, nw, kp, pt, hr, lr, ms, mb, my, mt, mw, ml, mo, gm, gs, ga, gg, gb, gu, gh, gk, gl, gn, gt, rfl, hR⟩ := hI
  refine g_aload_n C 2 dL_law_564 rfl rfl ?_
  refine g_aload_n C 3 dL_law_565 rfl rfl ?_
  refine g_iload_n C 0 dL_law_566 rfl rfl ?_
  refine g_iconst C (1 : Int32) dL_law_567 (by decide) ?_
  refine g_iadd C dL_law_568 ?_
  refine g_sld C hX hbl (Nat.not_le.mpr hbl) h1 dL_law_569 ?_
  refine g_aload_n C 3 dL_law_570 rfl rfl ?_
  refine g_iload_n C 0 dL_law_571 rfl rfl ?_
  refine g_iconst C (2 : Int32) dL_law_572 (by decide) ?_
  refine g_iadd C dL_law_573 ?_
  refine g_sld C hX hbl (Nat.not_le.mpr hbl) h2 dL_law_574 ?_
  refine g_swap ?_
  refine g_call2i C (fun _ h => h) (As := [.int (xs (iv + 1).toNatClampNeg), .int (xs (iv + 2).toNatClampNeg)]) 2 (fun A1 => c_X5_hearer l D A1 adX cA (xs (iv + 1).toNatClampNeg) (xs (iv + 2).toNatClampNeg) _ (eq_hearer  hR)) gL_law_X5_hearer rfl rfl rfl (by decide +kernel) (by decide) 0 WXg0 rfl rfl rfl (Nat.le_of_ble_eq_true rfl) (by decide) (by decide) dL_law_575 (fun r u hu => ?_)
  refine g_swap ?_
  refine g_aload_n C 1 dL_law_578 rfl rfl ?_
  refine g_aload_n C 3 dL_law_579 rfl rfl ?_
  refine g_iload_n C 0 dL_law_580 rfl rfl ?_
  refine g_iconst C (1 : Int32) dL_law_581 (by decide) ?_
  refine g_iadd C dL_law_582 ?_
  refine g_sld C hX hbl (Nat.not_le.mpr hbl) h1 dL_law_583 ?_
  refine g_aload_n C 3 dL_law_584 rfl rfl ?_
  refine g_iload_n C 0 dL_law_585 rfl rfl ?_
  refine g_iconst C (2 : Int32) dL_law_586 (by decide) ?_
  refine g_iadd C dL_law_587 ?_
  refine g_sld C hX hbl (Nat.not_le.mpr hbl) h2 dL_law_588 ?_
  refine g_call2i C (fun _ h => h) (As := [.int (xs (iv + 1).toNatClampNeg), .int (xs (iv + 2).toNatClampNeg)]) 2 (fun A1 => c_X6_hearer l D A1 adM cA (xs (iv + 1).toNatClampNeg) (xs (iv + 2).toNatClampNeg) _ hu) gL_law_X6_hearer rfl rfl rfl (by decide +kernel) (by decide) 0 WMg0 rfl rfl rfl (Nat.le_of_ble_eq_true rfl) (by decide) (by decide) dL_law_589 (fun q v hv => ?_)
  exact g_icmp_eq C 907 dL_law_592 (by decide) (fun _ => K _ (INV.mk1 hv.2)) (fun hne => absurd hv.1.symm hne)
set_option maxHeartbeats 4000000 in
set_option maxRecDepth 100000 in
theorem L_understood (C : CxX p s m #[.ref b] c D (tysX cA) RL cL_law 8 wsL_law) (hX : va_X b L xs s s.heap) (hbl : b < s.heap.size) (h1 : vp_in (iv + 1) L) (h2 : vp_in (iv + 2) L) (h3 : vp_in (iv + 3) L) (hT : T ≤ 100000) (hI : INV adX adM cA T w) (K : ∀ w2 : va_W, INV adX adM cA (T + 1) w2 → GoX p l e room_1 s m #[.ref b] below meth c D (fun q : Nat => s.heap.size ≤ q) 8 110 1467 Q 907 [(3, .int iv), (2, .ref (adM 0)), (1, .ref (adX 0)), (0, .ref b)] [] w2) : GoX p l e room_1 s m #[.ref b] below meth c D (fun q : Nat => s.heap.size ≤ q) 8 110 1467 Q 597 [(3, .int iv), (2, .ref (adM 0)), (1, .ref (adX 0)), (0, .ref b)] [] w := by
  obtain ⟨tl, tx, mn, sd, e0, e1, e2, e3, e4, e5, e6, e7, e8, e9, e10, fr, hd, nw, kp, pt, hr, lr, ms, mb, my, mt, mw, ml, mo, gm, gs, ga, gg, gb, gu, gh, gk, gl, gn, gt, rfl, hR⟩ := hI
  refine g_aload_n C 2 dL_law_597 rfl rfl ?_
  refine g_aload_n C 3 dL_law_598 rfl rfl ?_
  refine g_iload_n C 0 dL_law_599 rfl rfl ?_
  refine g_iconst C (1 : Int32) dL_law_600 (by decide) ?_
  refine g_iadd C dL_law_601 ?_
  refine g_sld C hX hbl (Nat.not_le.mpr hbl) h1 dL_law_602 ?_
  refine g_aload_n C 3 dL_law_603 rfl rfl ?_
  refine g_iload_n C 0 dL_law_604 rfl rfl ?_
  refine g_iconst C (2 : Int32) dL_law_605 (by decide) ?_
  refine g_iadd C dL_law_606 ?_
  refine g_sld C hX hbl (Nat.not_le.mpr hbl) h2 dL_law_607 ?_
  refine g_aload_n C 3 dL_law_608 rfl rfl ?_
  refine g_iload_n C 0 dL_law_609 rfl rfl ?_
  refine g_iconst C (3 : Int32) dL_law_610 (by decide) ?_
  refine g_iadd C dL_law_611 ?_
  refine g_sld C hX hbl (Nat.not_le.mpr hbl) h3 dL_law_612 ?_
  refine g_swap ?_
  refine g_call2i C (fun _ h => h) (As := [.int (xs (iv + 1).toNatClampNeg), .int (xs (iv + 2).toNatClampNeg), .int (xs (iv + 3).toNatClampNeg)]) 3 (fun A1 => c_X5_understood l D A1 adX cA (xs (iv + 1).toNatClampNeg) (xs (iv + 2).toNatClampNeg) (xs (iv + 3).toNatClampNeg) _ (eq_understood (mn := mn) (sd := sd) (e0 := e0) (e1 := e1) (e2 := e2) (e3 := e3) (e4 := e4) (e5 := e5) (e6 := e6) (e7 := e7) (e8 := e8) (e9 := e9) (e10 := e10) (my := my) (mw := mw) (ml := ml) (mo := mo) (gm := gm) (gs := gs) (ga := ga) (gg := gg) (gb := gb) (gu := gu) (gh := gh) (gk := gk) (gl := gl) hR)) gL_law_X5_understood rfl rfl rfl (by decide +kernel) (by decide) 0 WXg0 rfl rfl rfl (Nat.le_of_ble_eq_true rfl) (by decide) (by decide) dL_law_613 (fun r u hu => ?_)
  refine g_swap ?_
  refine g_aload_n C 1 dL_law_616 rfl rfl ?_
  refine g_aload_n C 3 dL_law_617 rfl rfl ?_
  refine g_iload_n C 0 dL_law_618 rfl rfl ?_
  refine g_iconst C (1 : Int32) dL_law_619 (by decide) ?_
  refine g_iadd C dL_law_620 ?_
  refine g_sld C hX hbl (Nat.not_le.mpr hbl) h1 dL_law_621 ?_
  refine g_aload_n C 3 dL_law_622 rfl rfl ?_
  refine g_iload_n C 0 dL_law_623 rfl rfl ?_
  refine g_iconst C (2 : Int32) dL_law_624 (by decide) ?_
  refine g_iadd C dL_law_625 ?_
  refine g_sld C hX hbl (Nat.not_le.mpr hbl) h2 dL_law_626 ?_
  refine g_aload_n C 3 dL_law_627 rfl rfl ?_
  refine g_iload_n C 0 dL_law_628 rfl rfl ?_
  refine g_iconst C (3 : Int32) dL_law_629 (by decide) ?_
  refine g_iadd C dL_law_630 ?_
  refine g_sld C hX hbl (Nat.not_le.mpr hbl) h3 dL_law_631 ?_
  refine g_call2i C (fun _ h => h) (As := [.int (xs (iv + 1).toNatClampNeg), .int (xs (iv + 2).toNatClampNeg), .int (xs (iv + 3).toNatClampNeg)]) 3 (fun A1 => c_X6_understood l D A1 adM cA (xs (iv + 1).toNatClampNeg) (xs (iv + 2).toNatClampNeg) (xs (iv + 3).toNatClampNeg) _ hu) gL_law_X6_understood rfl rfl rfl (by decide +kernel) (by decide) 0 WMg0 rfl rfl rfl (Nat.le_of_ble_eq_true rfl) (by decide) (by decide) dL_law_632 (fun q v hv => ?_)
  exact g_icmp_eq C 907 dL_law_635 (by decide) (fun _ => K _ (INV.mk1 hv.2)) (fun hne => absurd hv.1.symm hne)
set_option maxHeartbeats 4000000 in
set_option maxRecDepth 100000 in
theorem L_understoodText (C : CxX p s m #[.ref b] c D (tysX cA) RL cL_law 8 wsL_law) (hX : va_X b L xs s s.heap) (hbl : b < s.heap.size) (h1 : vp_in (iv + 1) L) (h2 : vp_in (iv + 2) L) (h3 : vp_in (iv + 3) L) (hT : T ≤ 100000) (hI : INV adX adM cA T w) (K : ∀ w2 : va_W, INV adX adM cA (T + 1) w2 → GoX p l e room_1 s m #[.ref b] below meth c D (fun q : Nat => s.heap.size ≤ q) 8 110 1467 Q 907 [(3, .int iv), (2, .ref (adM 0)), (1, .ref (adX 0)), (0, .ref b)] [] w2) : GoX p l e room_1 s m #[.ref b] below meth c D (fun q : Nat => s.heap.size ≤ q) 8 110 1467 Q 640 [(3, .int iv), (2, .ref (adM 0)), (1, .ref (adX 0)), (0, .ref b)] [] w := by
  obtain ⟨tl, tx, mn, sd, e0, e1, e2, e3, e4, e5, e6, e7, e8, e9, e10, fr, hd, nw, kp, pt, hr, lr, ms, mb, my, mt, mw, ml, mo, gm, gs, ga, gg, gb, gu, gh, gk, gl, gn, gt, rfl, hR⟩ := hI
  refine g_aload_n C 2 dL_law_640 rfl rfl ?_
  refine g_aload_n C 3 dL_law_641 rfl rfl ?_
  refine g_iload_n C 0 dL_law_642 rfl rfl ?_
  refine g_iconst C (1 : Int32) dL_law_643 (by decide) ?_
  refine g_iadd C dL_law_644 ?_
  refine g_sld C hX hbl (Nat.not_le.mpr hbl) h1 dL_law_645 ?_
  refine g_swap ?_
  refine g_call2i C (fun _ h => h) (As := [.int (xs (iv + 1).toNatClampNeg)]) 1 (fun A1 => c_X5_understoodText l D A1 adX cA (xs (iv + 1).toNatClampNeg) _ (eq_understoodText (e0 := e0) (e1 := e1) (e2 := e2) (e3 := e3) (e4 := e4) (e5 := e5) (e6 := e6) (e7 := e7) (e8 := e8) (e9 := e9) (e10 := e10) (my := my) (gs := gs) (ga := ga) (gg := gg) (gb := gb) (gu := gu) (gh := gh) (gk := gk) (gl := gl) hR)) gL_law_X5_understoodText rfl rfl rfl (by decide +kernel) (by decide) 0 WXg0 rfl rfl rfl (Nat.le_of_ble_eq_true rfl) (by decide) (by decide) dL_law_646 (fun r u hu => ?_)
  refine g_swap ?_
  refine g_aload_n C 1 dL_law_649 rfl rfl ?_
  refine g_aload_n C 3 dL_law_650 rfl rfl ?_
  refine g_iload_n C 0 dL_law_651 rfl rfl ?_
  refine g_iconst C (1 : Int32) dL_law_652 (by decide) ?_
  refine g_iadd C dL_law_653 ?_
  refine g_sld C hX hbl (Nat.not_le.mpr hbl) h1 dL_law_654 ?_
  refine g_call2i C (fun _ h => h) (As := [.int (xs (iv + 1).toNatClampNeg)]) 1 (fun A1 => c_X6_understoodText l D A1 adM cA (xs (iv + 1).toNatClampNeg) _ hu) gL_law_X6_understoodText rfl rfl rfl (by decide +kernel) (by decide) 0 WMg0 rfl rfl rfl (Nat.le_of_ble_eq_true rfl) (by decide) (by decide) dL_law_655 (fun q v hv => ?_)
  exact g_icmp_eq C 907 dL_law_658 (by decide) (fun _ => K _ (INV.mk1 hv.2)) (fun hne => absurd hv.1.symm hne)
set_option maxHeartbeats 4000000 in
set_option maxRecDepth 100000 in
theorem L_bestWay (C : CxX p s m #[.ref b] c D (tysX cA) RL cL_law 8 wsL_law) (hX : va_X b L xs s s.heap) (hbl : b < s.heap.size) (h1 : vp_in (iv + 1) L) (h2 : vp_in (iv + 2) L) (h3 : vp_in (iv + 3) L) (hT : T ≤ 100000) (hI : INV adX adM cA T w) (K : ∀ w2 : va_W, INV adX adM cA (T + 1) w2 → GoX p l e room_1 s m #[.ref b] below meth c D (fun q : Nat => s.heap.size ≤ q) 8 110 1467 Q 907 [(3, .int iv), (2, .ref (adM 0)), (1, .ref (adX 0)), (0, .ref b)] [] w2) : GoX p l e room_1 s m #[.ref b] below meth c D (fun q : Nat => s.heap.size ≤ q) 8 110 1467 Q 663 [(3, .int iv), (2, .ref (adM 0)), (1, .ref (adX 0)), (0, .ref b)] [] w := by
  obtain ⟨tl, tx, mn, sd, e0, e1, e2, e3, e4, e5, e6, e7, e8, e9, e10, fr, hd, nw, kp, pt, hr, lr, ms, mb, my, mt, mw, ml, mo, gm, gs, ga, gg, gb, gu, gh, gk, gl, gn, gt, rfl, hR⟩ := hI
  refine g_aload_n C 2 dL_law_663 rfl rfl ?_
  refine g_aload_n C 3 dL_law_664 rfl rfl ?_
  refine g_iload_n C 0 dL_law_665 rfl rfl ?_
  refine g_iconst C (1 : Int32) dL_law_666 (by decide) ?_
  refine g_iadd C dL_law_667 ?_
  refine g_sld C hX hbl (Nat.not_le.mpr hbl) h1 dL_law_668 ?_
  refine g_aload_n C 3 dL_law_669 rfl rfl ?_
  refine g_iload_n C 0 dL_law_670 rfl rfl ?_
  refine g_iconst C (2 : Int32) dL_law_671 (by decide) ?_
  refine g_iadd C dL_law_672 ?_
  refine g_sld C hX hbl (Nat.not_le.mpr hbl) h2 dL_law_673 ?_
  refine g_swap ?_
  refine g_call2i C (fun _ h => h) (As := [.int (xs (iv + 1).toNatClampNeg), .int (xs (iv + 2).toNatClampNeg)]) 2 (fun A1 => c_X5_bestWay l D A1 adX cA (xs (iv + 1).toNatClampNeg) (xs (iv + 2).toNatClampNeg) _ (eq_bestWay (mn := mn) (sd := sd) (e0 := e0) (e1 := e1) (e2 := e2) (e3 := e3) (e4 := e4) (e5 := e5) (e6 := e6) (e7 := e7) (e8 := e8) (e9 := e9) (e10 := e10) (my := my) (mw := mw) (ml := ml) (mo := mo) (gm := gm) (gs := gs) (ga := ga) (gg := gg) (gb := gb) (gu := gu) (gh := gh) (gk := gk) (gl := gl) hR)) gL_law_X5_bestWay rfl rfl rfl (by decide +kernel) (by decide) 0 WXg0 rfl rfl rfl (Nat.le_of_ble_eq_true rfl) (by decide) (by decide) dL_law_674 (fun r u hu => ?_)
  refine g_swap ?_
  refine g_aload_n C 1 dL_law_677 rfl rfl ?_
  refine g_aload_n C 3 dL_law_678 rfl rfl ?_
  refine g_iload_n C 0 dL_law_679 rfl rfl ?_
  refine g_iconst C (1 : Int32) dL_law_680 (by decide) ?_
  refine g_iadd C dL_law_681 ?_
  refine g_sld C hX hbl (Nat.not_le.mpr hbl) h1 dL_law_682 ?_
  refine g_aload_n C 3 dL_law_683 rfl rfl ?_
  refine g_iload_n C 0 dL_law_684 rfl rfl ?_
  refine g_iconst C (2 : Int32) dL_law_685 (by decide) ?_
  refine g_iadd C dL_law_686 ?_
  refine g_sld C hX hbl (Nat.not_le.mpr hbl) h2 dL_law_687 ?_
  refine g_call2i C (fun _ h => h) (As := [.int (xs (iv + 1).toNatClampNeg), .int (xs (iv + 2).toNatClampNeg)]) 2 (fun A1 => c_X6_bestWay l D A1 adM cA (xs (iv + 1).toNatClampNeg) (xs (iv + 2).toNatClampNeg) _ hu) gL_law_X6_bestWay rfl rfl rfl (by decide +kernel) (by decide) 0 WMg0 rfl rfl rfl (Nat.le_of_ble_eq_true rfl) (by decide) (by decide) dL_law_688 (fun q v hv => ?_)
  exact g_icmp_eq C 907 dL_law_691 (by decide) (fun _ => K _ (INV.mk1 hv.2)) (fun hne => absurd hv.1.symm hne)
set_option maxHeartbeats 4000000 in
set_option maxRecDepth 100000 in
theorem L_commonWay (C : CxX p s m #[.ref b] c D (tysX cA) RL cL_law 8 wsL_law) (hX : va_X b L xs s s.heap) (hbl : b < s.heap.size) (h1 : vp_in (iv + 1) L) (h2 : vp_in (iv + 2) L) (h3 : vp_in (iv + 3) L) (hT : T ≤ 100000) (hI : INV adX adM cA T w) (K : ∀ w2 : va_W, INV adX adM cA (T + 1) w2 → GoX p l e room_1 s m #[.ref b] below meth c D (fun q : Nat => s.heap.size ≤ q) 8 110 1467 Q 907 [(3, .int iv), (2, .ref (adM 0)), (1, .ref (adX 0)), (0, .ref b)] [] w2) : GoX p l e room_1 s m #[.ref b] below meth c D (fun q : Nat => s.heap.size ≤ q) 8 110 1467 Q 696 [(3, .int iv), (2, .ref (adM 0)), (1, .ref (adX 0)), (0, .ref b)] [] w := by
  obtain ⟨tl, tx, mn, sd, e0, e1, e2, e3, e4, e5, e6, e7, e8, e9, e10, fr, hd, nw, kp, pt, hr, lr, ms, mb, my, mt, mw, ml, mo, gm, gs, ga, gg, gb, gu, gh, gk, gl, gn, gt, rfl, hR⟩ := hI
  refine g_aload_n C 2 dL_law_696 rfl rfl ?_
  refine g_aload_n C 3 dL_law_697 rfl rfl ?_
  refine g_iload_n C 0 dL_law_698 rfl rfl ?_
  refine g_iconst C (1 : Int32) dL_law_699 (by decide) ?_
  refine g_iadd C dL_law_700 ?_
  refine g_sld C hX hbl (Nat.not_le.mpr hbl) h1 dL_law_701 ?_
  refine g_swap ?_
  refine g_call2i C (fun _ h => h) (As := [.int (xs (iv + 1).toNatClampNeg)]) 1 (fun A1 => c_X5_commonWay l D A1 adX cA (xs (iv + 1).toNatClampNeg) _ (eq_commonWay (mn := mn) (sd := sd) (e0 := e0) (e1 := e1) (e2 := e2) (e3 := e3) (e4 := e4) (e5 := e5) (e6 := e6) (e7 := e7) (e8 := e8) (e9 := e9) (e10 := e10) (my := my) (mw := mw) (ml := ml) (mo := mo) (gm := gm) (gs := gs) (ga := ga) (gg := gg) (gb := gb) (gu := gu) (gh := gh) (gk := gk) (gl := gl) hR)) gL_law_X5_commonWay rfl rfl rfl (by decide +kernel) (by decide) 0 WXg0 rfl rfl rfl (Nat.le_of_ble_eq_true rfl) (by decide) (by decide) dL_law_702 (fun r u hu => ?_)
  refine g_swap ?_
  refine g_aload_n C 1 dL_law_705 rfl rfl ?_
  refine g_aload_n C 3 dL_law_706 rfl rfl ?_
  refine g_iload_n C 0 dL_law_707 rfl rfl ?_
  refine g_iconst C (1 : Int32) dL_law_708 (by decide) ?_
  refine g_iadd C dL_law_709 ?_
  refine g_sld C hX hbl (Nat.not_le.mpr hbl) h1 dL_law_710 ?_
  refine g_call2i C (fun _ h => h) (As := [.int (xs (iv + 1).toNatClampNeg)]) 1 (fun A1 => c_X6_commonWay l D A1 adM cA (xs (iv + 1).toNatClampNeg) _ hu) gL_law_X6_commonWay rfl rfl rfl (by decide +kernel) (by decide) 0 WMg0 rfl rfl rfl (Nat.le_of_ble_eq_true rfl) (by decide) (by decide) dL_law_711 (fun q v hv => ?_)
  exact g_icmp_eq C 907 dL_law_714 (by decide) (fun _ => K _ (INV.mk1 hv.2)) (fun hne => absurd hv.1.symm hne)
set_option maxHeartbeats 4000000 in
set_option maxRecDepth 100000 in
theorem L_reach (C : CxX p s m #[.ref b] c D (tysX cA) RL cL_law 8 wsL_law) (hX : va_X b L xs s s.heap) (hbl : b < s.heap.size) (h1 : vp_in (iv + 1) L) (h2 : vp_in (iv + 2) L) (h3 : vp_in (iv + 3) L) (hT : T ≤ 100000) (hI : INV adX adM cA T w) (K : ∀ w2 : va_W, INV adX adM cA (T + 1) w2 → GoX p l e room_1 s m #[.ref b] below meth c D (fun q : Nat => s.heap.size ≤ q) 8 110 1467 Q 907 [(3, .int iv), (2, .ref (adM 0)), (1, .ref (adX 0)), (0, .ref b)] [] w2) : GoX p l e room_1 s m #[.ref b] below meth c D (fun q : Nat => s.heap.size ≤ q) 8 110 1467 Q 719 [(3, .int iv), (2, .ref (adM 0)), (1, .ref (adX 0)), (0, .ref b)] [] w := by
  obtain ⟨tl, tx, mn, sd, e0, e1, e2, e3, e4, e5, e6, e7, e8, e9, e10, fr, hd, nw, kp, pt, hr, lr, ms, mb, my, mt, mw, ml, mo, gm, gs, ga, gg, gb, gu, gh, gk, gl, gn, gt, rfl, hR⟩ := hI
  refine g_aload_n C 2 dL_law_719 rfl rfl ?_
  refine g_aload_n C 3 dL_law_720 rfl rfl ?_
  refine g_iload_n C 0 dL_law_721 rfl rfl ?_
  refine g_iconst C (1 : Int32) dL_law_722 (by decide) ?_
  refine g_iadd C dL_law_723 ?_
  refine g_sld C hX hbl (Nat.not_le.mpr hbl) h1 dL_law_724 ?_
  refine g_aload_n C 3 dL_law_725 rfl rfl ?_
  refine g_iload_n C 0 dL_law_726 rfl rfl ?_
  refine g_iconst C (2 : Int32) dL_law_727 (by decide) ?_
  refine g_iadd C dL_law_728 ?_
  refine g_sld C hX hbl (Nat.not_le.mpr hbl) h2 dL_law_729 ?_
  refine g_swap ?_
  refine g_call2i C (fun _ h => h) (As := [.int (xs (iv + 1).toNatClampNeg), .int (xs (iv + 2).toNatClampNeg)]) 2 (fun A1 => c_X5_reach l D A1 adX cA (xs (iv + 1).toNatClampNeg) (xs (iv + 2).toNatClampNeg) _ (eq_reach (mn := mn) (sd := sd) (e0 := e0) (e1 := e1) (e2 := e2) (e3 := e3) (e4 := e4) (e5 := e5) (e6 := e6) (e7 := e7) (e8 := e8) (e9 := e9) (e10 := e10) (my := my) (mw := mw) (ml := ml) (mo := mo) (gm := gm) (gs := gs) (ga := ga) (gg := gg) (gb := gb) (gu := gu) (gh := gh) (gk := gk) (gl := gl) hR)) gL_law_X5_reach rfl rfl rfl (by decide +kernel) (by decide) 0 WXg0 rfl rfl rfl (Nat.le_of_ble_eq_true rfl) (by decide) (by decide) dL_law_730 (fun r u hu => ?_)
  refine g_swap ?_
  refine g_aload_n C 1 dL_law_733 rfl rfl ?_
  refine g_aload_n C 3 dL_law_734 rfl rfl ?_
  refine g_iload_n C 0 dL_law_735 rfl rfl ?_
  refine g_iconst C (1 : Int32) dL_law_736 (by decide) ?_
  refine g_iadd C dL_law_737 ?_
  refine g_sld C hX hbl (Nat.not_le.mpr hbl) h1 dL_law_738 ?_
  refine g_aload_n C 3 dL_law_739 rfl rfl ?_
  refine g_iload_n C 0 dL_law_740 rfl rfl ?_
  refine g_iconst C (2 : Int32) dL_law_741 (by decide) ?_
  refine g_iadd C dL_law_742 ?_
  refine g_sld C hX hbl (Nat.not_le.mpr hbl) h2 dL_law_743 ?_
  refine g_call2i C (fun _ h => h) (As := [.int (xs (iv + 1).toNatClampNeg), .int (xs (iv + 2).toNatClampNeg)]) 2 (fun A1 => c_X6_reach l D A1 adM cA (xs (iv + 1).toNatClampNeg) (xs (iv + 2).toNatClampNeg) _ hu) gL_law_X6_reach rfl rfl rfl (by decide +kernel) (by decide) 0 WMg0 rfl rfl rfl (Nat.le_of_ble_eq_true rfl) (by decide) (by decide) dL_law_744 (fun q v hv => ?_)
  exact g_icmp_eq C 907 dL_law_747 (by decide) (fun _ => K _ (INV.mk1 hv.2)) (fun hne => absurd hv.1.symm hne)
set_option maxHeartbeats 4000000 in
set_option maxRecDepth 100000 in
theorem L_untellable (C : CxX p s m #[.ref b] c D (tysX cA) RL cL_law 8 wsL_law) (hX : va_X b L xs s s.heap) (hbl : b < s.heap.size) (h1 : vp_in (iv + 1) L) (h2 : vp_in (iv + 2) L) (h3 : vp_in (iv + 3) L) (hT : T ≤ 100000) (hI : INV adX adM cA T w) (K : ∀ w2 : va_W, INV adX adM cA (T + 1) w2 → GoX p l e room_1 s m #[.ref b] below meth c D (fun q : Nat => s.heap.size ≤ q) 8 110 1467 Q 907 [(3, .int iv), (2, .ref (adM 0)), (1, .ref (adX 0)), (0, .ref b)] [] w2) : GoX p l e room_1 s m #[.ref b] below meth c D (fun q : Nat => s.heap.size ≤ q) 8 110 1467 Q 752 [(3, .int iv), (2, .ref (adM 0)), (1, .ref (adX 0)), (0, .ref b)] [] w := by
  obtain ⟨tl, tx, mn, sd, e0, e1, e2, e3, e4, e5, e6, e7, e8, e9, e10, fr, hd, nw, kp, pt, hr, lr, ms, mb, my, mt, mw, ml, mo, gm, gs, ga, gg, gb, gu, gh, gk, gl, gn, gt, rfl, hR⟩ := hI
  refine g_aload_n C 2 dL_law_752 rfl rfl ?_
  refine g_aload_n C 3 dL_law_753 rfl rfl ?_
  refine g_iload_n C 0 dL_law_754 rfl rfl ?_
  refine g_iconst C (1 : Int32) dL_law_755 (by decide) ?_
  refine g_iadd C dL_law_756 ?_
  refine g_sld C hX hbl (Nat.not_le.mpr hbl) h1 dL_law_757 ?_
  refine g_aload_n C 3 dL_law_758 rfl rfl ?_
  refine g_iload_n C 0 dL_law_759 rfl rfl ?_
  refine g_iconst C (2 : Int32) dL_law_760 (by decide) ?_
  refine g_iadd C dL_law_761 ?_
  refine g_sld C hX hbl (Nat.not_le.mpr hbl) h2 dL_law_762 ?_
  refine g_aload_n C 3 dL_law_763 rfl rfl ?_
  refine g_iload_n C 0 dL_law_764 rfl rfl ?_
  refine g_iconst C (3 : Int32) dL_law_765 (by decide) ?_
  refine g_iadd C dL_law_766 ?_
  refine g_sld C hX hbl (Nat.not_le.mpr hbl) h3 dL_law_767 ?_
  refine g_swap ?_
  refine g_call2i C (fun _ h => h) (As := [.int (xs (iv + 1).toNatClampNeg), .int (xs (iv + 2).toNatClampNeg), .int (xs (iv + 3).toNatClampNeg)]) 3 (fun A1 => c_X5_untellable l D A1 adX cA (xs (iv + 1).toNatClampNeg) (xs (iv + 2).toNatClampNeg) (xs (iv + 3).toNatClampNeg) _ (eq_untellable (mn := mn) (sd := sd) (e0 := e0) (e1 := e1) (e2 := e2) (e3 := e3) (e4 := e4) (e5 := e5) (e6 := e6) (e7 := e7) (e8 := e8) (e9 := e9) (e10 := e10) (my := my) (mw := mw) (ml := ml) (mo := mo) (gm := gm) (gs := gs) (ga := ga) (gg := gg) (gb := gb) (gu := gu) (gh := gh) (gk := gk) (gl := gl) hR)) gL_law_X5_untellable rfl rfl rfl (by decide +kernel) (by decide) 0 WXg0 rfl rfl rfl (Nat.le_of_ble_eq_true rfl) (by decide) (by decide) dL_law_768 (fun r u hu => ?_)
  refine g_swap ?_
  refine g_aload_n C 1 dL_law_771 rfl rfl ?_
  refine g_aload_n C 3 dL_law_772 rfl rfl ?_
  refine g_iload_n C 0 dL_law_773 rfl rfl ?_
  refine g_iconst C (1 : Int32) dL_law_774 (by decide) ?_
  refine g_iadd C dL_law_775 ?_
  refine g_sld C hX hbl (Nat.not_le.mpr hbl) h1 dL_law_776 ?_
  refine g_aload_n C 3 dL_law_777 rfl rfl ?_
  refine g_iload_n C 0 dL_law_778 rfl rfl ?_
  refine g_iconst C (2 : Int32) dL_law_779 (by decide) ?_
  refine g_iadd C dL_law_780 ?_
  refine g_sld C hX hbl (Nat.not_le.mpr hbl) h2 dL_law_781 ?_
  refine g_aload_n C 3 dL_law_782 rfl rfl ?_
  refine g_iload_n C 0 dL_law_783 rfl rfl ?_
  refine g_iconst C (3 : Int32) dL_law_784 (by decide) ?_
  refine g_iadd C dL_law_785 ?_
  refine g_sld C hX hbl (Nat.not_le.mpr hbl) h3 dL_law_786 ?_
  refine g_call2i C (fun _ h => h) (As := [.int (xs (iv + 1).toNatClampNeg), .int (xs (iv + 2).toNatClampNeg), .int (xs (iv + 3).toNatClampNeg)]) 3 (fun A1 => c_X6_untellable l D A1 adM cA (xs (iv + 1).toNatClampNeg) (xs (iv + 2).toNatClampNeg) (xs (iv + 3).toNatClampNeg) _ hu) gL_law_X6_untellable rfl rfl rfl (by decide +kernel) (by decide) 0 WMg0 rfl rfl rfl (Nat.le_of_ble_eq_true rfl) (by decide) (by decide) dL_law_787 (fun q v hv => ?_)
  exact g_icmp_eq C 907 dL_law_790 (by decide) (fun _ => K _ (INV.mk1 hv.2)) (fun hne => absurd hv.1.symm hne)
set_option maxHeartbeats 4000000 in
set_option maxRecDepth 100000 in
theorem L_log (C : CxX p s m #[.ref b] c D (tysX cA) RL cL_law 8 wsL_law) (hX : va_X b L xs s s.heap) (hbl : b < s.heap.size) (h1 : vp_in (iv + 1) L) (h2 : vp_in (iv + 2) L) (h3 : vp_in (iv + 3) L) (hT : T ≤ 100000) (hI : INV adX adM cA T w) (K : ∀ w2 : va_W, INV adX adM cA (T + 1) w2 → GoX p l e room_1 s m #[.ref b] below meth c D (fun q : Nat => s.heap.size ≤ q) 8 110 1467 Q 907 [(3, .int iv), (2, .ref (adM 0)), (1, .ref (adX 0)), (0, .ref b)] [] w2) : GoX p l e room_1 s m #[.ref b] below meth c D (fun q : Nat => s.heap.size ≤ q) 8 110 1467 Q 795 [(3, .int iv), (2, .ref (adM 0)), (1, .ref (adX 0)), (0, .ref b)] [] w := by
  obtain ⟨tl, tx, mn, sd, e0, e1, e2, e3, e4, e5, e6, e7, e8, e9, e10, fr, hd, nw, kp, pt, hr, lr, ms, mb, my, mt, mw, ml, mo, gm, gs, ga, gg, gb, gu, gh, gk, gl, gn, gt, rfl, hR⟩ := hI
  refine g_aload_n C 2 dL_law_795 rfl rfl ?_
  refine g_aload_n C 3 dL_law_796 rfl rfl ?_
  refine g_iload_n C 0 dL_law_797 rfl rfl ?_
  refine g_iconst C (1 : Int32) dL_law_798 (by decide) ?_
  refine g_iadd C dL_law_799 ?_
  refine g_sld C hX hbl (Nat.not_le.mpr hbl) h1 dL_law_800 ?_
  refine g_aload_n C 3 dL_law_801 rfl rfl ?_
  refine g_iload_n C 0 dL_law_802 rfl rfl ?_
  refine g_iconst C (2 : Int32) dL_law_803 (by decide) ?_
  refine g_iadd C dL_law_804 ?_
  refine g_sld C hX hbl (Nat.not_le.mpr hbl) h2 dL_law_805 ?_
  refine g_swap ?_
  refine g_call2i C (fun _ h => h) (As := [.int (xs (iv + 1).toNatClampNeg), .int (xs (iv + 2).toNatClampNeg)]) 2 (fun A1 => c_X5_log l D A1 adX cA (xs (iv + 1).toNatClampNeg) (xs (iv + 2).toNatClampNeg) _ (eq_log  hR)) gL_law_X5_log rfl rfl rfl (by decide +kernel) (by decide) 0 WXg0 rfl rfl rfl (Nat.le_of_ble_eq_true rfl) (by decide) (by decide) dL_law_806 (fun r u hu => ?_)
  refine g_swap ?_
  refine g_aload_n C 1 dL_law_809 rfl rfl ?_
  refine g_aload_n C 3 dL_law_810 rfl rfl ?_
  refine g_iload_n C 0 dL_law_811 rfl rfl ?_
  refine g_iconst C (1 : Int32) dL_law_812 (by decide) ?_
  refine g_iadd C dL_law_813 ?_
  refine g_sld C hX hbl (Nat.not_le.mpr hbl) h1 dL_law_814 ?_
  refine g_aload_n C 3 dL_law_815 rfl rfl ?_
  refine g_iload_n C 0 dL_law_816 rfl rfl ?_
  refine g_iconst C (2 : Int32) dL_law_817 (by decide) ?_
  refine g_iadd C dL_law_818 ?_
  refine g_sld C hX hbl (Nat.not_le.mpr hbl) h2 dL_law_819 ?_
  refine g_call2i C (fun _ h => h) (As := [.int (xs (iv + 1).toNatClampNeg), .int (xs (iv + 2).toNatClampNeg)]) 2 (fun A1 => c_X6_log l D A1 adM cA (xs (iv + 1).toNatClampNeg) (xs (iv + 2).toNatClampNeg) _ hu) gL_law_X6_log rfl rfl rfl (by decide +kernel) (by decide) 0 WMg0 rfl rfl rfl (Nat.le_of_ble_eq_true rfl) (by decide) (by decide) dL_law_820 (fun q v hv => ?_)
  exact g_icmp_eq C 907 dL_law_823 (by decide) (fun _ => K _ (INV.mk1 hv.2)) (fun hne => absurd hv.1.symm hne)
set_option maxHeartbeats 4000000 in
set_option maxRecDepth 100000 in
theorem L_sum (C : CxX p s m #[.ref b] c D (tysX cA) RL cL_law 8 wsL_law) (hX : va_X b L xs s s.heap) (hbl : b < s.heap.size) (h1 : vp_in (iv + 1) L) (h2 : vp_in (iv + 2) L) (h3 : vp_in (iv + 3) L) (hT : T ≤ 100000) (hI : INV adX adM cA T w) (K : ∀ w2 : va_W, INV adX adM cA (T + 1) w2 → GoX p l e room_1 s m #[.ref b] below meth c D (fun q : Nat => s.heap.size ≤ q) 8 110 1467 Q 907 [(3, .int iv), (2, .ref (adM 0)), (1, .ref (adX 0)), (0, .ref b)] [] w2) : GoX p l e room_1 s m #[.ref b] below meth c D (fun q : Nat => s.heap.size ≤ q) 8 110 1467 Q 828 [(3, .int iv), (2, .ref (adM 0)), (1, .ref (adX 0)), (0, .ref b)] [] w := by
  obtain ⟨tl, tx, mn, sd, e0, e1, e2, e3, e4, e5, e6, e7, e8, e9, e10, fr, hd, nw, kp, pt, hr, lr, ms, mb, my, mt, mw, ml, mo, gm, gs, ga, gg, gb, gu, gh, gk, gl, gn, gt, rfl, hR⟩ := hI
  refine g_aload_n C 2 dL_law_828 rfl rfl ?_
  refine g_aload_n C 3 dL_law_829 rfl rfl ?_
  refine g_iload_n C 0 dL_law_830 rfl rfl ?_
  refine g_iconst C (1 : Int32) dL_law_831 (by decide) ?_
  refine g_iadd C dL_law_832 ?_
  refine g_sld C hX hbl (Nat.not_le.mpr hbl) h1 dL_law_833 ?_
  refine g_swap ?_
  refine g_call2i C (fun _ h => h) (As := [.int (xs (iv + 1).toNatClampNeg)]) 1 (fun A1 => c_X5_sum l D A1 adX cA (xs (iv + 1).toNatClampNeg) _ (eq_sum  hR)) gL_law_X5_sum rfl rfl rfl (by decide +kernel) (by decide) 0 WXg0 rfl rfl rfl (Nat.le_of_ble_eq_true rfl) (by decide) (by decide) dL_law_834 (fun r u hu => ?_)
  refine g_swap ?_
  refine g_aload_n C 1 dL_law_837 rfl rfl ?_
  refine g_aload_n C 3 dL_law_838 rfl rfl ?_
  refine g_iload_n C 0 dL_law_839 rfl rfl ?_
  refine g_iconst C (1 : Int32) dL_law_840 (by decide) ?_
  refine g_iadd C dL_law_841 ?_
  refine g_sld C hX hbl (Nat.not_le.mpr hbl) h1 dL_law_842 ?_
  refine g_call2i C (fun _ h => h) (As := [.int (xs (iv + 1).toNatClampNeg)]) 1 (fun A1 => c_X6_sum l D A1 adM cA (xs (iv + 1).toNatClampNeg) _ hu) gL_law_X6_sum rfl rfl rfl (by decide +kernel) (by decide) 0 WMg0 rfl rfl rfl (Nat.le_of_ble_eq_true rfl) (by decide) (by decide) dL_law_843 (fun q v hv => ?_)
  exact g_icmp_eq C 907 dL_law_846 (by decide) (fun _ => K _ (INV.mk1 hv.2)) (fun hne => absurd hv.1.symm hne)
set_option maxHeartbeats 4000000 in
set_option maxRecDepth 100000 in
theorem L_patience (C : CxX p s m #[.ref b] c D (tysX cA) RL cL_law 8 wsL_law) (hX : va_X b L xs s s.heap) (hbl : b < s.heap.size) (h1 : vp_in (iv + 1) L) (h2 : vp_in (iv + 2) L) (h3 : vp_in (iv + 3) L) (hT : T ≤ 100000) (hI : INV adX adM cA T w) (K : ∀ w2 : va_W, INV adX adM cA (T + 1) w2 → GoX p l e room_1 s m #[.ref b] below meth c D (fun q : Nat => s.heap.size ≤ q) 8 110 1467 Q 907 [(3, .int iv), (2, .ref (adM 0)), (1, .ref (adX 0)), (0, .ref b)] [] w2) : GoX p l e room_1 s m #[.ref b] below meth c D (fun q : Nat => s.heap.size ≤ q) 8 110 1467 Q 851 [(3, .int iv), (2, .ref (adM 0)), (1, .ref (adX 0)), (0, .ref b)] [] w := by
  obtain ⟨tl, tx, mn, sd, e0, e1, e2, e3, e4, e5, e6, e7, e8, e9, e10, fr, hd, nw, kp, pt, hr, lr, ms, mb, my, mt, mw, ml, mo, gm, gs, ga, gg, gb, gu, gh, gk, gl, gn, gt, rfl, hR⟩ := hI
  refine g_aload_n C 2 dL_law_851 rfl rfl ?_
  refine g_swap ?_
  refine g_call2i C (fun _ h => h) (As := []) 0 (fun A1 => c_X5_patience l D A1 adX cA  _ (eq_patience  hR)) gL_law_X5_patience rfl rfl rfl (by decide +kernel) (by decide) 0 WXg0 rfl rfl rfl (Nat.le_of_ble_eq_true rfl) (by decide) (by decide) dL_law_852 (fun r u hu => ?_)
  refine g_swap ?_
  refine g_aload_n C 1 dL_law_855 rfl rfl ?_
  refine g_call2i C (fun _ h => h) (As := []) 0 (fun A1 => c_X6_patience l D A1 adM cA  _ hu) gL_law_X6_patience rfl rfl rfl (by decide +kernel) (by decide) 0 WMg0 rfl rfl rfl (Nat.le_of_ble_eq_true rfl) (by decide) (by decide) dL_law_856 (fun q v hv => ?_)
  exact g_icmp_eq C 907 dL_law_859 (by decide) (fun _ => K _ (INV.mk1 hv.2)) (fun hne => absurd hv.1.symm hne)
set_option maxHeartbeats 4000000 in
set_option maxRecDepth 100000 in
theorem L_share (C : CxX p s m #[.ref b] c D (tysX cA) RL cL_law 8 wsL_law) (hX : va_X b L xs s s.heap) (hbl : b < s.heap.size) (h1 : vp_in (iv + 1) L) (h2 : vp_in (iv + 2) L) (h3 : vp_in (iv + 3) L) (hT : T ≤ 100000) (hI : INV adX adM cA T w) (K : ∀ w2 : va_W, INV adX adM cA (T + 1) w2 → GoX p l e room_1 s m #[.ref b] below meth c D (fun q : Nat => s.heap.size ≤ q) 8 110 1467 Q 907 [(3, .int iv), (2, .ref (adM 0)), (1, .ref (adX 0)), (0, .ref b)] [] w2) : GoX p l e room_1 s m #[.ref b] below meth c D (fun q : Nat => s.heap.size ≤ q) 8 110 1467 Q 864 [(3, .int iv), (2, .ref (adM 0)), (1, .ref (adX 0)), (0, .ref b)] [] w := by
  obtain ⟨tl, tx, mn, sd, e0, e1, e2, e3, e4, e5, e6, e7, e8, e9, e10, fr, hd, nw, kp, pt, hr, lr, ms, mb, my, mt, mw, ml, mo, gm, gs, ga, gg, gb, gu, gh, gk, gl, gn, gt, rfl, hR⟩ := hI
  refine g_aload_n C 2 dL_law_864 rfl rfl ?_
  refine g_swap ?_
  refine g_call2f C (fun _ h => h) (As := []) 0 (fun A1 => c_X5_share l D A1 adX cA  _ (eq_share2 hT hR)) gL_law_X5_share rfl rfl rfl (by decide +kernel) (by decide) 0 WXg0 rfl rfl rfl (Nat.le_of_ble_eq_true rfl) (by decide) (by decide) dL_law_865 (fun r u hu => ?_)
  have hn := hu.1
  refine g_swap ?_
  refine g_f2d C dL_law_868 (share_n64 hn) ?_
  refine g_dstore C (lv2 := [(4, .double (FP.f2d r)), (3, .int iv), (2, .ref (adM 0)), (1, .ref (adX 0)), (0, .ref b)]) dL_law_869 (by decide) rfl ?_
  refine g_aload_n C 2 dL_law_871 rfl rfl ?_
  refine g_call2f C (fun _ h => h) (As := []) 0 (fun A1 => c_X6_share l D A1 adM cA  _ hu.2) gL_law_X6_share rfl rfl rfl (by decide +kernel) (by decide) 0 WMg0 rfl rfl rfl (Nat.le_of_ble_eq_true rfl) (by decide) (by decide) dL_law_872 (fun q v hv => ?_)
  obtain ⟨e9, -, hR2⟩ := hv
  rw [e9]
  refine g_f2d C dL_law_875 (share_n64 hn) ?_
  refine g_dstore C (lv2 := [(6, .double (FP.f2d r)), (4, .double (FP.f2d r)), (3, .int iv), (2, .ref (adM 0)), (1, .ref (adX 0)), (0, .ref b)]) dL_law_876 (by decide) rfl ?_
  refine g_dload C 1 dL_law_878 rfl ?_
  refine g_dload C 0 dL_law_880 rfl ?_
  refine g_dcmp C dL_law_882 ?_
  refine g_if_eq C 904 dL_law_883 (by decide) (fun _ => ?_) (fun hne => absurd (share_cmp hn _) hne)
  refine g_goto C 907 dL_law_904 (by decide) ?_
  exact g_sub [2, 3, 4, 5] rfl (K _ (INV.mk1 hR2))
end CASES
