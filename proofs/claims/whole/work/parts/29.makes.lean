/-! PURE 9: the reference makes all ways -/
/-- the k-th way in the reference's rows -/
def WA (mw ml : Nat → Int32) (k : Nat) (w : List Nat) : Prop := ml k = nI w.length ∧ ∀ i, i < w.length → mw (10 * k + i) = nI (w.getD i 0)
/-- the ways of L are made, and w is begun -/
def MP (mw ml : Nat → Int32) (L : List (List Nat)) (w : List Nat) : Prop := (∀ k, k < L.length → WA mw ml k (L.getD k [])) ∧ WA mw ml L.length w
theorem nar_char {q : Nat} (h : q < 65536) : vp_nar .char (nI q) = nI q := by
  unfold vp_nar
  rw [(pk_charN h).1]
theorem i2c_nI {q : Nat} (h : q < 65536) : ((nI q).toUInt32 % 65536).toInt32 = nI q := by
  rw [pk_char, pk_tn (by omega), Nat.mod_eq_of_lt h]
theorem getD_mem {L : List (List Nat)} {k : Nat} (h : k < L.length) : L.getD k [] ∈ L := by
  rw [List.getD_eq_getElem?_getD, List.getElem?_eq_getElem h]
  exact List.getElem_mem _
theorem getD_app {α : Type} (a b : List α) (x : α) (k : Nat) (h : k < a.length) : (a ++ b).getD k x = a.getD k x := by
  rw [List.getD_eq_getElem?_getD, List.getD_eq_getElem?_getD, List.getElem?_append_left h]
theorem getD_end {α : Type} (a : List α) (y x : α) : (a ++ [y]).getD a.length x = y := by
  rw [List.getD_eq_getElem?_getD, List.getElem?_append_right (Nat.le_refl _), Nat.sub_self]
  rfl
section PUT
variable {mw ml : Nat → Int32} {L : List (List Nat)} {w : List Nat} {Q : (Nat → Int32) → (Nat → Int32) → Prop}
theorem sp_put {c : Nat} (hL : ∀ y ∈ L, wok y) (hl : L.length < 16) (hw : (w ++ [c]).length ≤ 10) (hc : c < 65536) (h : MP mw ml L w) (hQ : ∀ mw' ml', MP mw' ml' L (w ++ [c]) → Q mw' ml') : F_X6_put (nI c) (nI L.length) mw ml Q := by
  obtain ⟨h1, h2, h3⟩ := h
  have hw2 : w.length < 10 := by rw [List.length_append] at hw; exact hw
  have e1 : (nI L.length).toNatClampNeg = L.length := nI_clamp (by omega)
  unfold F_X6_put B_X6_put_0
  rw [e1, h2]
  have e2 : (10 : Int32) * nI L.length + nI w.length = nI (10 * L.length + w.length) := by
    rw [show (10 : Int32) = nI 10 from rfl, pk_mul, nI_add]
  rw [e2, nI_clamp (show 10 * L.length + w.length < 2147483648 by omega), nar_char hc, nI_1]
  have hi := vp_in_nI hl (by decide)
  refine ⟨hi, vp_in_nI (by omega) (by decide), hi, hi, ?_⟩
  refine hQ _ _ ⟨fun k hk => ?_, ?_, fun i hi => ?_⟩
  · obtain ⟨a, b⟩ := h1 k hk
    have hy := (hL _ (getD_mem hk)).2
    refine ⟨?_, fun i hi => ?_⟩
    · rw [pk_un (by omega)]; exact a
    · rw [pk_un (by omega)]; exact b i hi
  · rw [pk_us, List.length_append]; rfl
  · rw [List.length_append] at hi
    have hi : i < w.length + 1 := hi
    by_cases q : i < w.length
    · rw [pk_un (by omega), h3 i q, getD_app _ _ _ _ q]
    · have e : i = w.length := by omega
      subst e
      rw [pk_us, getD_end]
theorem sp_putCount {h ch : Nat} {v2 : Int32} (hh : h ≤ 39) (hL : ∀ y ∈ L, wok y) (hl : L.length < 16) (hw : (w ++ cnt h ch).length ≤ 10) (hc : ch < 65536) (h2 : v2 = if h % 2 = 1 then 1 else 0) (hP : MP mw ml L w) (hQ : ∀ mw' ml', MP mw' ml' L (w ++ cnt h ch) → Q mw' ml') : F_X6_putCount (nI ((h + 1) / 2)) v2 (nI ch) (nI L.length) mw ml Q := by
  unfold F_X6_putCount B_X6_putCount_0
  have h10 : ∀ (w0 : List Nat) (mw ml : Nat → Int32), MP mw ml L w0 → (w0 ++ ((if h ≤ 2 then [] else [96 + (h + 1) / 2]) ++ [ch])) = w ++ cnt h ch → B_X6_putCount_10 Q (nI L.length) (nI ((h + 1) / 2)) (nI ch) mw ml := fun w0 mw ml hP e => by
    unfold B_X6_putCount_10 B_X6_putCount_26
    rw [← e] at hw hQ
    refine ⟨fun q => ?_, fun q => ?_⟩
    · have q2 : h ≤ 2 := by
        have := (nI_leI (b := 1) (by omega) (by omega)).mp q
        omega
      rw [if_pos q2] at hw hQ
      exact sp_put hL hl hw hc hP hQ
    · have q2 : ¬ h ≤ 2 := fun q2 => q ((nI_leI (b := 1) (by omega) (by omega)).mpr (by omega))
      rw [if_neg q2] at hw hQ
      have e3 : (97 : Int32) + nI ((h + 1) / 2) - 1 = nI (96 + (h + 1) / 2) := by
        show nI 97 + nI ((h + 1) / 2) - nI 1 = _
        rw [nI_add, pk_sub (by omega)]
        congr 1; omega
      rw [e3, i2c_nI (by omega)]
      refine sp_put hL hl (by simp at hw ⊢; omega) (by omega) hP (fun mw' ml' hP' => ?_)
      refine sp_put hL hl (by rw [List.append_assoc]; exact hw) hc hP' (fun mw2 ml2 hP2 => ?_)
      rw [List.append_assoc] at hP2
      exact hQ _ _ hP2
  subst h2
  by_cases q : h % 2 = 1
  · rw [if_pos q]
    refine ⟨fun n => absurd n (by decide), fun _ => ?_⟩
    have ec : cnt h ch = [72] ++ ((if h ≤ 2 then [] else [96 + (h + 1) / 2]) ++ [ch]) := by unfold cnt; rw [if_pos q]
    refine sp_put (c := 72) hL hl (by rw [ec] at hw; simp at hw ⊢; omega) (by omega) hP (fun mw' ml' hP' => h10 _ _ _ hP' ?_)
    rw [ec, List.append_assoc]
  · rw [if_neg q]
    refine ⟨fun _ => h10 w mw ml hP ?_, fun n => absurd rfl n⟩
    unfold cnt
    rw [if_neg q]; rfl
def frG (h : Nat) : List Nat := if h = 0 then [] else cnt h 71 ++ [38]
theorem rem2 {h : Nat} (hh : h < 2147483648) : nI h - nI h / 2 * 2 = nI (h % 2) := pk_rem hh (by decide) (by decide)
theorem half_up {h : Nat} (hh : h < 2147483640) : (nI h + 1) / 2 = nI ((h + 1) / 2) := by rw [nI_1]; exact pk_div (by omega) (by decide) (by decide)
theorem begin_0 {w0 : List Nat} (hl : L.length < 16) (h : ∀ k, k < L.length → WA mw ml k (L.getD k [])) : MP mw (upd ml (nI L.length).toNatClampNeg 0) L [] := by
  have e1 : (nI L.length).toNatClampNeg = L.length := nI_clamp (by omega)
  rw [e1]
  refine ⟨fun k hk => ?_, pk_us, fun i hi => absurd hi (Nat.not_lt_zero i)⟩
  obtain ⟨a, b⟩ := h k hk
  exact ⟨by rw [pk_un (by omega)]; exact a, b⟩
/-- begins: with "&" (v2 = 1) or without -/
theorem sp_begins {h : Nat} {v2 : Int32} {e : List Nat} (hh : h < 39) (hL : ∀ y ∈ L, wok y) (hl : L.length < 16) (hv : (v2 = 1 ∧ e = frG h) ∨ (v2 = 0 ∧ h ≠ 0 ∧ e = cnt h 71)) (hP : ∀ k, k < L.length → WA mw ml k (L.getD k [])) (hQ : ∀ mw' ml', MP mw' ml' L e → Q mw' ml') : F_X6_begins (nI h) v2 (nI L.length) mw ml Q := by
  have h0 := begin_0 (w0 := []) hl hP
  unfold F_X6_begins B_X6_begins_0 B_X6_begins_47
  refine ⟨vp_in_nI hl (by decide), fun q => ?_, fun q => ?_⟩
  · have q2 : h = 0 := by
      have := (nI_leI (b := 0) (by omega) (by omega)).mp q
      omega
    rcases hv with ⟨-, e1⟩ | ⟨-, n, -⟩
    · unfold frG at e1
      rw [if_pos q2] at e1
      rw [e1] at hQ
      exact hQ _ _ h0
    · exact absurd q2 n
  · have q2 : h ≠ 0 := fun q2 => q (by rw [q2]; decide)
    obtain ⟨g1, g2⟩ := gr_facts hh
    have h32 : ∀ s2 : Int32, s2 = (if h % 2 = 1 then 1 else 0) → B_X6_begins_32 Q (nI L.length) v2 (nI ((h + 1) / 2)) s2 mw (upd ml (nI L.length).toNatClampNeg 0) := fun s2 hs2 => by
      unfold B_X6_begins_32 B_X6_begins_47
      refine sp_putCount (ch := 71) (by omega) hL hl (by simp; omega) (by omega) hs2 h0 (fun mw' ml' hP' => ⟨fun q3 => ?_, fun q3 => ?_⟩)
      · rcases hv with ⟨n, -⟩ | ⟨-, -, e1⟩
        · rw [n] at q3; exact absurd q3 (by decide)
        · rw [e1] at hQ; exact hQ _ _ hP'
      · rcases hv with ⟨-, e1⟩ | ⟨n, -, -⟩
        · unfold frG at e1
          rw [if_neg q2] at e1
          refine sp_put (c := 38) hL hl (by simp; omega) (by omega) hP' (fun mw2 ml2 hP2 => ?_)
          rw [e1] at hQ; exact hQ _ _ hP2
        · exact absurd n q3
    rw [rem2 (by omega), half_up (by omega)]
    refine ⟨fun q3 => h32 1 ?_, fun q3 => h32 0 ?_⟩
    · have q4 : h % 2 = 1 := (nI_eq (b := 1) (by omega) (by omega)).mp q3
      rw [if_pos q4]
    · have q4 : ¬ h % 2 = 1 := fun q4 => q3 ((nI_eq (b := 1) (by omega) (by omega)).mpr q4)
      rw [if_neg q4]
theorem sp_putBase {t : Nat} (ht : t ≤ 38) (hL : ∀ y ∈ L, wok y) (hl : L.length < 16) (hw : (w ++ cnt t 83).length ≤ 10) (hP : MP mw ml L w) (hQ : ∀ mw' ml', MP mw' ml' L (w ++ cnt t 83) → Q mw' ml') : F_X6_putBase (nI t) (nI L.length) mw ml Q := by
  unfold F_X6_putBase B_X6_putBase_0 B_X6_putBase_18
  rw [rem2 (by omega), half_up (by omega)]
  refine ⟨fun q3 => ?_, fun q3 => ?_⟩
  · have q4 : t % 2 = 1 := (nI_eq (b := 1) (by omega) (by omega)).mp q3
    exact sp_putCount (ch := 83) (by omega) hL hl hw (by omega) (by rw [if_pos q4]) hP hQ
  · have q4 : ¬ t % 2 = 1 := fun q4 => q3 ((nI_eq (b := 1) (by omega) (by omega)).mpr q4)
    exact sp_putCount (ch := 83) (by omega) hL hl hw (by omega) (by rw [if_neg q4]) hP hQ
theorem MP_done (h : MP mw ml L w) : ∀ k, k < (L ++ [w]).length → WA mw ml k ((L ++ [w]).getD k []) := fun k hk => by
  rw [List.length_append] at hk
  have hk : k < L.length + 1 := hk
  by_cases q : k < L.length
  · rw [getD_app _ _ _ _ q]; exact h.1 k q
  · have e : k = L.length := by omega
    subst e
    rw [getD_end]; exact h.2
end PUT
theorem sp_in {v lo hi : Int32} {Q : Int32 → Prop} (h0 : (v < lo ∨ hi < v) → Q 0) (h1 : ¬ v < lo → ¬ hi < v → Q 1) : F_X6_in v lo hi Q := by
  refine ⟨fun a => ⟨isBo0, h0 (Or.inl a)⟩, fun a => ⟨fun b => ⟨isBo0, h0 (Or.inr b)⟩, fun b => ⟨isBo1, h1 a b⟩⟩⟩
def tM (s i : Nat) : Option Nat := if 19 < s + i ∧ (s + i - 19) % 10 = 0 ∧ 2 ≤ (s + i - 19) / 10 ∧ (s + i - 19) / 10 ≤ 38 then some ((s + i - 19) / 10) else none
theorem tens_eq : ∀ s, s < 400 → s = 0 ∨ (List.range' 0 39).filterMap (tM s) = List.range' (loT s) (hiT s + 1 - loT s) := by decide +kernel
theorem sp_smalls {h s : Nat} {L : List (List Nat)} {mw ml : Nat → Int32} {Q : (Nat → Int32) → (Nat → Int32) → Int32 → Prop} (hh : h < 39) (h1 : 1 ≤ s) (hs : s < 400) (hL : ∀ y ∈ L, wok y) (hT : ∀ v ∈ smL s, wok (frG h ++ v)) (hl : L.length + (smL s).length ≤ 16) (hP : ∀ k, k < L.length → WA mw ml k (L.getD k []))
    (hQ : ∀ mw' ml', (∀ k, k < (L ++ (smL s).map (fun v => frG h ++ v)).length → WA mw' ml' k ((L ++ (smL s).map (fun v => frG h ++ v)).getD k [])) → Q mw' ml' (nI (L ++ (smL s).map (fun v => frG h ++ v)).length)) : F_X6_smalls (nI h) (nI s) mw ml (nI L.length) Q := by
  have key : ∀ m i (L : List (List Nat)) (mw ml : Nat → Int32), i + m = 39 → (∀ y ∈ L, wok y) → (∀ v ∈ ((List.range' i m).filterMap (tM s)).map (smW s), wok (frG h ++ v)) → L.length + (((List.range' i m).filterMap (tM s)).map (smW s)).length ≤ 16 → (∀ k, k < L.length → WA mw ml k (L.getD k [])) →
      (∀ mw' ml', (∀ k, k < (L ++ (((List.range' i m).filterMap (tM s)).map (smW s)).map (fun v => frG h ++ v)).length → WA mw' ml' k ((L ++ (((List.range' i m).filterMap (tM s)).map (smW s)).map (fun v => frG h ++ v)).getD k [])) → Q mw' ml' (nI (L ++ (((List.range' i m).filterMap (tM s)).map (smW s)).map (fun v => frG h ++ v)).length)) →
      L_X6_smalls_36 Q (m + 1) (nI h) (nI s) (zI ((i : Int) - 19)) mw ml (nI L.length) := by
    intro m
    induction m with
    | zero =>
      intro i L mw ml hi hL hT hl hP hQ
      have hi : i = 39 := by omega
      subst hi
      refine ⟨fun _ => ?_, fun q => absurd (by decide) q⟩
      have h9 := hQ mw ml
      rw [show ((List.range' 39 0).filterMap (tM s)).map (smW s) = [] from rfl] at h9
      rw [List.map_nil, List.append_nil] at h9
      exact h9 hP
    | succ m ih =>
      intro i L mw ml hi hL hT hl hP hQ
      have e20 : ¬ (20 : Int32) ≤ zI ((i : Int) - 19) := fun q => by
        rw [show (20 : Int32) = zI 20 from rfl, zI_le (by omega) (by omega) (by omega) (by omega)] at q
        omega
      have esum : nI s + zI ((i : Int) - 19) = zI ((s : Int) + i - 19) := by
        rw [← zI_nat, zI_add]; congr 1; omega
      have einc : zI ((i : Int) - 19) + 1 = zI (((i + 1 : Nat) : Int) - 19) := by
        rw [show (1 : Int32) = zI 1 from rfl, zI_add]; congr 1; omega
      rw [List.range'_succ, List.filterMap_cons] at hT hl hQ
      have hskip : tM s i = none → B_X6_smalls_138 (L_X6_smalls_36 Q (m + 1)) Q (nI h) (nI s) (zI ((i : Int) - 19)) mw ml (nI L.length) := fun hn => by
        rw [hn] at hT hl hQ
        unfold B_X6_smalls_138
        rw [einc]
        exact ih (i + 1) L mw ml (by omega) hL hT hl hP hQ
      refine ⟨fun q => absurd q e20, fun _ => ?_⟩
      rw [esum]
      refine ⟨fun q => ?_, fun q => ?_⟩
      · refine hskip ?_
        rw [show (0 : Int32) = zI 0 from rfl, zI_le (by omega) (by omega) (by omega) (by omega)] at q
        unfold tM
        rw [if_neg (by omega)]
      · rw [show (0 : Int32) = zI 0 from rfl, zI_le (by omega) (by omega) (by omega) (by omega)] at q
        have eb : zI ((s : Int) + i - 19) = nI (s + i - 19) := by
          rw [← zI_nat]; congr 1; omega
        rw [eb]
        have er : nI (s + i - 19) - nI (s + i - 19) / 10 * 10 = nI ((s + i - 19) % 10) := pk_rem (by omega) (by decide) (by decide)
        have ed : nI (s + i - 19) / 10 = nI ((s + i - 19) / 10) := pk_div (by omega) (by decide) (by decide)
        rw [er, ed]
        refine ⟨fun q2 => ?_, fun q2 => ?_⟩
        · have q3 : (s + i - 19) % 10 = 0 := (nI_eq (b := 0) (by omega) (by omega)).mp q2
          refine sp_in (fun q4 => ⟨isBo0, fun _ => hskip ?_, fun n => absurd rfl n⟩) (fun q4 q5 => ⟨isBo1, fun n => absurd n (by decide), fun _ => ?_⟩)
          · unfold tM
            rw [if_neg]
            rintro ⟨a1, a2, a3, a4⟩
            rcases q4 with q4 | q4
            · exact nI_nlt (b := 2) a3 (by omega) q4
            · exact nI_nlt (a := 38) a4 (by omega) q4
          · have a3 : 2 ≤ (s + i - 19) / 10 := Classical.byContradiction fun n => q4 (nI_lt (b := 2) (by omega) (by omega))
            have a4 : (s + i - 19) / 10 ≤ 38 := Classical.byContradiction fun n => q5 (nI_lt (a := 38) (by omega) (by omega))
            have ht : tM s i = some ((s + i - 19) / 10) := by
              unfold tM
              rw [if_pos ⟨by omega, q3, a3, a4⟩]
            rw [ht] at hT hl hQ
            generalize hte : (s + i - 19) / 10 = t at *
            have hbase : s + i - 19 = 10 * t := by omega
            have hx1 : wok (frG h ++ smW s t) := hT _ List.mem_cons_self
            have hl2 : L.length + ((((List.range' (i + 1) m).filterMap (tM s)).map (smW s)).length + 1) ≤ 16 := hl
            have hlen := hx1.2
            have hgo : ∀ mw' ml', MP mw' ml' L (frG h ++ smW s t) → B_X6_smalls_138 (L_X6_smalls_36 Q (m + 1)) Q (nI h) (nI s) (zI ((i : Int) - 19)) mw' ml' (nI L.length + 1) := fun mw' ml' hP' => by
              unfold B_X6_smalls_138
              rw [einc, nI_1]
              have h5 := ih (i + 1) (L ++ [frG h ++ smW s t]) mw' ml' (by omega) (fun y hy => (List.mem_append.mp hy).elim (hL y) (fun e => by rw [List.mem_singleton.mp e]; exact hx1)) (fun v hv => hT v (List.mem_cons_of_mem _ hv)) (by rw [List.length_append]; show L.length + 1 + _ ≤ 16; omega) (MP_done hP') (fun mw2 ml2 h2 => by
                have h6 := hQ mw2 ml2
                rw [List.map_cons, List.map_cons] at h6
                rw [List.append_assoc] at h2 ⊢
                exact h6 h2)
              rw [List.length_append] at h5
              exact h5
            refine sp_begins (e := frG h) hh hL (by omega) (Or.inl ⟨rfl, rfl⟩) hP (fun mw1 ml1 hP1 => ⟨fun q6 => ?_, fun q6 => ?_⟩)
            · rw [show (0 : Int32) = zI 0 from rfl, zI_le (by omega) (by omega) (by omega) (by omega)] at q6
              unfold B_X6_smalls_98
              have ed2 : nI (s + i - 19) / 10 = nI t := by rw [ed]
              rw [ed2]
              have hw1 : (frG h ++ cnt t 83).length ≤ 10 := by
                unfold smW at hlen
                by_cases z1 : s = 10 * t
                · rw [if_pos z1] at hlen; omega
                · rw [if_neg z1, if_pos (by omega)] at hlen
                  simp at hlen ⊢; omega
              refine sp_putBase a4 hL (by omega) hw1 hP1 (fun mw2 ml2 hP2 => ⟨fun q7 => ?_, fun q7 => ?_⟩)
              · rw [show (0 : Int32) = zI 0 from rfl, zI_le (by omega) (by omega) (by omega) (by omega)] at q7
                have z1 : s = 10 * t := by omega
                have ew : smW s t = cnt t 83 := by unfold smW; rw [if_pos z1]
                rw [ew] at hgo
                exact hgo _ _ hP2
              · rw [show (0 : Int32) = zI 0 from rfl, zI_le (by omega) (by omega) (by omega) (by omega)] at q7
                have z1 : ¬ s = 10 * t := by omega
                have z2 : 10 * t < s := by omega
                have ew : smW s t = cnt t 83 ++ [43, 96 + (s - 10 * t)] := by unfold smW; rw [if_neg z1, if_pos z2]
                rw [ew] at hgo hlen
                have eu : (97 : Int32) - zI ((i : Int) - 19) - 1 = nI (96 + (s - 10 * t)) := by
                  rw [show (97 : Int32) = zI 97 from rfl, show (1 : Int32) = zI 1 from rfl, zI_sub, zI_sub, ← zI_nat]
                  congr 1; omega
                rw [eu, i2c_nI (by omega)]
                refine sp_put (c := 43) hL (by omega) (by simp at hlen ⊢; omega) (by omega) hP2 (fun mw3 ml3 hP3 => ?_)
                refine sp_put hL (by omega) (by simp at hlen ⊢; omega) (by omega) hP3 (fun mw4 ml4 hP4 => ?_)
                rw [List.append_assoc, List.append_assoc] at hP4
                refine hgo _ _ ?_
                exact hP4
            · rw [show (0 : Int32) = zI 0 from rfl, zI_le (by omega) (by omega) (by omega) (by omega)] at q6
              have z1 : ¬ s = 10 * t := by omega
              have z2 : ¬ 10 * t < s := by omega
              have ew : smW s t = [96 + (10 * t - s), 45] ++ cnt t 83 := by unfold smW; rw [if_neg z1, if_neg z2]
              rw [ew] at hgo hlen
              have eu : (97 : Int32) + zI ((i : Int) - 19) - 1 = nI (96 + (10 * t - s)) := by
                rw [show (97 : Int32) = zI 97 from rfl, show (1 : Int32) = zI 1 from rfl, zI_add, zI_sub, ← zI_nat]
                congr 1; omega
              rw [eu, i2c_nI (by omega)]
              refine sp_put hL (by omega) (by simp at hlen ⊢; omega) (by omega) hP1 (fun mw3 ml3 hP3 => ?_)
              refine sp_put (c := 45) hL (by omega) (by simp at hlen ⊢; omega) (by omega) hP3 (fun mw4 ml4 hP4 => ?_)
              unfold B_X6_smalls_98
              have ed2 : nI (s + i - 19) / 10 = nI t := by rw [ed]
              rw [ed2]
              refine sp_putBase a4 hL (by omega) (by simp at hlen ⊢; omega) hP4 (fun mw2 ml2 hP2 => ⟨fun q7 => ?_, fun q7 => ?_⟩)
              · refine hgo _ _ ?_
                rw [List.append_assoc, List.append_assoc] at hP2
                exact hP2
              · exfalso
                rw [show (0 : Int32) = zI 0 from rfl, zI_le (by omega) (by omega) (by omega) (by omega)] at q7
                omega
        · refine hskip ?_
          unfold tM
          rw [if_neg]
          rintro ⟨a1, a2, a3, a4⟩
          exact q2 (by rw [a2]; rfl)
  have het := (tens_eq s hs).resolve_left (by omega)
  unfold F_X6_smalls B_X6_smalls_0 B_X6_smalls_33
  refine ⟨fun q => ?_, fun q => ?_⟩
  · have q2 : ¬ s ≤ 19 := fun q2 => nI_ge (b := 20) (a := s) (by omega) (by omega) q
    have esm : smL s = ((List.range' 0 39).filterMap (tM s)).map (smW s) := by
      unfold smL
      rw [if_neg q2, het]; rfl
    rw [esm] at hT hl hQ
    exact ⟨40, key 39 0 L mw ml rfl hL hT hl hP hQ⟩
  · have q2 : s ≤ 19 := Classical.byContradiction fun q2 => q (nI_le (a := 20) (by omega) (by omega))
    have esm : smL s = [96 + s] :: ((List.range' 0 39).filterMap (tM s)).map (smW s) := by
      unfold smL
      rw [if_pos q2, het]; rfl
    rw [esm] at hT hl hQ
    have hx1 : wok (frG h ++ [96 + s]) := hT _ List.mem_cons_self
    have hl2 : L.length + ((((List.range' 0 39).filterMap (tM s)).map (smW s)).length + 1) ≤ 16 := hl
    refine sp_begins (e := frG h) hh hL (by omega) (Or.inl ⟨rfl, rfl⟩) hP (fun mw1 ml1 hP1 => ?_)
    have eu : (97 : Int32) + nI s - 1 = nI (96 + s) := by
      show nI 97 + nI s - nI 1 = _
      rw [nI_add, pk_sub (by omega)]
      congr 1; omega
    rw [eu, i2c_nI (by omega)]
    refine sp_put hL (by omega) (by have := hx1.2; omega) (by omega) hP1 (fun mw2 ml2 hP2 => ?_)
    rw [nI_1]
    have h5 := key 39 0 (L ++ [frG h ++ [96 + s]]) mw2 ml2 rfl (fun y hy => (List.mem_append.mp hy).elim (hL y) (fun e => by rw [List.mem_singleton.mp e]; exact hx1)) (fun v hv => hT v (List.mem_cons_of_mem _ hv)) (by rw [List.length_append]; show L.length + 1 + _ ≤ 16; omega) (MP_done hP2) (fun mw3 ml3 h3 => by
      have h6 := hQ mw3 ml3
      rw [List.map_cons] at h6
      rw [List.append_assoc] at h3 ⊢
      exact h6 h3)
    rw [List.length_append] at h5
    exact ⟨40, h5⟩
