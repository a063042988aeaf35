/-! PURE 6: the ways to say a number, as lists; the class's side -/
def cnt (h ch : Nat) : List Nat := (if h % 2 = 1 then [72] else []) ++ ((if h ≤ 2 then [] else [96 + (h + 1) / 2]) ++ [ch])
def smW (s t : Nat) : List Nat := if s = 10 * t then cnt t 83 else if 10 * t < s then cnt t 83 ++ [43, 96 + (s - 10 * t)] else [96 + (10 * t - s), 45] ++ cnt t 83
def loT (s : Nat) : Nat := max 2 (s / 10 - 1)
def hiT (s : Nat) : Nat := min 38 ((s + 19) / 10)
def smL (s : Nat) : List (List Nat) := (if s ≤ 19 then [[96 + s]] else []) ++ (List.range' (loT s) (hiT s + 1 - loT s)).map (smW s)
def grL (h s : Nat) : List (List Nat) := if s = 0 then [cnt h 71] else (smL s).map (fun w => cnt h 71 ++ 38 :: w)
def loH (n : Nat) : Nat := max 2 (n / 200 - 1)
def hiH (n : Nat) : Nat := min 38 (n / 200)
def rawW (n : Nat) : List (List Nat) := (if n < 400 then smL n else []) ++ (List.range' (loH n) (hiH n + 1 - loH n)).flatMap (fun h => grL h (n - 200 * h))
def pkN (w : List Nat) : Nat := pkr w.reverse
/-- the greatest first: x behind all that are greater -/
def insR (x : List Nat) : List (List Nat) → List (List Nat)
  | [] => [x]
  | y :: r => if pkN x < pkN y then y :: insR x r else x :: y :: r
def sortR (L r : List (List Nat)) : List (List Nat) := L.foldl (fun r x => insR x r) r
def wok (w : List Nat) : Prop := okc w ∧ w.length ≤ 9
theorem pkN_lim {w : List Nat} (h : wok w) : pkN w < 9223372036854775808 := pkr_lim (fun c hc => h.1 c (List.mem_reverse.mp hc)) (by rw [List.length_reverse]; exact h.2)
theorem insR_len (x : List Nat) : ∀ r : List (List Nat), (insR x r).length = r.length + 1
  | [] => rfl
  | y :: r => by
    unfold insR
    by_cases q : pkN x < pkN y
    · rw [if_pos q]; show (insR x r).length + 1 = _; rw [insR_len x r]; rfl
    · rw [if_neg q]; rfl
theorem insR_mem {x z : List Nat} : ∀ {r : List (List Nat)}, z ∈ insR x r ↔ z = x ∨ z ∈ r
  | [] => by show z ∈ [x] ↔ _; simp
  | y :: r => by
    unfold insR
    by_cases q : pkN x < pkN y
    · rw [if_pos q, List.mem_cons, insR_mem (r := r), List.mem_cons]
      exact ⟨fun h => h.elim (fun a => Or.inr (Or.inl a)) (fun a => a.elim Or.inl (fun b => Or.inr (Or.inr b))), fun h => h.elim (fun a => Or.inr (Or.inl a)) (fun a => a.elim Or.inl (fun b => Or.inr (Or.inr b)))⟩
    · rw [if_neg q, List.mem_cons]
theorem sortR_mem {z : List Nat} : ∀ {L r : List (List Nat)}, z ∈ sortR L r ↔ z ∈ L ∨ z ∈ r
  | [], r => by show z ∈ r ↔ _; simp
  | x :: L, r => by
    show z ∈ sortR L (insR x r) ↔ _
    rw [sortR_mem (L := L), insR_mem, List.mem_cons]
    exact ⟨fun h => h.elim (fun a => Or.inl (Or.inr a)) (fun a => a.elim (fun b => Or.inl (Or.inl b)) Or.inr), fun h => h.elim (fun a => a.elim (fun b => Or.inr (Or.inl b)) Or.inl) (fun a => Or.inr (Or.inr a))⟩
theorem sortR_len : ∀ (L r : List (List Nat)), (sortR L r).length = L.length + r.length
  | [], r => by show r.length = 0 + r.length; omega
  | x :: L, r => by
    show (sortR L (insR x r)).length = _
    rw [sortR_len L, insR_len]
    show _ = L.length + 1 + r.length
    omega
/-- the class's room holds the ways of r, the greatest last -/
def XS (sd : Nat → Int64) (r : List (List Nat)) : Prop := ∀ i, i < r.length → sd i = pkL (r.reverse.getD i [])
theorem XS_cons {sd : Nat → Int64} {y : List Nat} {r : List (List Nat)} (h : XS sd (y :: r)) : XS sd r ∧ sd r.length = pkL y := by
  refine ⟨fun i hi => ?_, ?_⟩
  · rw [h i (by show i < r.length + 1; omega), List.reverse_cons, List.getD_eq_getElem?_getD, List.getD_eq_getElem?_getD, List.getElem?_append_left (by rw [List.length_reverse]; exact hi)]
  · rw [h r.length (by show r.length < r.length + 1; omega), List.reverse_cons, List.getD_eq_getElem?_getD, List.getElem?_append_right (by rw [List.length_reverse]; exact Nat.le_refl _)]
    rw [List.length_reverse, Nat.sub_self]
    rfl
theorem XS_of_cons {sd : Nat → Int64} {y : List Nat} {r : List (List Nat)} (h : XS sd r) (h2 : sd r.length = pkL y) : XS sd (y :: r) := by
  intro i hi
  have hi : i < r.length + 1 := hi
  rw [List.reverse_cons, List.getD_eq_getElem?_getD]
  by_cases e : i < r.length
  · rw [List.getElem?_append_left (by rw [List.length_reverse]; exact e), h i e, List.getD_eq_getElem?_getD]
  · have e2 : i = r.length := by omega
    subst e2
    rw [List.getElem?_append_right (by rw [List.length_reverse]; exact Nat.le_refl _), List.length_reverse, Nat.sub_self]
    exact h2
theorem XS_upd {sd : Nat → Int64} {r : List (List Nat)} {k : Nat} {v : Int64} (h : XS sd r) (hk : r.length ≤ k) : XS (vp_updL sd k v) r := fun i hi => by
  rw [pk_uLn (by omega)]; exact h i hi
theorem nI_m1 {j : Nat} (h : 0 < j) : nI j - 1 = nI (j - 1) := by
  show nI j - nI 1 = _
  rw [pk_sub h]
theorem sp_addX {x : List Nat} {r : List (List Nat)} {sd : Nat → Int64} {Q : Int32 → (Nat → Int64) → Prop} (hx : wok x) (hr : ∀ y ∈ r, wok y) (hl : r.length < 16) (hS : XS sd r)
    (h : ∀ sd', XS sd' (insR x r) → Q (nI (r.length + 1)) sd') : F_X4_add (pkL x) (nI r.length) sd Q := by
  have key : ∀ (r : List (List Nat)) (sd : Nat → Int64) (mn : Int32), (∀ y ∈ r, wok y) → r.length < 16 → XS sd r →
      ∀ (hh : ∀ sd', XS sd' (insR x r) → (∀ k, r.length < k → sd' k = sd k) → Q (mn + 1) sd'), L_X4_add_22 Q (r.length + 1) (pkL x) (nI r.length) mn sd := by
    intro r
    induction r with
    | nil =>
      intro sd mn _ _ hS hh
      refine ⟨fun _ => ?_, fun q => absurd (by decide) q⟩
      refine ⟨vp_in_nI (n := 0) (by omega) (by omega), ?_⟩
      refine hh _ (XS_of_cons (fun i hi => absurd hi (Nat.not_lt_zero i)) ?_) (fun k hk => ?_)
      · show vp_updL sd (nI 0).toNatClampNeg _ 0 = _
        rw [nI_clamp (by omega), pk_uLs]
      · show vp_updL sd (nI 0).toNatClampNeg _ k = _
        rw [nI_clamp (by omega), pk_uLn (by have hk : 0 < k := hk; omega)]
    | cons y r ih =>
      intro sd mn hr hl hS hh
      have hl : r.length + 1 < 16 := hl
      obtain ⟨hS1, hS2⟩ := XS_cons hS
      have hy := hr y List.mem_cons_self
      have em : nI (y :: r).length - 1 = nI r.length := nI_m1 (j := r.length + 1) (by omega)
      have ec : (nI (y :: r).length).toNatClampNeg = r.length + 1 := nI_clamp (by show r.length + 1 < _; omega)
      have h59 : ¬ pkN x < pkN y → B_X4_add_59 Q (pkL x) (nI (y :: r).length) mn sd := fun q => by
        refine ⟨vp_in_nI hl (by omega), ?_⟩
        rw [ec]
        refine hh _ ?_ (fun k hk => pk_uLn (by have hk : r.length + 1 < k := hk; omega))
        unfold insR
        rw [if_neg q]
        refine XS_of_cons (XS_upd hS (Nat.le_refl _)) ?_
        exact pk_uLs
      refine ⟨fun q => absurd q (nI_nle (by show 0 < r.length + 1; omega) (by show r.length + 1 < _; omega)), fun _ => ?_⟩
      rw [em]
      have hin : vp_in (nI r.length) 16 := vp_in_nI (by omega) (by omega)
      have ec0 : (nI r.length).toNatClampNeg = r.length := nI_clamp (by omega)
      rw [ec0, hS2]
      refine ⟨hin, fun q => ?_, fun q => ⟨hin, vp_in_nI hl (by omega), ?_⟩⟩
      · rw [lg_cmp_le] at q
        have q2 : pkN y ≤ pkN x := (lN_leB (pkN_lim hy) (pkN_lim hx)).mp q
        exact h59 (by omega)
      · rw [lg_cmp_le] at q
        have q2 : ¬ pkN y ≤ pkN x := fun q2 => q ((lN_leB (pkN_lim hy) (pkN_lim hx)).mpr q2)
        have em2 : nI (y :: r).length + -1 = nI r.length := pk_m1 r.length
        rw [em2, ec]
        refine ih _ mn (fun z hz => hr z (List.mem_cons_of_mem _ hz)) (by omega) (XS_upd hS1 (by omega)) (fun sd' hS' hk' => ?_)
        refine hh sd' ?_ (fun k hk => ?_)
        · unfold insR
          rw [if_pos (by omega)]
          refine XS_of_cons hS' ?_
          rw [insR_len, hk' (r.length + 1) (by omega), pk_uLs]
        · have hk : r.length + 1 < k := hk
          rw [hk' k (by omega), pk_uLn (by omega)]
  refine ⟨fun q => absurd q (nI_pos (by omega)), fun _ => ⟨fun _ => ⟨r.length + 1, key r sd (nI r.length) hr hl hS (fun sd' h1 _ => ?_)⟩, fun q => absurd (nI_lt (b := 16) hl (by omega)) q⟩⟩
  rw [nI_1]
  exact h sd' h1
theorem sp_unit {v : Nat} {Q : Int32 → Prop} (h : Q (nI (96 + v))) : F_X4_unit (nI v) Q := by
  show Q (((97 : Int32) + nI v) - 1)
  have e : ((97 : Int32) + nI v) - 1 = nI (96 + v) := by
    show nI 97 + nI v - nI 1 = _
    rw [nI_add, pk_sub (by omega)]
    congr 1; omega
  rw [e]; exact h
theorem sp_counted {w : List Nat} {h ch : Nat} {Q : Int64 → Prop} (hh : h ≤ 39) (hch : ch < 128) (hQ : Q (pkL (w ++ cnt h ch))) : F_X4_counted (pkL w) (nI h) (nI ch) Q := by
  have e2 : ∀ a : Nat, a < 2147483648 → nI a - nI a / 2 * 2 = nI (a % 2) := fun a ha => pk_rem ha (by decide) (by decide)
  have e3 : (nI h + 1) / 2 = nI ((h + 1) / 2) := by rw [nI_1]; exact pk_div (by omega) (by decide) (by decide)
  have h19 : ∀ w : List Nat, Q (pkL (w ++ ((if h ≤ 2 then [] else [96 + (h + 1) / 2]) ++ [ch]))) → B_X4_counted_19 Q (nI h) (nI ch) (pkL w) := fun w hQ => by
    unfold B_X4_counted_19 B_X4_counted_39
    refine ⟨fun q => ?_, fun q => ?_⟩
    · have q2 : h ≤ 2 := (nI_leI (b := 2) (by omega) (by omega)).mp q
      rw [if_pos q2] at hQ
      exact sp_then hQ hch
    · have q2 : ¬ h ≤ 2 := fun q2 => q ((nI_leI (b := 2) (by omega) (by omega)).mpr q2)
      rw [if_neg q2] at hQ
      rw [e3]
      refine sp_unit (sp_then (sp_then ?_ hch) (by omega))
      rw [List.append_assoc]
      exact hQ
  unfold F_X4_counted B_X4_counted_0
  rw [e2 h (by omega)]
  unfold cnt at hQ
  refine ⟨fun q => ?_, fun q => ?_⟩
  · have q2 : h % 2 = 1 := (nI_eq (b := 1) (by omega) (by omega)).mp q
    rw [if_pos q2] at hQ
    refine sp_then (c := 72) ?_ (by omega)
    refine h19 _ ?_
    rw [List.append_assoc]
    exact hQ
  · have q2 : ¬ h % 2 = 1 := fun q2 => q ((nI_eq (b := 1) (by omega) (by omega)).mpr q2)
    rw [if_neg q2] at hQ
    exact h19 _ hQ

