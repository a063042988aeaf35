/-! THE FIRST STATE: what the constructors made is the world of the cases, and both sides agree in it -/
section FIRST
variable {D : va_G} {cA : Nat → ClassId} {x : Nat} {u : U5} {H : Heap}
def adL (x : Nat) (u : U5) : List Nat := [x, u.2.2.2.2.1, u.2.2.2.2.2.1, u.2.2.2.2.2.2.1, u.2.2.2.2.2.2.2, u.2.2.1, u.2.2.2.1.1, u.1, (u.2.2.2.1.2.1 0), (u.2.2.2.1.2.1 1), (u.2.2.2.1.2.1 2), (u.2.2.2.1.2.1 3), u.2.1.1, (u.2.2.2.1.2.2 0).1, (u.2.2.2.1.2.2 1).1, (u.2.2.2.1.2.2 2).1, (u.2.2.2.1.2.2 3).1, u.2.1.2.1, (u.2.2.2.1.2.2 0).2.1, (u.2.2.2.1.2.2 1).2.1, (u.2.2.2.1.2.2 2).2.1, (u.2.2.2.1.2.2 3).2.1, (u.2.1.2.2.1 0), (u.2.1.2.2.1 1), (u.2.1.2.2.1 2), (u.2.1.2.2.1 3), (u.2.1.2.2.1 4), (u.2.1.2.2.1 5), ((u.2.2.2.1.2.2 0).2.2.1 0), ((u.2.2.2.1.2.2 0).2.2.1 1), ((u.2.2.2.1.2.2 0).2.2.1 2), ((u.2.2.2.1.2.2 0).2.2.1 3), ((u.2.2.2.1.2.2 0).2.2.1 4), ((u.2.2.2.1.2.2 0).2.2.1 5), ((u.2.2.2.1.2.2 1).2.2.1 0), ((u.2.2.2.1.2.2 1).2.2.1 1), ((u.2.2.2.1.2.2 1).2.2.1 2), ((u.2.2.2.1.2.2 1).2.2.1 3), ((u.2.2.2.1.2.2 1).2.2.1 4), ((u.2.2.2.1.2.2 1).2.2.1 5), ((u.2.2.2.1.2.2 2).2.2.1 0), ((u.2.2.2.1.2.2 2).2.2.1 1), ((u.2.2.2.1.2.2 2).2.2.1 2), ((u.2.2.2.1.2.2 2).2.2.1 3), ((u.2.2.2.1.2.2 2).2.2.1 4), ((u.2.2.2.1.2.2 2).2.2.1 5), ((u.2.2.2.1.2.2 3).2.2.1 0), ((u.2.2.2.1.2.2 3).2.2.1 1), ((u.2.2.2.1.2.2 3).2.2.1 2), ((u.2.2.2.1.2.2 3).2.2.1 3), ((u.2.2.2.1.2.2 3).2.2.1 4), ((u.2.2.2.1.2.2 3).2.2.1 5), (u.2.1.2.2.2 0), (u.2.1.2.2.2 1), (u.2.1.2.2.2 2), (u.2.1.2.2.2 3), (u.2.1.2.2.2 4), (u.2.1.2.2.2 5), (u.2.1.2.2.2 6), (u.2.1.2.2.2 7), (u.2.1.2.2.2 8), (u.2.1.2.2.2 9), ((u.2.2.2.1.2.2 0).2.2.2 0), ((u.2.2.2.1.2.2 0).2.2.2 1), ((u.2.2.2.1.2.2 0).2.2.2 2), ((u.2.2.2.1.2.2 0).2.2.2 3), ((u.2.2.2.1.2.2 0).2.2.2 4), ((u.2.2.2.1.2.2 0).2.2.2 5), ((u.2.2.2.1.2.2 0).2.2.2 6), ((u.2.2.2.1.2.2 0).2.2.2 7), ((u.2.2.2.1.2.2 0).2.2.2 8), ((u.2.2.2.1.2.2 0).2.2.2 9), ((u.2.2.2.1.2.2 1).2.2.2 0), ((u.2.2.2.1.2.2 1).2.2.2 1), ((u.2.2.2.1.2.2 1).2.2.2 2), ((u.2.2.2.1.2.2 1).2.2.2 3), ((u.2.2.2.1.2.2 1).2.2.2 4), ((u.2.2.2.1.2.2 1).2.2.2 5), ((u.2.2.2.1.2.2 1).2.2.2 6), ((u.2.2.2.1.2.2 1).2.2.2 7), ((u.2.2.2.1.2.2 1).2.2.2 8), ((u.2.2.2.1.2.2 1).2.2.2 9), ((u.2.2.2.1.2.2 2).2.2.2 0), ((u.2.2.2.1.2.2 2).2.2.2 1), ((u.2.2.2.1.2.2 2).2.2.2 2), ((u.2.2.2.1.2.2 2).2.2.2 3), ((u.2.2.2.1.2.2 2).2.2.2 4), ((u.2.2.2.1.2.2 2).2.2.2 5), ((u.2.2.2.1.2.2 2).2.2.2 6), ((u.2.2.2.1.2.2 2).2.2.2 7), ((u.2.2.2.1.2.2 2).2.2.2 8), ((u.2.2.2.1.2.2 2).2.2.2 9), ((u.2.2.2.1.2.2 3).2.2.2 0), ((u.2.2.2.1.2.2 3).2.2.2 1), ((u.2.2.2.1.2.2 3).2.2.2 2), ((u.2.2.2.1.2.2 3).2.2.2 3), ((u.2.2.2.1.2.2 3).2.2.2 4), ((u.2.2.2.1.2.2 3).2.2.2 5), ((u.2.2.2.1.2.2 3).2.2.2 6), ((u.2.2.2.1.2.2 3).2.2.2 7), ((u.2.2.2.1.2.2 3).2.2.2 8), ((u.2.2.2.1.2.2 3).2.2.2 9)]
def adX5 (x : Nat) (u : U5) : Nat → Nat := fun k => (adL x u).getD k 0
def gL5 : List Nat := [0, 98, 99, 100, 101, 20, 21, 1, 22, 41, 60, 79, 2, 23, 42, 61, 80, 9, 30, 49, 68, 87, 3, 4, 5, 6, 7, 8, 24, 25, 26, 27, 28, 29, 43, 44, 45, 46, 47, 48, 62, 63, 64, 65, 66, 67, 81, 82, 83, 84, 85, 86, 10, 11, 12, 13, 14, 15, 16, 17, 18, 19, 31, 32, 33, 34, 35, 36, 37, 38, 39, 40, 50, 51, 52, 53, 54, 55, 56, 57, 58, 59, 69, 70, 71, 72, 73, 74, 75, 76, 77, 78, 88, 89, 90, 91, 92, 93, 94, 95, 96, 97]
abbrev WX0 (cA : Nat → ClassId) (x : Nat) (u : U5) : va_W := WX (adX5 x u) cA 0 (fun _ => 0) 0 (fun _ => 0) 0 0 0 0 0 0 0 0 0 0 0 0 0 (fun _ => 0) (fun _ => 0) (fun _ => 2) (fun _ => hrow0) (fun _ _ => 0)
set_option maxHeartbeats 4000000 in
set_option maxRecDepth 100000 in
theorem w5_ad : ∀ n : Nat, n < 102 → ∃ e : va_E, (W5 cA x u)[gL5.getD n 0]? = some (adX5 x u n, e)
  | 0, _ => ⟨_, rfl⟩
  | 1, _ => ⟨_, rfl⟩
  | 2, _ => ⟨_, rfl⟩
  | 3, _ => ⟨_, rfl⟩
  | 4, _ => ⟨_, rfl⟩
  | 5, _ => ⟨_, rfl⟩
  | 6, _ => ⟨_, rfl⟩
  | 7, _ => ⟨_, rfl⟩
  | 8, _ => ⟨_, rfl⟩
  | 9, _ => ⟨_, rfl⟩
  | 10, _ => ⟨_, rfl⟩
  | 11, _ => ⟨_, rfl⟩
  | 12, _ => ⟨_, rfl⟩
  | 13, _ => ⟨_, rfl⟩
  | 14, _ => ⟨_, rfl⟩
  | 15, _ => ⟨_, rfl⟩
  | 16, _ => ⟨_, rfl⟩
  | 17, _ => ⟨_, rfl⟩
  | 18, _ => ⟨_, rfl⟩
  | 19, _ => ⟨_, rfl⟩
  | 20, _ => ⟨_, rfl⟩
  | 21, _ => ⟨_, rfl⟩
  | 22, _ => ⟨_, rfl⟩
  | 23, _ => ⟨_, rfl⟩
  | 24, _ => ⟨_, rfl⟩
  | 25, _ => ⟨_, rfl⟩
  | 26, _ => ⟨_, rfl⟩
  | 27, _ => ⟨_, rfl⟩
  | 28, _ => ⟨_, rfl⟩
  | 29, _ => ⟨_, rfl⟩
  | 30, _ => ⟨_, rfl⟩
  | 31, _ => ⟨_, rfl⟩
  | 32, _ => ⟨_, rfl⟩
  | 33, _ => ⟨_, rfl⟩
  | 34, _ => ⟨_, rfl⟩
  | 35, _ => ⟨_, rfl⟩
  | 36, _ => ⟨_, rfl⟩
  | 37, _ => ⟨_, rfl⟩
  | 38, _ => ⟨_, rfl⟩
  | 39, _ => ⟨_, rfl⟩
  | 40, _ => ⟨_, rfl⟩
  | 41, _ => ⟨_, rfl⟩
  | 42, _ => ⟨_, rfl⟩
  | 43, _ => ⟨_, rfl⟩
  | 44, _ => ⟨_, rfl⟩
  | 45, _ => ⟨_, rfl⟩
  | 46, _ => ⟨_, rfl⟩
  | 47, _ => ⟨_, rfl⟩
  | 48, _ => ⟨_, rfl⟩
  | 49, _ => ⟨_, rfl⟩
  | 50, _ => ⟨_, rfl⟩
  | 51, _ => ⟨_, rfl⟩
  | 52, _ => ⟨_, rfl⟩
  | 53, _ => ⟨_, rfl⟩
  | 54, _ => ⟨_, rfl⟩
  | 55, _ => ⟨_, rfl⟩
  | 56, _ => ⟨_, rfl⟩
  | 57, _ => ⟨_, rfl⟩
  | 58, _ => ⟨_, rfl⟩
  | 59, _ => ⟨_, rfl⟩
  | 60, _ => ⟨_, rfl⟩
  | 61, _ => ⟨_, rfl⟩
  | 62, _ => ⟨_, rfl⟩
  | 63, _ => ⟨_, rfl⟩
  | 64, _ => ⟨_, rfl⟩
  | 65, _ => ⟨_, rfl⟩
  | 66, _ => ⟨_, rfl⟩
  | 67, _ => ⟨_, rfl⟩
  | 68, _ => ⟨_, rfl⟩
  | 69, _ => ⟨_, rfl⟩
  | 70, _ => ⟨_, rfl⟩
  | 71, _ => ⟨_, rfl⟩
  | 72, _ => ⟨_, rfl⟩
  | 73, _ => ⟨_, rfl⟩
  | 74, _ => ⟨_, rfl⟩
  | 75, _ => ⟨_, rfl⟩
  | 76, _ => ⟨_, rfl⟩
  | 77, _ => ⟨_, rfl⟩
  | 78, _ => ⟨_, rfl⟩
  | 79, _ => ⟨_, rfl⟩
  | 80, _ => ⟨_, rfl⟩
  | 81, _ => ⟨_, rfl⟩
  | 82, _ => ⟨_, rfl⟩
  | 83, _ => ⟨_, rfl⟩
  | 84, _ => ⟨_, rfl⟩
  | 85, _ => ⟨_, rfl⟩
  | 86, _ => ⟨_, rfl⟩
  | 87, _ => ⟨_, rfl⟩
  | 88, _ => ⟨_, rfl⟩
  | 89, _ => ⟨_, rfl⟩
  | 90, _ => ⟨_, rfl⟩
  | 91, _ => ⟨_, rfl⟩
  | 92, _ => ⟨_, rfl⟩
  | 93, _ => ⟨_, rfl⟩
  | 94, _ => ⟨_, rfl⟩
  | 95, _ => ⟨_, rfl⟩
  | 96, _ => ⟨_, rfl⟩
  | 97, _ => ⟨_, rfl⟩
  | 98, _ => ⟨_, rfl⟩
  | 99, _ => ⟨_, rfl⟩
  | 100, _ => ⟨_, rfl⟩
  | 101, _ => ⟨_, rfl⟩
  | n + 102, h => absurd h (by omega)
set_option maxHeartbeats 4000000 in
set_option maxRecDepth 100000 in
theorem w5_hr (hP : va_P D vwCl (W5 cA x u) H) : ∀ n : Nat, n < 30 → va_at D vwCl (adX5 x u (22 + n), .inl (cA 1, 9, .inl hrow0)) H
  | 0, _ => hP 3 _ rfl
  | 1, _ => hP 4 _ rfl
  | 2, _ => hP 5 _ rfl
  | 3, _ => hP 6 _ rfl
  | 4, _ => hP 7 _ rfl
  | 5, _ => hP 8 _ rfl
  | 6, _ => hP 24 _ rfl
  | 7, _ => hP 25 _ rfl
  | 8, _ => hP 26 _ rfl
  | 9, _ => hP 27 _ rfl
  | 10, _ => hP 28 _ rfl
  | 11, _ => hP 29 _ rfl
  | 12, _ => hP 43 _ rfl
  | 13, _ => hP 44 _ rfl
  | 14, _ => hP 45 _ rfl
  | 15, _ => hP 46 _ rfl
  | 16, _ => hP 47 _ rfl
  | 17, _ => hP 48 _ rfl
  | 18, _ => hP 62 _ rfl
  | 19, _ => hP 63 _ rfl
  | 20, _ => hP 64 _ rfl
  | 21, _ => hP 65 _ rfl
  | 22, _ => hP 66 _ rfl
  | 23, _ => hP 67 _ rfl
  | 24, _ => hP 81 _ rfl
  | 25, _ => hP 82 _ rfl
  | 26, _ => hP 83 _ rfl
  | 27, _ => hP 84 _ rfl
  | 28, _ => hP 85 _ rfl
  | 29, _ => hP 86 _ rfl
  | n + 30, h => absurd h (by omega)
set_option maxHeartbeats 4000000 in
set_option maxRecDepth 100000 in
theorem w5_lr (hP : va_P D vwCl (W5 cA x u) H) : ∀ n : Nat, n < 50 → va_at D vwCl (adX5 x u (52 + n), .inl (cA 1, 5, .inl (fun _ => 0))) H
  | 0, _ => hP 10 _ rfl
  | 1, _ => hP 11 _ rfl
  | 2, _ => hP 12 _ rfl
  | 3, _ => hP 13 _ rfl
  | 4, _ => hP 14 _ rfl
  | 5, _ => hP 15 _ rfl
  | 6, _ => hP 16 _ rfl
  | 7, _ => hP 17 _ rfl
  | 8, _ => hP 18 _ rfl
  | 9, _ => hP 19 _ rfl
  | 10, _ => hP 31 _ rfl
  | 11, _ => hP 32 _ rfl
  | 12, _ => hP 33 _ rfl
  | 13, _ => hP 34 _ rfl
  | 14, _ => hP 35 _ rfl
  | 15, _ => hP 36 _ rfl
  | 16, _ => hP 37 _ rfl
  | 17, _ => hP 38 _ rfl
  | 18, _ => hP 39 _ rfl
  | 19, _ => hP 40 _ rfl
  | 20, _ => hP 50 _ rfl
  | 21, _ => hP 51 _ rfl
  | 22, _ => hP 52 _ rfl
  | 23, _ => hP 53 _ rfl
  | 24, _ => hP 54 _ rfl
  | 25, _ => hP 55 _ rfl
  | 26, _ => hP 56 _ rfl
  | 27, _ => hP 57 _ rfl
  | 28, _ => hP 58 _ rfl
  | 29, _ => hP 59 _ rfl
  | 30, _ => hP 69 _ rfl
  | 31, _ => hP 70 _ rfl
  | 32, _ => hP 71 _ rfl
  | 33, _ => hP 72 _ rfl
  | 34, _ => hP 73 _ rfl
  | 35, _ => hP 74 _ rfl
  | 36, _ => hP 75 _ rfl
  | 37, _ => hP 76 _ rfl
  | 38, _ => hP 77 _ rfl
  | 39, _ => hP 78 _ rfl
  | 40, _ => hP 88 _ rfl
  | 41, _ => hP 89 _ rfl
  | 42, _ => hP 90 _ rfl
  | 43, _ => hP 91 _ rfl
  | 44, _ => hP 92 _ rfl
  | 45, _ => hP 93 _ rfl
  | 46, _ => hP 94 _ rfl
  | 47, _ => hP 95 _ rfl
  | 48, _ => hP 96 _ rfl
  | 49, _ => hP 97 _ rfl
  | n + 50, h => absurd h (by omega)
set_option maxHeartbeats 4000000 in
set_option maxRecDepth 100000 in
theorem w5_st (hP : va_P D vwCl (W5 cA x u) H) : ∀ n : Nat, n < 5 → va_at D vwCl (adX5 x u (7 + n), .inr (2, [.ref (adX5 x u (12 + n)), .ref (adX5 x u (17 + n)), .int 0, .int 0, .int 2])) H
  | 0, _ => hP 1 _ rfl
  | 1, _ => hP 22 _ rfl
  | 2, _ => hP 41 _ rfl
  | 3, _ => hP 60 _ rfl
  | 4, _ => hP 79 _ rfl
  | n + 5, h => absurd h (by omega)
theorem at_cong {a N : Nat} {cB : ClassId} {f g : Nat → Option Nat} (h : va_at D vwCl (a, .inl (cB, N, .inr (.inr (.inr (.inr f))))) H) (e : ∀ j, j < N → f j = g j) : va_at D vwCl (a, .inl (cB, N, .inr (.inr (.inr (.inr g))))) H := by
  have h0 : H[a]? = some (arrV cB N (fun j => va_rf (f j))) := h
  show H[a]? = some (arrV cB N (fun j => va_rf (g j)))
  rw [h0, arrV_cong (fun j hj => by rw [e j hj])]
set_option maxHeartbeats 4000000 in
set_option maxRecDepth 100000 in
theorem w5_ho (hP : va_P D vwCl (W5 cA x u) H) : ∀ n : Nat, n < 5 → va_at D vwCl (adX5 x u (12 + n), .inl (cA 4, 6, .inr (.inr (.inr (.inr (fun j => some (adX5 x u (22 + (6 * n + j)))))))) ) H
  | 0, _ => at_cong (f := fun i => some (u.2.1.2.2.1 i)) (hP 2 _ rfl) (fun j hj => match j, hj with | 0, _ => rfl | 1, _ => rfl | 2, _ => rfl | 3, _ => rfl | 4, _ => rfl | 5, _ => rfl | j + 6, h => absurd h (by omega))
  | 1, _ => at_cong (f := fun i => some ((u.2.2.2.1.2.2 0).2.2.1 i)) (hP 23 _ rfl) (fun j hj => match j, hj with | 0, _ => rfl | 1, _ => rfl | 2, _ => rfl | 3, _ => rfl | 4, _ => rfl | 5, _ => rfl | j + 6, h => absurd h (by omega))
  | 2, _ => at_cong (f := fun i => some ((u.2.2.2.1.2.2 1).2.2.1 i)) (hP 42 _ rfl) (fun j hj => match j, hj with | 0, _ => rfl | 1, _ => rfl | 2, _ => rfl | 3, _ => rfl | 4, _ => rfl | 5, _ => rfl | j + 6, h => absurd h (by omega))
  | 3, _ => at_cong (f := fun i => some ((u.2.2.2.1.2.2 2).2.2.1 i)) (hP 61 _ rfl) (fun j hj => match j, hj with | 0, _ => rfl | 1, _ => rfl | 2, _ => rfl | 3, _ => rfl | 4, _ => rfl | 5, _ => rfl | j + 6, h => absurd h (by omega))
  | 4, _ => at_cong (f := fun i => some ((u.2.2.2.1.2.2 3).2.2.1 i)) (hP 80 _ rfl) (fun j hj => match j, hj with | 0, _ => rfl | 1, _ => rfl | 2, _ => rfl | 3, _ => rfl | 4, _ => rfl | 5, _ => rfl | j + 6, h => absurd h (by omega))
  | n + 5, h => absurd h (by omega)
set_option maxHeartbeats 4000000 in
set_option maxRecDepth 100000 in
theorem w5_lo (hP : va_P D vwCl (W5 cA x u) H) : ∀ n : Nat, n < 5 → va_at D vwCl (adX5 x u (17 + n), .inl (cA 4, 10, .inr (.inr (.inr (.inr (fun j => some (adX5 x u (52 + (10 * n + j)))))))) ) H
  | 0, _ => at_cong (f := fun i => some (u.2.1.2.2.2 i)) (hP 9 _ rfl) (fun j hj => match j, hj with | 0, _ => rfl | 1, _ => rfl | 2, _ => rfl | 3, _ => rfl | 4, _ => rfl | 5, _ => rfl | 6, _ => rfl | 7, _ => rfl | 8, _ => rfl | 9, _ => rfl | j + 10, h => absurd h (by omega))
  | 1, _ => at_cong (f := fun i => some ((u.2.2.2.1.2.2 0).2.2.2 i)) (hP 30 _ rfl) (fun j hj => match j, hj with | 0, _ => rfl | 1, _ => rfl | 2, _ => rfl | 3, _ => rfl | 4, _ => rfl | 5, _ => rfl | 6, _ => rfl | 7, _ => rfl | 8, _ => rfl | 9, _ => rfl | j + 10, h => absurd h (by omega))
  | 2, _ => at_cong (f := fun i => some ((u.2.2.2.1.2.2 1).2.2.2 i)) (hP 49 _ rfl) (fun j hj => match j, hj with | 0, _ => rfl | 1, _ => rfl | 2, _ => rfl | 3, _ => rfl | 4, _ => rfl | 5, _ => rfl | 6, _ => rfl | 7, _ => rfl | 8, _ => rfl | 9, _ => rfl | j + 10, h => absurd h (by omega))
  | 3, _ => at_cong (f := fun i => some ((u.2.2.2.1.2.2 2).2.2.2 i)) (hP 68 _ rfl) (fun j hj => match j, hj with | 0, _ => rfl | 1, _ => rfl | 2, _ => rfl | 3, _ => rfl | 4, _ => rfl | 5, _ => rfl | 6, _ => rfl | 7, _ => rfl | 8, _ => rfl | 9, _ => rfl | j + 10, h => absurd h (by omega))
  | 4, _ => at_cong (f := fun i => some ((u.2.2.2.1.2.2 3).2.2.2 i)) (hP 87 _ rfl) (fun j hj => match j, hj with | 0, _ => rfl | 1, _ => rfl | 2, _ => rfl | 3, _ => rfl | 4, _ => rfl | 5, _ => rfl | 6, _ => rfl | 7, _ => rfl | 8, _ => rfl | 9, _ => rfl | j + 10, h => absurd h (by omega))
  | n + 5, h => absurd h (by omega)
set_option maxHeartbeats 4000000 in
set_option maxRecDepth 100000 in
theorem W5_P (hP : va_P D vwCl (W5 cA x u) H) : va_P D vwCl (WX0 cA x u) H := by
  refine vP_all.mpr (fun q hq => ?_)
  rcases List.mem_append.mp hq with hq | hq
  · obtain ⟨k, hk⟩ := List.getElem?_of_mem hq
    match k, hk with
    | 0, hk => cases hk; exact hP 0 _ rfl
    | 1, hk => cases hk; exact hP 98 _ rfl
    | 2, hk => cases hk; exact hP 99 _ rfl
    | 3, hk => cases hk; exact hP 100 _ rfl
    | 4, hk => cases hk; exact hP 101 _ rfl
    | 5, hk => cases hk; exact hP 20 _ rfl
    | 6, hk => cases hk; exact at_cong (f := f4 u.2.2.2.1.2.1) (hP 21 _ rfl) (fun j hj => match j, hj with | 0, _ => rfl | 1, _ => rfl | 2, _ => rfl | 3, _ => rfl | j + 4, h => absurd h (by omega))
    | k + 7, hk => cases hk
  rcases List.mem_append.mp hq with hq | hq
  · obtain ⟨i, hi, rfl⟩ := List.mem_map.mp hq
    exact w5_st hP i (List.mem_range.mp hi)
  rcases List.mem_append.mp hq with hq | hq
  · obtain ⟨i, hi, rfl⟩ := List.mem_map.mp hq
    exact w5_ho hP i (List.mem_range.mp hi)
  rcases List.mem_append.mp hq with hq | hq
  · obtain ⟨i, hi, rfl⟩ := List.mem_map.mp hq
    exact w5_lo hP i (List.mem_range.mp hi)
  rcases List.mem_append.mp hq with hq | hq
  · obtain ⟨i, hi, rfl⟩ := List.mem_map.mp hq
    exact w5_hr hP i (List.mem_range.mp hi)
  · obtain ⟨i, hi, rfl⟩ := List.mem_map.mp hq
    exact w5_lr hP i (List.mem_range.mp hi)
theorem WX_len {ad : Nat → Nat} {cA : Nat → ClassId} {tl : Int32} {tx : Nat → Int32} {mn : Int32} {sd : Nat → Int64} {e0 e1 e2 e3 e4 e5 e6 e7 e8 e9 e10 fr hd : Int32} {nw kp pt : Nat → Int32} {hr lr : Nat → Nat → Int32} : (WX ad cA tl tx mn sd e0 e1 e2 e3 e4 e5 e6 e7 e8 e9 e10 fr hd nw kp pt hr lr).length = 102 := by
  unfold WX pS pHO pLO pHR pLR
  simp only [List.length_append, poolX_len]
  rfl
theorem WX_adr {ad : Nat → Nat} {cA : Nat → ClassId} {tl : Int32} {tx : Nat → Int32} {mn : Int32} {sd : Nat → Int64} {e0 e1 e2 e3 e4 e5 e6 e7 e8 e9 e10 fr hd : Int32} {nw kp pt : Nat → Int32} {hr lr : Nat → Nat → Int32} {k : Nat} {q : Nat × va_E} (h : (WX ad cA tl tx mn sd e0 e1 e2 e3 e4 e5 e6 e7 e8 e9 e10 fr hd nw kp pt hr lr)[k]? = some q) : k < 102 ∧ q.1 = ad k := by
  have hk : k < 102 := by
    have := (List.getElem?_eq_some_iff.mp h).1
    rwa [WX_len] at this
  refine ⟨hk, ?_⟩
  by_cases a1 : k < 7
  · match k, a1, h with
    | 0, _, h => cases h; rfl
    | 1, _, h => cases h; rfl
    | 2, _, h => cases h; rfl
    | 3, _, h => cases h; rfl
    | 4, _, h => cases h; rfl
    | 5, _, h => cases h; rfl
    | 6, _, h => cases h; rfl
    | k + 7, a1, h => exact absurd a1 (by omega)
  by_cases a2 : k < 12
  · obtain ⟨i, rfl⟩ : ∃ i, k = 7 + i := ⟨k - 7, by omega⟩
    rw [WXg_ST (by omega)] at h
    cases h
    rfl
  by_cases a3 : k < 17
  · obtain ⟨i, rfl⟩ : ∃ i, k = 12 + i := ⟨k - 12, by omega⟩
    rw [WXg_HO (by omega)] at h
    cases h
    rfl
  by_cases a4 : k < 22
  · obtain ⟨i, rfl⟩ : ∃ i, k = 17 + i := ⟨k - 17, by omega⟩
    rw [WXg_LO (by omega)] at h
    cases h
    rfl
  by_cases a5 : k < 52
  · obtain ⟨i, rfl⟩ : ∃ i, k = 22 + i := ⟨k - 22, by omega⟩
    rw [WXg_HR (by omega)] at h
    cases h
    rfl
  · obtain ⟨i, rfl⟩ : ∃ i, k = 52 + i := ⟨k - 52, by omega⟩
    rw [WXg_LR (by omega)] at h
    cases h
    rfl
theorem gL5_inj : ∀ i, i < 102 → ∀ j, j < 102 → gL5.getD i 0 = gL5.getD j 0 → i = j := by decide +kernel
theorem W5_D {A : Nat → Prop} (hD : va_D A (W5 cA x u)) : va_D A (WX0 cA x u) := by
  refine ⟨fun i j p q hi hj hpq => ?_, fun k q hk => ?_⟩
  · obtain ⟨i1, i2⟩ := WX_adr hi
    obtain ⟨j1, j2⟩ := WX_adr hj
    obtain ⟨ei, wi⟩ := w5_ad (cA := cA) (x := x) (u := u) i i1
    obtain ⟨ej, wj⟩ := w5_ad (cA := cA) (x := x) (u := u) j j1
    exact gL5_inj i i1 j j1 (hD.1 _ _ _ _ wi wj (by show adX5 x u i = adX5 x u j; rw [← i2, ← j2, hpq]))
  · obtain ⟨i1, i2⟩ := WX_adr hk
    obtain ⟨ei, wi⟩ := w5_ad (cA := cA) (x := x) (u := u) k i1
    rw [i2]
    exact hD.2 _ _ wi
end FIRST
