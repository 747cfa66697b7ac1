/-! LEVEL 3: the 97 cells at the start -/
theorem zu {α : Type} {f : Nat → α} {k j : Nat} {v : α} (h : j ≠ k) : va_up f k v j = f j := if_neg h
theorem wc15 (E : ruE) : rucell E ruA0 15 = .inl (E.2.2.2 4, 6, .inr (.inr (.inr (.inr (fun j => [(E.2.2.1 16), (E.2.2.1 17), (E.2.2.1 18), (E.2.2.1 19), (E.2.2.1 20), (E.2.2.1 21)][j]?))))) := by
  have e : ∀ i, (ruref ruA0 15 i).map E.2.2.1 = (fun j => [(E.2.2.1 16), (E.2.2.1 17), (E.2.2.1 18), (E.2.2.1 19), (E.2.2.1 20), (E.2.2.1 21)][j]?) i := by
    intro i
    match i with
    | 0 => rfl
    | 1 => rfl
    | 2 => rfl
    | 3 => rfl
    | 4 => rfl
    | 5 => rfl
    | i + 6 => rfl
  show Sum.inl (E.2.2.2 4, 6, Sum.inr (Sum.inr (Sum.inr (Sum.inr (fun i => (ruref ruA0 15 i).map E.2.2.1))))) = _
  rw [funext e]
theorem wc46 (E : ruE) : rucell E ruA0 46 = .inl (E.2.2.2 4, 6, .inr (.inr (.inr (.inr (fun j => [(E.2.2.1 47), (E.2.2.1 48), (E.2.2.1 49), (E.2.2.1 50), (E.2.2.1 51), (E.2.2.1 52)][j]?))))) := by
  have e : ∀ i, (ruref ruA0 46 i).map E.2.2.1 = (fun j => [(E.2.2.1 47), (E.2.2.1 48), (E.2.2.1 49), (E.2.2.1 50), (E.2.2.1 51), (E.2.2.1 52)][j]?) i := by
    intro i
    match i with
    | 0 => rfl
    | 1 => rfl
    | 2 => rfl
    | 3 => rfl
    | 4 => rfl
    | 5 => rfl
    | i + 6 => rfl
  show Sum.inl (E.2.2.2 4, 6, Sum.inr (Sum.inr (Sum.inr (Sum.inr (fun i => (ruref ruA0 46 i).map E.2.2.1))))) = _
  rw [funext e]
theorem wc73 (E : ruE) : rucell E ruA0 73 = .inl (E.2.2.2 3, 4, .inr (.inr (.inr (.inr (va_up (va_up (va_up (va_up (fun _ => none) 0 (some (E.2.2.1 74))) 1 (some (E.2.2.1 76))) 2 (some (E.2.2.1 78))) 3 (some (E.2.2.1 80))))))) := by
  have e : ∀ i, (ruref ruA0 73 i).map E.2.2.1 = (va_up (va_up (va_up (va_up (fun _ => none) 0 (some (E.2.2.1 74))) 1 (some (E.2.2.1 76))) 2 (some (E.2.2.1 78))) 3 (some (E.2.2.1 80))) i := by
    intro i
    match i with
    | 0 => rfl
    | 1 => rfl
    | 2 => rfl
    | 3 => rfl
    | i + 4 =>
      rw [zu (show i + 4 ≠ 3 by omega), zu (show i + 4 ≠ 2 by omega), zu (show i + 4 ≠ 1 by omega), zu (show i + 4 ≠ 0 by omega)]
      rfl
  show Sum.inl (E.2.2.2 3, 4, Sum.inr (Sum.inr (Sum.inr (Sum.inr (fun i => (ruref ruA0 73 i).map E.2.2.1))))) = _
  rw [funext e]
theorem wc91 (E : ruE) : rucell E ruA0 91 = .inl (E.2.2.2 5, 6, .inr (.inr (.inr (.inr (va_up (va_up (va_up (va_up (va_up (va_up (fun _ => none) 0 (some (E.2.2.1 97))) 1 (some (E.2.2.1 98))) 2 (some (E.2.2.1 99))) 3 (some (E.2.2.1 100))) 4 (some (E.2.2.1 101))) 5 (some (E.2.2.1 102))))))) := by
  have e : ∀ i, (ruref ruA0 91 i).map E.2.2.1 = (va_up (va_up (va_up (va_up (va_up (va_up (fun _ => none) 0 (some (E.2.2.1 97))) 1 (some (E.2.2.1 98))) 2 (some (E.2.2.1 99))) 3 (some (E.2.2.1 100))) 4 (some (E.2.2.1 101))) 5 (some (E.2.2.1 102))) i := by
    intro i
    match i with
    | 0 => rfl
    | 1 => rfl
    | 2 => rfl
    | 3 => rfl
    | 4 => rfl
    | 5 => rfl
    | i + 6 =>
      rw [zu (show i + 6 ≠ 5 by omega), zu (show i + 6 ≠ 4 by omega), zu (show i + 6 ≠ 3 by omega), zu (show i + 6 ≠ 2 by omega), zu (show i + 6 ≠ 1 by omega), zu (show i + 6 ≠ 0 by omega)]
      rfl
  show Sum.inl (E.2.2.2 5, 6, Sum.inr (Sum.inr (Sum.inr (Sum.inr (fun i => (ruref ruA0 91 i).map E.2.2.1))))) = _
  rw [funext e]
set_option maxRecDepth 20000 in
set_option maxHeartbeats 4000000 in
theorem ws0 (E : ruE) : ruws E ruA0 = [(E.2.2.1 0, .inr (10, [.ref (E.2.2.1 1), .ref (E.2.2.1 32), .int 0, .ref (E.2.2.1 2), .ref (E.2.2.1 9), .ref (E.2.2.1 63), .ref (E.2.2.1 69), .ref (E.2.2.1 70), .ref (E.2.2.1 72), .int 0, .ref (E.2.2.1 73), .ref (E.2.2.1 82), .int 0])), (E.2.2.1 1, .inr (0, [.ref (E.2.2.1 2), .ref (E.2.2.1 9), .ref (E.2.2.1 14), .ref (E.2.2.1 23), .ref (E.2.2.1 29)])), (E.2.2.1 2, .inr (5, [.int 0, .int 0, .int 0, .ref (E.2.2.1 3), .ref (E.2.2.1 4), .ref (E.2.2.1 5), .ref (E.2.2.1 6), .ref (E.2.2.1 7), .ref (E.2.2.1 8)])), (E.2.2.1 3, .inl (E.2.2.2 0, 12, .inl fun _ => 0)), (E.2.2.1 4, .inl (E.2.2.2 0, 12, .inl fun _ => 0)), (E.2.2.1 5, .inl (E.2.2.2 0, 24, .inl fun _ => 0)), (E.2.2.1 6, .inl (E.2.2.2 0, 24, .inl fun _ => 0)), (E.2.2.1 7, .inl (E.2.2.2 0, 24, .inl fun _ => 0)), (E.2.2.1 8, .inl (E.2.2.2 0, 24, .inl fun _ => 0)), (E.2.2.1 9, .inr (6, [.ref (E.2.2.1 10), .ref (E.2.2.1 11), .ref (E.2.2.1 12), .ref (E.2.2.1 13)])), (E.2.2.1 10, .inl (E.2.2.2 1, 144, .inl fun _ => 0)), (E.2.2.1 11, .inl (E.2.2.2 0, 1728, .inl fun _ => 0)), (E.2.2.1 12, .inl (E.2.2.2 0, 1728, .inl fun _ => 0)), (E.2.2.1 13, .inl (E.2.2.2 0, 432, .inl fun _ => 0)), (E.2.2.1 14, .inr (9, [.int 0, .ref (E.2.2.1 15), .ref (E.2.2.1 22)])), (E.2.2.1 15, .inl (E.2.2.2 4, 6, .inr (.inr (.inr (.inr (fun j => [(E.2.2.1 16), (E.2.2.1 17), (E.2.2.1 18), (E.2.2.1 19), (E.2.2.1 20), (E.2.2.1 21)][j]?)))))), (E.2.2.1 16, .inl (E.2.2.2 0, 100, .inl fun _ => 0)), (E.2.2.1 17, .inl (E.2.2.2 0, 100, .inl fun _ => 0)), (E.2.2.1 18, .inl (E.2.2.2 0, 100, .inl fun _ => 0)), (E.2.2.1 19, .inl (E.2.2.2 0, 100, .inl fun _ => 0)), (E.2.2.1 20, .inl (E.2.2.2 0, 100, .inl fun _ => 0)), (E.2.2.1 21, .inl (E.2.2.2 0, 100, .inl fun _ => 0)), (E.2.2.1 22, .inl (E.2.2.2 0, 6, .inl fun _ => 0)), (E.2.2.1 23, .inr (2, [.int 0, .ref (E.2.2.1 24), .ref (E.2.2.1 25), .ref (E.2.2.1 26), .ref (E.2.2.1 27), .ref (E.2.2.1 28)])), (E.2.2.1 24, .inl (E.2.2.2 0, 30, .inl fun _ => 0)), (E.2.2.1 25, .inl (E.2.2.2 0, 30, .inl fun _ => 0)), (E.2.2.1 26, .inl (E.2.2.2 0, 30, .inl fun _ => 0)), (E.2.2.1 27, .inl (E.2.2.2 0, 30, .inl fun _ => 0)), (E.2.2.1 28, .inl (E.2.2.2 0, 10, .inl fun _ => 0)), (E.2.2.1 29, .inr (1, [.int 0, .ref (E.2.2.1 30), .ref (E.2.2.1 31)])), (E.2.2.1 30, .inl (E.2.2.2 0, 8, .inl fun _ => 0)), (E.2.2.1 31, .inl (E.2.2.2 0, 8, .inl fun _ => 0)), (E.2.2.1 32, .inr (0, [.ref (E.2.2.1 33), .ref (E.2.2.1 40), .ref (E.2.2.1 45), .ref (E.2.2.1 54), .ref (E.2.2.1 60)])), (E.2.2.1 33, .inr (5, [.int 0, .int 0, .int 0, .ref (E.2.2.1 34), .ref (E.2.2.1 35), .ref (E.2.2.1 36), .ref (E.2.2.1 37), .ref (E.2.2.1 38), .ref (E.2.2.1 39)])), (E.2.2.1 34, .inl (E.2.2.2 0, 12, .inl fun _ => 0)), (E.2.2.1 35, .inl (E.2.2.2 0, 12, .inl fun _ => 0)), (E.2.2.1 36, .inl (E.2.2.2 0, 24, .inl fun _ => 0)), (E.2.2.1 37, .inl (E.2.2.2 0, 24, .inl fun _ => 0)), (E.2.2.1 38, .inl (E.2.2.2 0, 24, .inl fun _ => 0)), (E.2.2.1 39, .inl (E.2.2.2 0, 24, .inl fun _ => 0)), (E.2.2.1 40, .inr (6, [.ref (E.2.2.1 41), .ref (E.2.2.1 42), .ref (E.2.2.1 43), .ref (E.2.2.1 44)])), (E.2.2.1 41, .inl (E.2.2.2 1, 144, .inl fun _ => 0)), (E.2.2.1 42, .inl (E.2.2.2 0, 1728, .inl fun _ => 0)), (E.2.2.1 43, .inl (E.2.2.2 0, 1728, .inl fun _ => 0)), (E.2.2.1 44, .inl (E.2.2.2 0, 432, .inl fun _ => 0)), (E.2.2.1 45, .inr (9, [.int 0, .ref (E.2.2.1 46), .ref (E.2.2.1 53)])), (E.2.2.1 46, .inl (E.2.2.2 4, 6, .inr (.inr (.inr (.inr (fun j => [(E.2.2.1 47), (E.2.2.1 48), (E.2.2.1 49), (E.2.2.1 50), (E.2.2.1 51), (E.2.2.1 52)][j]?)))))), (E.2.2.1 47, .inl (E.2.2.2 0, 100, .inl fun _ => 0)), (E.2.2.1 48, .inl (E.2.2.2 0, 100, .inl fun _ => 0)), (E.2.2.1 49, .inl (E.2.2.2 0, 100, .inl fun _ => 0)), (E.2.2.1 50, .inl (E.2.2.2 0, 100, .inl fun _ => 0)), (E.2.2.1 51, .inl (E.2.2.2 0, 100, .inl fun _ => 0)), (E.2.2.1 52, .inl (E.2.2.2 0, 100, .inl fun _ => 0)), (E.2.2.1 53, .inl (E.2.2.2 0, 6, .inl fun _ => 0)), (E.2.2.1 54, .inr (2, [.int 0, .ref (E.2.2.1 55), .ref (E.2.2.1 56), .ref (E.2.2.1 57), .ref (E.2.2.1 58), .ref (E.2.2.1 59)])), (E.2.2.1 55, .inl (E.2.2.2 0, 30, .inl fun _ => 0)), (E.2.2.1 56, .inl (E.2.2.2 0, 30, .inl fun _ => 0)), (E.2.2.1 57, .inl (E.2.2.2 0, 30, .inl fun _ => 0)), (E.2.2.1 58, .inl (E.2.2.2 0, 30, .inl fun _ => 0)), (E.2.2.1 59, .inl (E.2.2.2 0, 10, .inl fun _ => 0)), (E.2.2.1 60, .inr (1, [.int 0, .ref (E.2.2.1 61), .ref (E.2.2.1 62)])), (E.2.2.1 61, .inl (E.2.2.2 0, 8, .inl fun _ => 0)), (E.2.2.1 62, .inl (E.2.2.2 0, 8, .inl fun _ => 0)), (E.2.2.1 63, .inr (3, [.ref (E.2.2.1 65), .ref (E.2.2.1 64), .ref (E.2.2.1 2), .ref (E.2.2.1 9)])), (E.2.2.1 64, .inl (E.2.2.2 0, 6, .inl fun _ => 0)), (E.2.2.1 65, .inr (8, [.int 0, .int 0, .int 0, .int 0, .int 0, .ref (E.2.2.1 66), .ref (E.2.2.1 67), .ref (E.2.2.1 68), .ref (E.2.2.1 2), .ref (E.2.2.1 9)])), (E.2.2.1 66, .inl (E.2.2.2 0, 24, .inl fun _ => 0)), (E.2.2.1 67, .inl (E.2.2.2 2, 24, .inr (.inl fun _ => 0))), (E.2.2.1 68, .inl (E.2.2.2 0, 24, .inl fun _ => 0)), (E.2.2.1 69, .inl (E.2.2.2 0, 6, .inl fun _ => 0)), (E.2.2.1 70, .inr (4, [.ref (E.2.2.1 71), .int 0, .int 0, .int 0, .int 0, .int 0, .int 0, .ref (E.2.2.1 71), .ref (E.2.2.1 71)])), (E.2.2.1 71, .inl (E.2.2.2 0, 6, .inl fun _ => 0)), (E.2.2.1 72, .inl (E.2.2.2 0, 100, .inl fun _ => 0)), (E.2.2.1 73, .inl (E.2.2.2 3, 4, .inr (.inr (.inr (.inr (va_up (va_up (va_up (va_up (fun _ => none) 0 (some (E.2.2.1 74))) 1 (some (E.2.2.1 76))) 2 (some (E.2.2.1 78))) 3 (some (E.2.2.1 80)))))))), (E.2.2.1 74, .inr (7, [.int 0, .int 0, .ref (E.2.2.1 75)])), (E.2.2.1 75, .inl (E.2.2.2 0, 24, .inl fun _ => 0)), (E.2.2.1 76, .inr (7, [.int 0, .int 0, .ref (E.2.2.1 77)])), (E.2.2.1 77, .inl (E.2.2.2 0, 24, .inl fun _ => 0)), (E.2.2.1 78, .inr (7, [.int 0, .int 0, .ref (E.2.2.1 79)])), (E.2.2.1 79, .inl (E.2.2.2 0, 24, .inl fun _ => 0)), (E.2.2.1 80, .inr (7, [.int 0, .int 0, .ref (E.2.2.1 81)])), (E.2.2.1 81, .inl (E.2.2.2 0, 24, .inl fun _ => 0)), (E.2.2.1 82, .inl (E.2.2.2 0, 7, .inl fun _ => 0)), (E.2.2.1 83, .inr (11, [.ref (E.2.2.1 84), .ref (E.2.2.1 85), .int 0, .int 0, .ref (E.2.2.1 86), .ref (E.2.2.1 87), .int 0, .ref (E.2.2.1 88), .ref (E.2.2.1 89), .ref (E.2.2.1 90), .int 0, .int 0, .int 0, .ref (E.2.2.1 91), .int 0, .int 0, .int 0, .int 0, .int 0, .ref (E.2.2.1 92), .int 0, .ref (E.2.2.1 93), .ref (E.2.2.1 94), .ref (E.2.2.1 95), .ref (E.2.2.1 96)])), (E.2.2.1 84, .inl (E.2.2.2 0, 4920, .inl fun _ => 0)), (E.2.2.1 85, .inl (E.2.2.2 0, 4920, .inl fun _ => 0)), (E.2.2.1 86, .inl (E.2.2.2 0, 7, .inl fun _ => 0)), (E.2.2.1 87, .inl (E.2.2.2 0, 100, .inl fun _ => 0)), (E.2.2.1 88, .inl (E.2.2.2 0, 4, .inl fun _ => 0)), (E.2.2.1 89, .inl (E.2.2.2 0, 4, .inl fun _ => 0)), (E.2.2.1 90, .inl (E.2.2.2 0, 96, .inl fun _ => 0)), (E.2.2.1 91, .inl (E.2.2.2 5, 6, .inr (.inr (.inr (.inr (va_up (va_up (va_up (va_up (va_up (va_up (fun _ => none) 0 (some (E.2.2.1 97))) 1 (some (E.2.2.1 98))) 2 (some (E.2.2.1 99))) 3 (some (E.2.2.1 100))) 4 (some (E.2.2.1 101))) 5 (some (E.2.2.1 102)))))))), (E.2.2.1 92, .inl (E.2.2.2 0, 200, .inl fun _ => 0)), (E.2.2.1 93, .inl (E.2.2.2 0, 200, .inl fun _ => 0)), (E.2.2.1 94, .inl (E.2.2.2 0, 6, .inl fun _ => 0)), (E.2.2.1 95, .inl (E.2.2.2 1, 6, .inl fun _ => 0)), (E.2.2.1 96, .inl (E.2.2.2 0, 24, .inl fun _ => 0))] := by
  unfold ruws
  rw [show List.range 97 = [0, 1, 2, 3, 4, 5, 6, 7, 8, 9, 10, 11, 12, 13, 14, 15, 16, 17, 18, 19, 20, 21, 22, 23, 24, 25, 26, 27, 28, 29, 30, 31, 32, 33, 34, 35, 36, 37, 38, 39, 40, 41, 42, 43, 44, 45, 46, 47, 48, 49, 50, 51, 52, 53, 54, 55, 56, 57, 58, 59, 60, 61, 62, 63, 64, 65, 66, 67, 68, 69, 70, 71, 72, 73, 74, 75, 76, 77, 78, 79, 80, 81, 82, 83, 84, 85, 86, 87, 88, 89, 90, 91, 92, 93, 94, 95, 96] from rfl]
  simp only [List.map_cons, List.map_nil]
  rw [wc15, wc46, wc73, wc91]
  rfl
