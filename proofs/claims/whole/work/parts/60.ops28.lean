/-! LEVEL 2: the reference: blanks and likes -/
/-- the choice of child c in year y -/
def chA (N : Nat → Int32) (y c q : Nat) : Int32 := N (129 + 28 * (6 * c + y) + q)
def alB (N : Nat → Int32) (y c d p : Nat) : Nat → Bool
  | 0 => true
  | l + 1 => alB N y c d p l && decide (chA N y d (p + l) = chA N y c (p + l))
theorem alB_iff {N : Nat → Int32} {y c d p : Nat} : ∀ l, alB N y c d p l = true ↔ ∀ r, p ≤ r → r < p + l → chA N y d r = chA N y c r
  | 0 => ⟨fun _ r h1 h2 => by omega, fun _ => rfl⟩
  | l + 1 => by
    show (alB N y c d p l && decide (chA N y d (p + l) = chA N y c (p + l))) = true ↔ _
    rw [Bool.and_eq_true, alB_iff l, decide_eq_true_eq]
    constructor
    · rintro ⟨h1, h2⟩ r h3 h4
      by_cases e : r = p + l
      · rw [e]
        exact h2
      · exact h1 r h3 (by omega)
    · exact fun h => ⟨fun r h3 h4 => h r h3 (by omega), h _ (by omega) (by omega)⟩
def fuB (N : Nat → Int32) (y c p : Nat) : Nat → Bool
  | 0 => true
  | l + 1 => fuB N y c p l && decide (¬ chA N y c (p + l) = -1)
theorem fuB_iff {N : Nat → Int32} {y c p : Nat} : ∀ l, fuB N y c p l = true ↔ ∀ r, p ≤ r → r < p + l → ¬ chA N y c r = -1
  | 0 => ⟨fun _ r h1 h2 => by omega, fun _ => rfl⟩
  | l + 1 => by
    show (fuB N y c p l && decide (¬ chA N y c (p + l) = -1)) = true ↔ _
    rw [Bool.and_eq_true, fuB_iff l, decide_eq_true_eq]
    constructor
    · rintro ⟨h1, h2⟩ r h3 h4
      by_cases e : r = p + l
      · rw [e]
        exact h2
      · exact h1 r h3 (by omega)
    · exact fun h => ⟨fun r h3 h4 => h r h3 (by omega), h _ (by omega) (by omega)⟩
theorem f11_hasBlank (A : ruA) {c y p l : Nat} (hc : c < 24) (hy : y < 6) (hp : p + l ≤ 12) : fX11_hasBlank (iN c) (iN y) (iN p) (iN l) A = some (b2 (¬ fuB (A.1 84) y c p l = true)) := by
  unfold fX11_hasBlank
  refine loop_inv (fun n q z => fX11_hasBlank_l6 (iN c) (iN y) (iN p) (iN l) A (fun v3 => (rubz v3).bind fun _ => some v3) n z (iN (p + q))) l (fun q => b2 (¬ fuB (A.1 84) y c p q = true)) _ ?_ ?_ ruF 0 (Nat.zero_le _) (by rw [ruF_eq]; omega)
  · intro n
    rw [fX11_hasBlank_l6, iN_add, if_pos ((iN_le (by omega) (by omega)).mpr (Nat.le_refl _)), rubz_b2, Option.bind_some]
  · intro n q hq
    show fX11_hasBlank_l6 (iN c) (iN y) (iN p) (iN l) A (fun v3 => (rubz v3).bind fun _ => some v3) (n + 1) (b2 (¬ fuB (A.1 84) y c p q = true)) (iN (p + q)) = fX11_hasBlank_l6 (iN c) (iN y) (iN p) (iN l) A (fun v3 => (rubz v3).bind fun _ => some v3) n (b2 (¬ (fuB (A.1 84) y c p q && decide (¬ chA (A.1 84) y c (p + q) = -1)) = true)) (iN (p + q + 1))
    rw [fX11_hasBlank_l6, iN_add, if_neg (by rw [iN_le (by omega) (by omega)]; omega), f11_choice A hc hy (by omega), Option.bind_some, iN_add1, b2_ne]
    have e9 : A.1 84 (129 + 28 * (6 * c + y) + (p + q)) = chA (A.1 84) y c (p + q) := rfl
    rw [e9]
    by_cases c1 : fuB (A.1 84) y c p q = true
    · rw [if_neg (fun h => h c1), c1, Bool.true_and]
      by_cases c2 : chA (A.1 84) y c (p + q) = -1
      · rw [if_pos c2, Option.bind_some, b2_pos (by rw [decide_eq_true_eq]; exact fun h => h c2)]
      · rw [if_neg c2, Option.bind_some, b2_neg (by rw [decide_eq_true_eq]; exact fun h => h c2)]
    · rw [if_pos c1, Option.bind_some, b2_pos (by rw [Bool.and_eq_true]; exact fun h => c1 h.1)]
theorem f11_like_in {β : Type} (A : ruA) {c d y p l : Nat} (hc : c < 24) (hd : d < 24) (hy : y < 6) (hp : p + l ≤ 12) (z : Int32) (P : Prop) [Decidable P] (K : Int32 → Option β) : fX11_likes_l35 (iN c) (iN y) (iN p) (iN l) z (iN d) A K ruF (b2 P) (iN p) = K (b2 (P ∧ alB (A.1 84) y c d p l = true)) := by
  refine loop_gen (fun n q (u : Int32) => fX11_likes_l35 (iN c) (iN y) (iN p) (iN l) z (iN d) A K n u (iN (p + q))) l (fun q u => u = b2 (P ∧ alB (A.1 84) y c d p q = true)) (fun r => r = K (b2 (P ∧ alB (A.1 84) y c d p l = true))) ?_ ?_ ruF 0 (b2 P) (Nat.zero_le _) (by rw [ruF_eq]; omega) ?_
  · intro n u hu
    rw [fX11_likes_l35, iN_add, if_pos ((iN_le (by omega) (by omega)).mpr (Nat.le_refl _)), hu]
  · intro n q u hq hu
    have hstep : fX11_likes_l35 (iN c) (iN y) (iN p) (iN l) z (iN d) A K (n + 1) u (iN (p + q)) = if P ∧ alB (A.1 84) y c d p q = true then (if chA (A.1 84) y d (p + q) = chA (A.1 84) y c (p + q) then fX11_likes_l35 (iN c) (iN y) (iN p) (iN l) z (iN d) A K n 1 (iN (p + (q + 1))) else fX11_likes_l35 (iN c) (iN y) (iN p) (iN l) z (iN d) A K n 0 (iN (p + (q + 1)))) else K 0 := by
      rw [fX11_likes_l35, iN_add, if_neg (by rw [iN_le (by omega) (by omega)]; omega), f11_choice A hd hy (by omega), f11_choice A hc hy (by omega), Option.bind_some, Option.bind_some, iN_add1, hu, b2_ne]
      have e9 : A.1 84 (129 + 28 * (6 * c + y) + (p + q)) = chA (A.1 84) y c (p + q) := rfl
      have e8 : A.1 84 (129 + 28 * (6 * d + y) + (p + q)) = chA (A.1 84) y d (p + q) := rfl
      rw [e9, e8]
      by_cases c1 : P ∧ alB (A.1 84) y c d p q = true
      · rw [if_pos c1, if_pos c1]
        by_cases c2 : chA (A.1 84) y d (p + q) = chA (A.1 84) y c (p + q)
        · rw [if_pos c2, if_pos c2, Option.bind_some]
          rfl
        · rw [if_neg c2, if_neg c2, Option.bind_some]
          rfl
      · rw [if_neg c1, if_neg c1, b2_neg c1]
    by_cases c1 : P ∧ alB (A.1 84) y c d p q = true
    · right
      by_cases c2 : chA (A.1 84) y d (p + q) = chA (A.1 84) y c (p + q)
      · refine ⟨1, ?_, ?_⟩
        · rw [hstep, if_pos c1, if_pos c2]
        · rw [b2_pos]
          refine ⟨c1.1, ?_⟩
          show (alB (A.1 84) y c d p q && decide (chA (A.1 84) y d (p + q) = chA (A.1 84) y c (p + q))) = true
          rw [c1.2, decide_eq_true c2]
          rfl
      · refine ⟨0, ?_, ?_⟩
        · rw [hstep, if_pos c1, if_neg c2]
        · rw [b2_neg]
          rintro ⟨-, h2⟩
          have h2 : (alB (A.1 84) y c d p q && decide (chA (A.1 84) y d (p + q) = chA (A.1 84) y c (p + q))) = true := h2
          rw [Bool.and_eq_true, decide_eq_true_eq] at h2
          exact c2 h2.2
    · left
      rw [hstep, if_neg c1, b2_neg]
      rintro ⟨h1, h2⟩
      refine c1 ⟨h1, ?_⟩
      rw [alB_iff] at h2 ⊢
      exact fun r h3 h4 => h2 r h3 (by omega)
  · by_cases hP : P
    · rw [b2_pos hP, b2_pos ⟨hP, rfl⟩]
    · rw [b2_neg hP, b2_neg (fun h => hP h.1)]
/-- those who are like c on the stretch -/
def lkS (N : Nat → Int32) (x : Int32) (y c p l : Nat) : Nat → Int32
  | 0 => 0
  | d + 1 => lkS N x y c p l d ||| (if inR N x y d ∧ alB N y c d p l = true then (1 : Int32) <<< (iN d &&& 31) else 0)
theorem f11_likes (A : ruA) {m : Nat} (hm : m ≤ 24) (e2 : A.1 84 2 = iN m) {c y p l : Nat} (hc : c < 24) (hy : y < 6) (hp : p + l ≤ 12) : fX11_likes (iN c) (iN y) (iN p) (iN l) A = some (lkS (A.1 84) (A.1 84 (32 + 4 * c)) y c p l m) := by
  unfold fX11_likes
  have f0 : fX11_childOf (iN c) 0 A = some (A.1 84 (32 + 4 * c)) := f11_childOf A (j := 0) hc (by decide)
  refine loop_inv (fun n d z => fX11_likes_l6 (iN c) (iN y) (iN p) (iN l) A (fun v9 => some v9) n z (iN d)) m (fun d => lkS (A.1 84) (A.1 84 (32 + 4 * c)) y c p l d) _ ?_ ?_ ruF 0 (Nat.zero_le _) (by rw [ruF_eq]; omega)
  · intro n
    rw [fX11_likes_l6, l2A, Option.bind_some, e2, if_pos ((iN_le (by omega) (by omega)).mpr (Nat.le_refl _))]
  · intro n d hd
    show fX11_likes_l6 (iN c) (iN y) (iN p) (iN l) A (fun v9 => some v9) (n + 1) (lkS (A.1 84) (A.1 84 (32 + 4 * c)) y c p l d) (iN d) = fX11_likes_l6 (iN c) (iN y) (iN p) (iN l) A (fun v9 => some v9) n (lkS (A.1 84) (A.1 84 (32 + 4 * c)) y c p l d ||| (if inR (A.1 84) (A.1 84 (32 + 4 * c)) y d ∧ alB (A.1 84) y c d p l = true then (1 : Int32) <<< (iN d &&& 31) else 0)) (iN (d + 1))
    rw [fX11_likes_l6, l2A, Option.bind_some, e2, if_neg (by rw [iN_le (by omega) (by omega)]; omega), f0, Option.bind_some, f11_isOf A (by omega) hy, Option.bind_some, f11_like_in A hc (by omega) hy hp, b2_ne, iN_add1]
    by_cases c1 : inR (A.1 84) (A.1 84 (32 + 4 * c)) y d ∧ alB (A.1 84) y c d p l = true
    · rw [if_pos c1, Option.bind_some, if_pos c1]
    · rw [if_neg c1, Option.bind_some, if_neg c1]
theorem bt_lkS {N : Nat → Int32} {x : Int32} {y c p l k : Nat} : ∀ m, m ≤ 24 → bt (lkS N x y c p l m) k = decide (k < m ∧ inR N x y k ∧ alB N y c k p l = true)
  | 0, _ => by
    rw [decide_eq_false (by omega)]
    exact bt_zero k
  | m + 1, h => by
    show bt (lkS N x y c p l m ||| (if inR N x y m ∧ alB N y c m p l = true then (1 : Int32) <<< (iN m &&& 31) else 0)) k = _
    rw [bt_or, bt_lkS m (by omega)]
    by_cases e : k = m
    · subst e
      by_cases c1 : inR N x y k ∧ alB N y c k p l = true
      · rw [if_pos c1, bt_bit (by omega), decide_eq_true rfl, Bool.or_true, decide_eq_true ⟨by omega, c1⟩]
      · rw [if_neg c1, bt_zero, Bool.or_false, decide_eq_false (fun h => c1 h.2), decide_eq_false (fun h => c1 h.2)]
    · have e2 : bt (if inR N x y m ∧ alB N y c m p l = true then (1 : Int32) <<< (iN m &&& 31) else 0) k = false := by
        split
        · rw [bt_bit (by omega), decide_eq_false e]
        · exact bt_zero k
      rw [e2, Bool.or_false]
      congr 1
      apply propext
      constructor
      · exact fun h => ⟨by omega, h.2⟩
      · exact fun h => ⟨by omega, h.2⟩
