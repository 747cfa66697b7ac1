/-! LEVEL 2: cheapest -/
theorem small_of_bits {B : Int32} (h : ∀ j, 8 ≤ j → bt B j = false) : ∃ b, b < 256 ∧ B = iN b := by
  refine ⟨B.toBitVec.toNat, ?_, ?_⟩
  · refine Nat.lt_pow_two_of_testBit (n := 8) _ fun i hi => ?_
    rw [BitVec.testBit_toNat]
    exact h i hi
  · unfold iN
    rw [Int32.ofNat_bitVecToNat]
    rfl
theorem bits_of_small {b : Nat} (h : b < 256) {j : Nat} (hj : 8 ≤ j) : bt (iN b) j = false := by
  by_cases h32 : j < 32
  · have : ∀ b, b < 256 → ∀ i, i < 24 → bt (iN b) (8 + i) = false := by decide +kernel
    have h2 := this b h (j - 8) (by omega)
    rw [show 8 + (j - 8) = j by omega] at h2
    exact h2
  · exact bt_ge (by omega)
theorem barred_eq0 : ∀ b, b < 256 → ∀ k, k < 8 → fX11_isBarred (iN k) (iN b) = some (b2 (bt (cloK (iN b)) k = true)) := by decide +kernel
theorem barred_eq {B : Int32} (h : ∀ j, 8 ≤ j → bt B j = false) {k : Nat} (hk : k < 8) : fX11_isBarred (iN k) B = some (b2 (bt (cloK B) k = true)) := by
  obtain ⟨b, hb, rfl⟩ := small_of_bits h
  exact barred_eq0 b hb k hk
theorem sumO_or {f g h : Nat → Int32} (e : ∀ k, h k = f k ||| g k) : ∀ n, cloK.sumO n h = cloK.sumO n f ||| cloK.sumO n g
  | 0 => by
    show (0 : Int32) = 0 ||| 0
    decide
  | n + 1 => by
    show cloK.sumO n h ||| h n = (cloK.sumO n f ||| f n) ||| (cloK.sumO n g ||| g n)
    rw [sumO_or e n, e n]
    refine bt_ext fun k _ => ?_
    simp only [bt_or]
    cases bt (cloK.sumO n f) k <;> cases bt (cloK.sumO n g) k <;> cases bt (f n) k <;> cases bt (g n) k <;> rfl
theorem cloK_or (a b : Int32) : cloK (a ||| b) = cloK a ||| cloK b := by
  unfold cloK
  refine sumO_or (fun k => ?_) 8
  have e : (a ||| b).toBitVec.getLsbD k = (a.toBitVec.getLsbD k || b.toBitVec.getLsbD k) := bt_or a b k
  rw [e]
  cases a.toBitVec.getLsbD k <;> cases b.toBitVec.getLsbD k <;> simp
theorem cloK_zero : cloK 0 = 0 := by decide
/-- of a set m of forms -/
def prS (N : Nat → Int32) (m : Int32) (n : Nat) : Int32 := sumI (fun f => if bt m f = true then N (4904 + 2 * f) else 0) n
def baS (N : Nat → Int32) (m : Int32) : Nat → Int32
  | 0 => 0
  | f + 1 => baS N m f ||| (if bt m f = true then N (4905 + 2 * f) else 0)
def foC (A : ruA) (N : Nat → Int32) (n : Nat) : Prop := n ≤ 8 ∧ A.1 29 0 = iN n ∧ ∀ f, f < n → A.1 30 f = N (4904 + 2 * f) ∧ A.1 31 f = cloK (N (4905 + 2 * f)) ∧ ∃ b, b < 256 ∧ N (4905 + 2 * f) = iN b
theorem foC_of {A : ruA} {N : Nat → Int32} (hf : CBf A.1 1 N) (q5 : A.1 29 0 = N 5) (e5 : N 5 = iN (cn N 5)) (h8 : cn N 5 ≤ 8) : foC A N (cn N 5) := by
  refine ⟨h8, q5.trans e5, fun f hh => ?_⟩
  obtain ⟨u1, u2, u3, u4⟩ := hf f hh
  obtain ⟨j, j1, j2⟩ := iN_of (m := 255) u3 (by decide) u4
  exact ⟨u1, u2, j, by omega, j2⟩
theorem f10_price {A : ruA} {N : Nat → Int32} {n : Nat} (h : foC A N n) (m : Int32) : fX1_priceOf m A = some (prS N m n) := by
  obtain ⟨hn, e29, hh⟩ := h
  unfold fX1_priceOf prS
  refine loop_sum (fun r f z => fX1_priceOf_l4 m A (fun v4 => some v4) r z (iN f)) n _ (fun v => some v) ?_ ?_ ruF (by rw [ruF_eq]; omega)
  · intro r z
    rw [fX1_priceOf_l4, e29, if_pos ((iN_le (by omega) (by omega)).mpr (Nat.le_refl _))]
  · intro r f z hf
    rw [fX1_priceOf_l4, e29, if_neg (by rw [iN_le (by omega) (by omega)]; omega), e10_has (by omega), Option.bind_some, b2_ne, ruld_iN (by omega) (by decide), Option.bind_some, (hh f hf).1, iN_add1]
    by_cases c1 : bt m f = true
    · rw [if_pos c1, Option.bind_some, if_pos c1]
    · rw [if_neg c1, Option.bind_some, if_neg c1, Int32.add_zero]
theorem f10_barred {A : ruA} {N : Nat → Int32} {n : Nat} (h : foC A N n) (m : Int32) : fX1_barredBy m A = some (cloK (baS N m n)) := by
  obtain ⟨hn, e29, hh⟩ := h
  unfold fX1_barredBy
  have hl := loop_inv (fun r f z => fX1_barredBy_l4 m A (fun v4 => some v4) r z (iN f)) n (fun f => cloK (baS N m f)) (some (cloK (baS N m n))) ?_ ?_ ruF 0 (Nat.zero_le _) (by rw [ruF_eq]; omega)
  · rw [show cloK (baS N m 0) = 0 from cloK_zero] at hl
    exact hl
  · intro r
    rw [fX1_barredBy_l4, e29, if_pos ((iN_le (by omega) (by omega)).mpr (Nat.le_refl _))]
  · intro r f hf
    show fX1_barredBy_l4 m A (fun v4 => some v4) (r + 1) (cloK (baS N m f)) (iN f) = fX1_barredBy_l4 m A (fun v4 => some v4) r (cloK (baS N m f ||| (if bt m f = true then N (4905 + 2 * f) else 0))) (iN (f + 1))
    rw [fX1_barredBy_l4, e29, if_neg (by rw [iN_le (by omega) (by omega)]; omega), e10_has (by omega), Option.bind_some, b2_ne, ruld_iN (by omega) (by decide), Option.bind_some, (hh f hf).2.1, iN_add1, cloK_or]
    by_cases c1 : bt m f = true
    · rw [if_pos c1, Option.bind_some, if_pos c1]
    · rw [if_neg c1, Option.bind_some, if_neg c1, cloK_zero, Int32.or_zero]
theorem baS_small {N : Nat → Int32} (m : Int32) : ∀ n, (∀ f, f < n → ∃ b, b < 256 ∧ N (4905 + 2 * f) = iN b) → ∀ j, 8 ≤ j → bt (baS N m n) j = false
  | 0, _, j, _ => bt_zero j
  | n + 1, h, j, hj => by
    show bt (baS N m n ||| (if bt m n = true then N (4905 + 2 * n) else 0)) j = false
    rw [bt_or, baS_small m n (fun f hf => h f (by omega)) j hj, Bool.false_or]
    split
    · obtain ⟨b, hb, e⟩ := h n (by omega)
      rw [e, bits_of_small hb hj]
    · exact bt_zero j
theorem f11_l57 {β : Type} (A : ruA) {n : Nat} (hn : n ≤ 8) (e5 : A.1 84 5 = iN n) (x1 x2 x3 x4 m : Int32) (K : Int32 → Int32 → Option β) : fX11_cheapest_l57 x1 x2 x3 x4 m A K ruF 0 0 0 = K (baS (A.1 84) m n) (prS (A.1 84) m n) := by
  have l5 : ruld (A.1 84) 4920 5 = some (iN n) := by rw [← e5]; exact l84 A (i := 5) (by decide)
  refine loop_inv (fun r f (z : Int32 × Int32) => fX11_cheapest_l57 x1 x2 x3 x4 m A K r z.1 z.2 (iN f)) n (fun f => (baS (A.1 84) m f, prS (A.1 84) m f)) _ ?_ ?_ ruF 0 (Nat.zero_le _) (by rw [ruF_eq]; omega)
  · intro r
    show fX11_cheapest_l57 x1 x2 x3 x4 m A K (r + 1) (baS (A.1 84) m n) (prS (A.1 84) m n) (iN n) = _
    rw [fX11_cheapest_l57, l5, Option.bind_some, if_pos ((iN_le (by omega) (by omega)).mpr (Nat.le_refl _))]
  · intro r f hf
    have r0 : ruld (A.1 84) 4920 (4904 + 2 * iN f) = some (A.1 84 (4904 + 2 * f)) := by rw [li2, show (4904 : Int32) = iN 4904 from rfl, iN_mul, iN_add, l84 A (by omega)]
    have r1 : ruld (A.1 84) 4920 (4904 + 2 * iN f + 1) = some (A.1 84 (4905 + 2 * f)) := by
      rw [li2, show (4904 : Int32) = iN 4904 from rfl, iN_mul, iN_add, iN_add1, l84 A (by omega), show 4904 + 2 * f + 1 = 4905 + 2 * f by omega]
    show fX11_cheapest_l57 x1 x2 x3 x4 m A K (r + 1) (baS (A.1 84) m f) (prS (A.1 84) m f) (iN f) = fX11_cheapest_l57 x1 x2 x3 x4 m A K r (baS (A.1 84) m f ||| (if bt m f = true then A.1 84 (4905 + 2 * f) else 0)) (prS (A.1 84) m f + (if bt m f = true then A.1 84 (4904 + 2 * f) else 0)) (iN (f + 1))
    rw [fX11_cheapest_l57, l5, Option.bind_some, if_neg (by rw [iN_le (by omega) (by omega)]; omega), e11_has (by omega), Option.bind_some, b2_ne, r0, r1, iN_add1]
    simp only [Option.bind_some, b2_ne, ite_some]
/-- every kind of x is barred -/
def allK (x B : Int32) : Nat → Bool
  | 0 => true
  | k + 1 => allK x B k && (!bt x k || bt (cloK B) k)
theorem allK_iff {x B : Int32} : ∀ n, allK x B n = true ↔ ∀ k, k < n → bt x k = true → bt (cloK B) k = true
  | 0 => ⟨fun _ k hk => by omega, fun _ => rfl⟩
  | n + 1 => by
    show (allK x B n && (!bt x n || bt (cloK B) n)) = true ↔ _
    rw [Bool.and_eq_true, allK_iff n]
    constructor
    · rintro ⟨h1, h2⟩ k hk hx
      by_cases e : k = n
      · subst e
        rw [hx] at h2
        exact h2
      · exact h1 k (by omega) hx
    · intro h
      refine ⟨fun k hk => h k (by omega), ?_⟩
      cases hx : bt x n
      · rfl
      · rw [h n (by omega) hx]
        rfl
theorem f11_l146 {β : Type} {B : Int32} (hB : ∀ j, 8 ≤ j → bt B j = false) (x1 x2 x3 x4 x5 x7 : Int32) (K : Int32 → Option β) : fX11_cheapest_l146 x1 x2 x3 x4 x5 B x7 K ruF 1 0 = K (b2 (allK x1 B 8 = true)) := by
  refine loop_inv (fun r k z => fX11_cheapest_l146 x1 x2 x3 x4 x5 B x7 K r z (iN k)) 8 (fun k => b2 (allK x1 B k = true)) _ ?_ ?_ ruF 0 (by decide) (by decide)
  · intro r
    show fX11_cheapest_l146 x1 x2 x3 x4 x5 B x7 K (r + 1) (b2 (allK x1 B 8 = true)) (iN 8) = _
    rw [fX11_cheapest_l146, if_pos (by decide)]
  · intro r k hk
    show fX11_cheapest_l146 x1 x2 x3 x4 x5 B x7 K (r + 1) (b2 (allK x1 B k = true)) (iN k) = fX11_cheapest_l146 x1 x2 x3 x4 x5 B x7 K r (b2 ((allK x1 B k && (!bt x1 k || bt (cloK B) k)) = true)) (iN (k + 1))
    rw [fX11_cheapest_l146, show (7 : Int32) = iN 7 from rfl, if_neg (by rw [iN_lt (by omega) (by omega)]; omega), b2_ne, e11_has (by omega), Option.bind_some, b2_ne, barred_eq hB hk, Option.bind_some, b2_ne, iN_add1]
    cases allK x1 B k <;> cases bt x1 k <;> cases bt (cloK B) k <;> rfl
theorem allK_and {x B : Int32} (hx : ∀ j, 8 ≤ j → bt x j = false) : x &&& (cloK B ^^^ -1) = 0 ↔ allK x B 8 = true := by
  rw [allK_iff]
  constructor
  · intro h k hk h1
    have h2 := congrArg (fun z => bt z k) h
    simp only [bt_and, bt_xor, bt_m1 (show k < 32 by omega), h1, bt_zero, Bool.true_and] at h2
    cases h3 : bt (cloK B) k
    · rw [h3] at h2
      cases h2
    · rfl
  · intro h
    refine bt_ext fun k hk => ?_
    rw [bt_and, bt_xor, bt_m1 hk, bt_zero]
    by_cases h8 : k < 8
    · cases h1 : bt x k
      · rfl
      · rw [h k h8 h1]
        rfl
    · rw [hx k (by omega), Bool.false_and]
theorem pop_eq : ∀ m, m < 256 → fJ6_bitCount_0f7a4 (iN m) = fX11_bits (iN m) ∧ (fX11_bits (iN m)).isSome = true := by decide +kernel
def popS (m : Nat) : Int32 := (fX11_bits (iN m)).getD 0
theorem pop10 {m : Nat} (h : m < 256) : fJ6_bitCount_0f7a4 (iN m) = some (popS m) := by
  rw [(pop_eq m h).1]
  have h2 := (pop_eq m h).2
  unfold popS
  cases hh : fX11_bits (iN m)
  · rw [hh] at h2
    cases h2
  · rfl
theorem pop11 {m : Nat} (h : m < 256) : fX11_bits (iN m) = some (popS m) := by
  rw [← (pop_eq m h).1]
  exact pop10 h
/-- the best of the sets below m -/
def okS (N : Nat → Int32) (x : Int32) (n m : Nat) : Prop := allK x (baS N (iN m) n) 8 = true
def stB (N : Nat → Int32) (x : Int32) (n m : Nat) (s : Option Nat) : Option Nat :=
  if allK x (baS N (iN m) n) 8 = true then (match s with
      | none => some m
      | some b => if prS N (iN m) n < prS N (iN b) n then some m else if prS N (iN m) n = prS N (iN b) n then (if popS b ≤ popS m then some b else some m) else some b) else s
def btS (N : Nat → Int32) (x : Int32) (n : Nat) : Nat → Option Nat
  | 0 => none
  | m + 1 => stB N x n m (btS N x n m)
def toI : Option Nat → Int32
  | none => -1
  | some b => iN b
def toP (N : Nat → Int32) (n : Nat) : Option Nat → Int32
  | none => 0
  | some b => prS N (iN b) n
theorem stB_or {N : Nat → Int32} {x : Int32} {n m : Nat} {s : Option Nat} : stB N x n m s = s ∨ stB N x n m s = some m := by
  unfold stB
  split
  · cases s with
    | none => exact Or.inr rfl
    | some b =>
      show (if prS N (iN m) n < prS N (iN b) n then some m else if prS N (iN m) n = prS N (iN b) n then (if popS b ≤ popS m then some b else some m) else some b) = some b ∨ (if prS N (iN m) n < prS N (iN b) n then some m else if prS N (iN m) n = prS N (iN b) n then (if popS b ≤ popS m then some b else some m) else some b) = some m
      repeat' split
      all_goals first | exact Or.inl rfl | exact Or.inr rfl
  · exact Or.inl rfl
theorem btS_lt {N : Nat → Int32} {x : Int32} {n : Nat} : ∀ m b, btS N x n m = some b → b < m
  | 0, b, h => by cases h
  | m + 1, b, h => by
    have ih := btS_lt (N := N) (x := x) (n := n) m
    have h : stB N x n m (btS N x n m) = some b := h
    rcases stB_or (N := N) (x := x) (n := n) (m := m) (s := btS N x n m) with e | e
    · rw [e] at h
      have := ih b h
      omega
    · rw [e] at h
      cases h
      omega
theorem pow_sh : ∀ n, n ≤ 8 → (1 : Int32) <<< (iN n &&& 31) = iN (2 ^ n) := by
  intro n hn
  have : ∀ n, n < 9 → (1 : Int32) <<< (iN n &&& 31) = iN (2 ^ n) := by decide
  exact this n (by omega)
theorem pow_le {n : Nat} (hn : n ≤ 8) : 2 ^ n ≤ 256 := Nat.pow_le_pow_right (by decide) hn (n := 2)
theorem f10_better {A : ruA} {N : Nat → Int32} {n : Nat} (h : foC A N n) {m b : Nat} (hm : m < 256) (hb : b < 256) : fX1_isBetter (iN m) (iN b) A = some (if prS N (iN m) n < prS N (iN b) n then 1 else if prS N (iN m) n = prS N (iN b) n then (if popS b ≤ popS m then 0 else 1) else 0) := by
  unfold fX1_isBetter
  rw [f10_price h, f10_price h, Option.bind_some, Option.bind_some, pop10 hm, pop10 hb, Option.bind_some, Option.bind_some]
  repeat' split
  all_goals rfl
theorem f10_cheapestSet {A : ruA} {N : Nat → Int32} {n : Nat} (h : foC A N n) {x : Int32} (hx : ∀ j, 8 ≤ j → bt x j = false) : fX1_cheapestSet x A = some (toI (btS N x n (2 ^ n))) := by
  have hp := pow_le h.1
  have e29 : (1 : Int32) <<< (A.1 29 0 &&& 31) = iN (2 ^ n) := by rw [h.2.1, pow_sh n h.1]
  unfold fX1_cheapestSet
  refine loop_inv (fun r m z => fX1_cheapestSet_l4 x A (fun v4 => some v4) r z (iN m)) (2 ^ n) (fun m => toI (btS N x n m)) _ ?_ ?_ ruF 0 (Nat.zero_le _) (by rw [ruF_eq]; omega)
  · intro r
    rw [fX1_cheapestSet_l4, e29, if_pos ((iN_le (by omega) (by omega)).mpr (Nat.le_refl _))]
  · intro r m hm
    show fX1_cheapestSet_l4 x A (fun v4 => some v4) (r + 1) (toI (btS N x n m)) (iN m) = fX1_cheapestSet_l4 x A (fun v4 => some v4) r (toI (btS N x n (m + 1))) (iN (m + 1))
    rw [fX1_cheapestSet_l4, e29, if_neg (by rw [iN_le (by omega) (by omega)]; omega), f10_barred h, Option.bind_some, iN_add1]
    have hlt := btS_lt (N := N) (x := x) (n := n) m
    rw [show btS N x n (m + 1) = stB N x n m (btS N x n m) from rfl]
    unfold stB
    by_cases c1 : allK x (baS N (iN m) n) 8 = true
    · rw [if_pos ((allK_and hx).mpr c1), if_pos c1]
      cases hb : btS N x n m with
      | none =>
        rw [if_pos (show toI none < 0 by decide), Option.bind_some]
        rfl
      | some b =>
        have hb2 := hlt b hb
        rw [if_neg (show ¬ toI (some b) < 0 from iN_lt_zero (by omega)), show toI (some b) = iN b from rfl, f10_better h (by omega) (by omega), Option.bind_some]
        show _ = fX1_cheapestSet_l4 x A (fun v4 => some v4) r (toI (if prS N (iN m) n < prS N (iN b) n then some m else if prS N (iN m) n = prS N (iN b) n then (if popS b ≤ popS m then some b else some m) else some b)) (iN (m + 1))
        repeat' split
        all_goals first | rfl | contradiction
    · rw [if_neg (fun h => c1 ((allK_and hx).mp h)), if_neg c1, Option.bind_some]
theorem f11_cheapest_l {β : Type} (A : ruA) {n : Nat} (hn : n ≤ 8) (e5 : A.1 84 5 = iN n) (hs : ∀ f, f < n → ∃ b, b < 256 ∧ A.1 84 (4905 + 2 * f) = iN b) (x x2 : Int32) (K : Int32 → Int32 → Option β) : fX11_cheapest_l35 x x2 A K ruF (-1) 0 0 = K (toI (btS (A.1 84) x n (2 ^ n))) (toP (A.1 84) n (btS (A.1 84) x n (2 ^ n))) := by
  have hp := pow_le hn
  have l5 : ruld (A.1 84) 4920 5 = some (iN n) := by rw [← e5]; exact l84 A (i := 5) (by decide)
  refine loop_inv (fun r m (z : Option Nat) => fX11_cheapest_l35 x x2 A K r (toI z) (toP (A.1 84) n z) (iN m)) (2 ^ n) (fun m => btS (A.1 84) x n m) _ ?_ ?_ ruF 0 (Nat.zero_le _) (by rw [ruF_eq]; omega)
  · intro r
    rw [fX11_cheapest_l35, l5, Option.bind_some, pow_sh n hn, if_pos ((iN_le (by omega) (by omega)).mpr (Nat.le_refl _))]
  · intro r m hm
    show fX11_cheapest_l35 x x2 A K (r + 1) (toI (btS (A.1 84) x n m)) (toP (A.1 84) n (btS (A.1 84) x n m)) (iN m) = fX11_cheapest_l35 x x2 A K r (toI (btS (A.1 84) x n (m + 1))) (toP (A.1 84) n (btS (A.1 84) x n (m + 1))) (iN (m + 1))
    rw [fX11_cheapest_l35, l5, Option.bind_some, pow_sh n hn, if_neg (by rw [iN_le (by omega) (by omega)]; omega), f11_l57 A hn e5, f11_l146 (baS_small _ n hs), b2_ne, iN_add1]
    have hlt := btS_lt (N := A.1 84) (x := x) (n := n) m
    rw [show btS (A.1 84) x n (m + 1) = stB (A.1 84) x n m (btS (A.1 84) x n m) from rfl]
    unfold stB
    by_cases c1 : allK x (baS (A.1 84) (iN m) n) 8 = true
    · rw [if_pos c1, if_pos c1]
      cases hb : btS (A.1 84) x n m with
      | none =>
        rw [if_pos (show toI none < 0 by decide), ruB2_some]
        rfl
      | some b =>
        have hb2 := hlt b hb
        rw [if_neg (show ¬ toI (some b) < 0 from iN_lt_zero (by omega)), show toI (some b) = iN b from rfl, show toP (A.1 84) n (some b) = prS (A.1 84) (iN b) n from rfl, pop11 (show m < 256 by omega), pop11 (show b < 256 by omega), Option.bind_some, Option.bind_some]
        show _ = fX11_cheapest_l35 x x2 A K r (toI (if prS (A.1 84) (iN m) n < prS (A.1 84) (iN b) n then some m else if prS (A.1 84) (iN m) n = prS (A.1 84) (iN b) n then (if popS b ≤ popS m then some b else some m) else some b)) (toP (A.1 84) n (if prS (A.1 84) (iN m) n < prS (A.1 84) (iN b) n then some m else if prS (A.1 84) (iN m) n = prS (A.1 84) (iN b) n then (if popS b ≤ popS m then some b else some m) else some b)) (iN (m + 1))
        by_cases d1 : prS (A.1 84) (iN m) n < prS (A.1 84) (iN b) n
        · rw [if_pos d1, if_pos d1, ruB2_some]
          rfl
        · rw [if_neg d1, if_neg d1]
          by_cases d2 : prS (A.1 84) (iN m) n = prS (A.1 84) (iN b) n
          · rw [if_pos d2, if_pos d2]
            by_cases d3 : popS b ≤ popS m
            · rw [if_pos d3, if_pos d3, ruB2_some]
              rfl
            · rw [if_neg d3, if_neg d3, ruB2_some]
              rfl
          · rw [if_neg d2, if_neg d2, ruB2_some]
            rfl
    · rw [if_neg c1, if_neg c1, ruB2_some]
theorem op_cheapest {W : ruWy} {A : ruA} (hI : Inv W A) (x1 x2 : Int32) : Op2 W (fX10_cheapest x1 x2) (fX11_cheapest x1 x2) A := by
  obtain ⟨⟨hn, hq, hc, hs, hb, hr, hh, hf, hw⟩, hK, hMf, hMt, hMs⟩ := id hI
  obtain ⟨m0, m1, m2, m3, m4, m5⟩ := id hn
  have q0 : A.1 2 0 = A.1 84 0 := m0.1
  have q1 : A.1 2 1 = A.1 84 1 := m1.1
  have q2 : A.1 2 2 = A.1 84 2 := m2.1
  have q3 : A.1 14 0 = A.1 84 3 := m3.1
  have q4 : A.1 23 0 = A.1 84 4 := m4.1
  have q5 : A.1 29 0 = A.1 84 5 := m5.1
  by_cases h1 : 0 ≤ x1 ∧ x1 ≤ 255
  · by_cases h2 : 0 ≤ x2 ∧ x2 ≤ 1
    · obtain ⟨-, e5, h8⟩ := m5
      have fo := foC_of hf q5 e5 h8
      generalize cn (A.1 84) 5 = n at *
      obtain ⟨b, hb, eb⟩ := iN_of (m := 255) h1.1 (by decide) h1.2
      have hx : ∀ j, 8 ≤ j → bt x1 j = false := fun j hj => by rw [eb]; exact bits_of_small (by omega) hj
      have hc10 := f10_cheapestSet fo hx
      have hc11 : ∀ (B : ruA) (K : Int32 → Int32 → Option (Int32 × ruA)), B.1 84 = A.1 84 → fX11_cheapest_l35 x1 x2 B K ruF (-1) 0 0 = K (toI (btS (A.1 84) x1 n (2 ^ n))) (toP (A.1 84) n (btS (A.1 84) x1 n (2 ^ n))) := by
        intro B K hB
        have h := f11_cheapest_l B h8 (by rw [hB]; exact e5) (by rw [hB]; exact fun f hf => (fo.2.2 f hf).2.2) x1 x2 K
        rw [hB] at h
        exact h
      have hp := pow_le h8
      have hlt := btS_lt (N := A.1 84) (x := x1) (n := n) (2 ^ n)
      cases hb9 : btS (A.1 84) x1 n (2 ^ n) with
      | none =>
        rw [hb9] at hc10 hc11
        have hn0 : ¬ 0 ≤ toI none := by decide
        refine Op_find hI (-1000004) 3 (by decide) (by decide) ?_ ?_
        · simp only [fX10_cheapest, e10_isWithin, e10_isQuestion, e10_isYear, e10_isKind, e10_isSlip, e10_isRoom, e10_isChild, e10_isWay, e10_areHours, q1, q2, q3, Option.bind_some, b2_pos h1, b2_pos h2, ite10, hc10, if_neg hn0]
        · simp only [fX11_cheapest, e11_within, Option.bind_some, b2_pos h1, b2_pos h2, ite10, hc11 (fndC A 3) _ rfl, if_neg hn0]
      | some m =>
        rw [hb9] at hc10 hc11
        have hm := hlt m hb9
        have hn0 : 0 ≤ toI (some m) := iN_nonneg (by omega)
        have hpr : fX1_priceOf (toI (some m)) A = some (toP (A.1 84) n (some m)) := f10_price fo (iN m)
        refine ⟨if x2 = 0 then toP (A.1 84) n (some m) else toI (some m), A, A, ?_, ?_, hI⟩
        · simp only [fX10_cheapest, e10_isWithin, e10_isQuestion, e10_isYear, e10_isKind, e10_isSlip, e10_isRoom, e10_isChild, e10_isWay, e10_areHours, q1, q2, q3, Option.bind_some, b2_pos h1, b2_pos h2, ite10, hc10, if_pos hn0, hpr]
          split <;> rfl
        · simp only [fX11_cheapest, e11_within, Option.bind_some, b2_pos h1, b2_pos h2, ite10, hc11 A _ rfl, if_pos hn0]
          split <;> rfl
    · refine Op_find hI (-1000001) 0 (by decide) (by decide) ?_ ?_
      · simp only [fX10_cheapest, e10_isWithin, e10_isQuestion, e10_isYear, e10_isKind, e10_isSlip, e10_isRoom, e10_isChild, e10_isWay, e10_areHours, q1, q2, q3, Option.bind_some, b2_pos h1, b2_neg h2, ite00, ite10, if_true, if_false]
      · simp only [fX11_cheapest, e11_within, e11_isQuestion, e11_isYear, e11_isSlip, e11_is1f, e11_is2f, e11_is3f, e11_areHours, fndC_84, fndC_83, fndC_88, fndC_89, fndC_90, Option.bind_some, b2_pos h1, b2_neg h2, ite00, ite10, if_true, if_false]
  · refine Op_find hI (-1000001) 0 (by decide) (by decide) ?_ ?_
    · simp only [fX10_cheapest, e10_isWithin, e10_isQuestion, e10_isYear, e10_isKind, e10_isSlip, e10_isRoom, e10_isChild, e10_isWay, e10_areHours, q1, q2, q3, Option.bind_some, b2_neg h1, ite00, ite10, if_true, if_false]
    · simp only [fX11_cheapest, e11_within, e11_isQuestion, e11_isYear, e11_isSlip, e11_is1f, e11_is2f, e11_is3f, e11_areHours, fndC_84, fndC_83, fndC_88, fndC_89, fndC_90, Option.bind_some, b2_neg h1, ite00, ite10, if_true, if_false]
