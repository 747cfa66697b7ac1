/-! LEVEL 2: numbers, arrays and loops of the functions -/
def iN (n : Nat) : Int32 := Int32.ofNat n
theorem iN_eq (n : Nat) : Int32.ofNat n = iN n := rfl
theorem iN_zero : iN 0 = 0 := rfl
theorem iN_add (a b : Nat) : iN a + iN b = iN (a + b) := (Int32.ofNat_add a b).symm
theorem iN_mul (a b : Nat) : iN a * iN b = iN (a * b) := (Int32.ofNat_mul a b).symm
theorem iN_sub {a b : Nat} (h : b ≤ a) : iN a - iN b = iN (a - b) := (Int32.ofNat_sub a b h).symm
theorem iN_toInt {n : Nat} (h : n < 2147483648) : (iN n).toInt = n := Int32.toInt_ofNat_of_lt h
theorem iN_toNat {n : Nat} (h : n < 2147483648) : (iN n).toNatClampNeg = n := Int32.toNatClampNeg_ofNat_of_lt h
theorem iN_lt {a b : Nat} (ha : a < 2147483648) (hb : b < 2147483648) : iN a < iN b ↔ a < b := by
  rw [Int32.lt_iff_toInt_lt, iN_toInt ha, iN_toInt hb]; omega
theorem iN_le {a b : Nat} (ha : a < 2147483648) (hb : b < 2147483648) : iN a ≤ iN b ↔ a ≤ b := by
  rw [Int32.le_iff_toInt_le, iN_toInt ha, iN_toInt hb]; omega
theorem iN_inj {a b : Nat} (ha : a < 2147483648) (hb : b < 2147483648) : iN a = iN b ↔ a = b := by
  rw [← Int32.toInt_inj, iN_toInt ha, iN_toInt hb]; omega
theorem iN_lt_zero {a : Nat} (ha : a < 2147483648) : ¬ iN a < 0 := by
  rw [Int32.lt_iff_toInt_lt, iN_toInt ha]; show ¬ ((a : Int) < 0); omega
theorem iN_nonneg {a : Nat} (ha : a < 2147483648) : 0 ≤ iN a := by
  rw [Int32.le_iff_toInt_le, iN_toInt ha]; show (0 : Int) ≤ a; omega
theorem iN_add1 (a : Nat) : iN a + 1 = iN (a + 1) := iN_add a 1
theorem iN_sub1 {a : Nat} (h : 1 ≤ a) : iN a - 1 = iN (a - 1) := iN_sub h
theorem li2 : (2 : Int32) = iN 2 := rfl
theorem li3 : (3 : Int32) = iN 3 := rfl
theorem li4 : (4 : Int32) = iN 4 := rfl
theorem li5 : (5 : Int32) = iN 5 := rfl
theorem li6 : (6 : Int32) = iN 6 := rfl
theorem li7 : (7 : Int32) = iN 7 := rfl
theorem li8 : (8 : Int32) = iN 8 := rfl
theorem li9 : (9 : Int32) = iN 9 := rfl
theorem li10 : (10 : Int32) = iN 10 := rfl
theorem li11 : (11 : Int32) = iN 11 := rfl
theorem li12 : (12 : Int32) = iN 12 := rfl
theorem li13 : (13 : Int32) = iN 13 := rfl
theorem li16 : (16 : Int32) = iN 16 := rfl
theorem li19 : (19 : Int32) = iN 19 := rfl
theorem li20 : (20 : Int32) = iN 20 := rfl
theorem li24 : (24 : Int32) = iN 24 := rfl
theorem li25 : (25 : Int32) = iN 25 := rfl
theorem li28 : (28 : Int32) = iN 28 := rfl
theorem li30 : (30 : Int32) = iN 30 := rfl
theorem li32 : (32 : Int32) = iN 32 := rfl
theorem li33 : (33 : Int32) = iN 33 := rfl
theorem li38 : (38 : Int32) = iN 38 := rfl
theorem li40 : (40 : Int32) = iN 40 := rfl
theorem li41 : (41 : Int32) = iN 41 := rfl
theorem li43 : (43 : Int32) = iN 43 := rfl
theorem li45 : (45 : Int32) = iN 45 := rfl
theorem li48 : (48 : Int32) = iN 48 := rfl
theorem li57 : (57 : Int32) = iN 57 := rfl
theorem li60 : (60 : Int32) = iN 60 := rfl
theorem li61 : (61 : Int32) = iN 61 := rfl
theorem li62 : (62 : Int32) = iN 62 := rfl
theorem li63 : (63 : Int32) = iN 63 := rfl
theorem li97 : (97 : Int32) = iN 97 := rfl
theorem li99 : (99 : Int32) = iN 99 := rfl
theorem li100 : (100 : Int32) = iN 100 := rfl
theorem li104 : (104 : Int32) = iN 104 := rfl
theorem li122 : (122 : Int32) = iN 122 := rfl
theorem li124 : (124 : Int32) = iN 124 := rfl
theorem li128 : (128 : Int32) = iN 128 := rfl
theorem li144 : (144 : Int32) = iN 144 := rfl
theorem li255 : (255 : Int32) = iN 255 := rfl
theorem li256 : (256 : Int32) = iN 256 := rfl
theorem li257 : (257 : Int32) = iN 257 := rfl
theorem li258 : (258 : Int32) = iN 258 := rfl
theorem li432 : (432 : Int32) = iN 432 := rfl
theorem li1728 : (1728 : Int32) = iN 1728 := rfl
theorem li4160 : (4160 : Int32) = iN 4160 := rfl
theorem li4784 : (4784 : Int32) = iN 4784 := rfl
theorem li4904 : (4904 : Int32) = iN 4904 := rfl
theorem li4920 : (4920 : Int32) = iN 4920 := rfl
theorem li9998 : (9998 : Int32) = iN 9998 := rfl
theorem li10000 : (10000 : Int32) = iN 10000 := rfl
theorem li10100 : (10100 : Int32) = iN 10100 := rfl
theorem li10101 : (10101 : Int32) = iN 10101 := rfl
theorem li10102 : (10102 : Int32) = iN 10102 := rfl
theorem li10103 : (10103 : Int32) = iN 10103 := rfl
theorem li10104 : (10104 : Int32) = iN 10104 := rfl
theorem li10105 : (10105 : Int32) = iN 10105 := rfl
theorem li10106 : (10106 : Int32) = iN 10106 := rfl
theorem li10107 : (10107 : Int32) = iN 10107 := rfl
theorem li12345 : (12345 : Int32) = iN 12345 := rfl
/-- a number between 0 and m is an iN -/
theorem iN_of {x : Int32} {m : Nat} (h0 : 0 ≤ x) (hm : m < 2147483648) (h1 : x ≤ iN m) : ∃ n, n ≤ m ∧ x = iN n := by
  refine ⟨x.toNatClampNeg, ?_, (Int32.ofNat_toNatClampNeg x h0).symm⟩
  have h2 := Int32.toNatClampNeg_le h1
  rwa [iN_toNat hm] at h2
theorem iN_of_pred {x : Int32} {m : Nat} (h0 : 0 ≤ x) (hm : m < 2147483648) (h1 : x ≤ iN m - 1) : ∃ n, n < m ∧ x = iN n := by
  cases m with
  | zero =>
    exfalso
    have h2 : iN 0 - 1 = -1 := by decide
    rw [h2] at h1
    rw [Int32.le_iff_toInt_le] at h0 h1
    have e0 : (0 : Int32).toInt = 0 := by decide
    have e1 : (-1 : Int32).toInt = -1 := by decide
    rw [e0] at h0
    rw [e1] at h1
    omega
  | succ m =>
    have e : iN (m + 1) - 1 = iN m := by
      have := iN_sub (a := m + 1) (b := 1) (by omega)
      rwa [Nat.add_sub_cancel] at this
    rw [e] at h1
    obtain ⟨n, h2, h3⟩ := iN_of h0 (by omega) h1
    exact ⟨n, by omega, h3⟩
theorem ruld_iN {f : Nat → Int32} {n i : Nat} (h : i < n) (hn : n ≤ 2147483648) : ruld f n (iN i) = some (f i) := by
  unfold ruld
  rw [iN_toNat (by omega), if_neg]
  intro h2
  rcases h2 with h2 | h2
  · exact iN_lt_zero (by omega) h2
  · omega
theorem ruldL_iN {f : Nat → Int64} {n i : Nat} (h : i < n) (hn : n ≤ 2147483648) : ruldL f n (iN i) = some (f i) := by
  unfold ruldL
  rw [iN_toNat (by omega), if_neg]
  intro h2
  rcases h2 with h2 | h2
  · exact iN_lt_zero (by omega) h2
  · omega
theorem rust_iN {A : ruA} {k n i : Nat} {v : Int32} (h : i < n) (hn : n ≤ 2147483648) : rust A k n (iN i) v = some (ruset A k i v) := by
  unfold rust
  rw [iN_toNat (by omega), if_neg]
  intro h2
  rcases h2 with h2 | h2
  · exact iN_lt_zero (by omega) h2
  · omega
theorem rustL_iN {A : ruA} {k n i : Nat} {v : Int64} (h : i < n) (hn : n ≤ 2147483648) : rustL A k n (iN i) v = some (rusetL A k i v) := by
  unfold rustL
  rw [iN_toNat (by omega), if_neg]
  intro h2
  rcases h2 with h2 | h2
  · exact iN_lt_zero (by omega) h2
  · omega
theorem rulr_iN {A : ruA} {k n i : Nat} (h : i < n) (hn : n ≤ 2147483648) : rulr A k n (iN i) = ruref A k i := by
  unfold rulr
  rw [iN_toNat (by omega), if_neg]
  intro h2
  rcases h2 with h2 | h2
  · exact iN_lt_zero (by omega) h2
  · omega
/-! what a change leaves -/
theorem rs_1 (A : ruA) (k j : Nat) (v : Int32) (k2 : Nat) : (ruset A k j v).1 k2 = if k2 = k then upd (A.1 k) j v else A.1 k2 := rfl
theorem rs_ne (A : ruA) {k k2 : Nat} (j : Nat) (v : Int32) (h : k2 ≠ k) : (ruset A k j v).1 k2 = A.1 k2 := if_neg h
theorem rs_eq (A : ruA) (k j : Nat) (v : Int32) : (ruset A k j v).1 k = upd (A.1 k) j v := if_pos rfl
theorem rsA_ne (A : ruA) {k k2 : Nat} (f : Nat → Int32) (h : k2 ≠ k) : (rusetA A k f).1 k2 = A.1 k2 := if_neg h
theorem rsA_1 (A : ruA) (k : Nat) (f : Nat → Int32) (k2 : Nat) : (rusetA A k f).1 k2 = if k2 = k then f else A.1 k2 := rfl
theorem rsL_1 (A : ruA) (k j : Nat) (v : Int64) : (rusetL A k j v).1 = A.1 := rfl
theorem rst_1 (A : ruA) (t : Nat) : (rusett A t).1 = A.1 := rfl
theorem rsm_1 (A : ruA) (t : Nat) : (rusetm A t).1 = A.1 := rfl
theorem upd_at (f : Nat → Int32) (k : Nat) (x : Int32) (j : Nat) : upd f k x j = if j = k then x else f j := rfl
theorem upd_same (f : Nat → Int32) (k : Nat) (x : Int32) : upd f k x k = x := if_pos rfl
theorem upd_ne (f : Nat → Int32) {k j : Nat} (x : Int32) (h : j ≠ k) : upd f k x j = f j := if_neg h
theorem ru_bs {α β : Type} (a : α) (f : α → Option β) : (some a).bind f = f a := rfl
theorem ruB2_some {α1 α2 β : Type} (a : α1) (b : α2) (f : α1 → α2 → Option β) : ruB2 (some (a, b)) f = f a b := rfl
theorem ruB3_some {α1 α2 α3 β : Type} (a : α1) (b : α2) (c : α3) (f : α1 → α2 → α3 → Option β) : ruB3 (some (a, b, c)) f = f a b c := rfl
theorem ruB4_some {α1 α2 α3 α4 β : Type} (a : α1) (b : α2) (c : α3) (d : α4) (f : α1 → α2 → α3 → α4 → Option β) : ruB4 (some (a, b, c, d)) f = f a b c d := rfl
theorem ruB5_some {α1 α2 α3 α4 α5 β : Type} (a : α1) (b : α2) (c : α3) (d : α4) (e : α5) (f : α1 → α2 → α3 → α4 → α5 → Option β) : ruB5 (some (a, b, c, d, e)) f = f a b c d e := rfl
theorem ite_some {α : Type} {c : Prop} [Decidable c] (a b : α) : (if c then some a else some b) = some (if c then a else b) := by split <;> rfl
/-- truth as a number -/
def b2 (p : Prop) [Decidable p] : Int32 := if p then 1 else 0
theorem b2_pos {p : Prop} {i : Decidable p} (h : p) : @b2 p i = 1 := if_pos h
theorem b2_neg {p : Prop} {i : Decidable p} (h : ¬ p) : @b2 p i = 0 := if_neg h
theorem b2_eq_zero {p : Prop} [Decidable p] : b2 p = 0 ↔ ¬ p := by
  unfold b2
  split
  · exact ⟨fun h => absurd h (by decide), fun h => absurd ‹p› h⟩
  · exact ⟨fun _ => ‹¬ p›, fun _ => rfl⟩
theorem rubz_b2 {p : Prop} [Decidable p] : rubz (b2 p) = some () := by
  unfold rubz b2
  split <;> rfl
theorem rubz_01 {v : Int32} (h : v = 0 ∨ v = 1) : rubz v = some () := if_pos h
/-! loops that count up -/
/-- folded from q on to ahead of hi -/
def upto {σ : Type} (body : Nat → σ → σ) : Nat → Nat → σ → σ
  | 0, _, s => s
  | m + 1, q, s => upto body m (q + 1) (body q s)
theorem loop_up {σ β : Type} (L : Nat → Nat → σ → Option β) (hi : Nat) (body : Nat → σ → σ) (K : σ → Option β) (P : Nat → σ → Prop)
    (hexit : ∀ n s, P hi s → L (n + 1) hi s = K s) (hstep : ∀ n q s, q < hi → P q s → L (n + 1) q s = L n (q + 1) (body q s)) (hP : ∀ q s, q < hi → P q s → P (q + 1) (body q s)) :
    ∀ (m n q : Nat) (s : σ), q + m = hi → m < n → P q s → L n q s = K (upto body m q s) ∧ P hi (upto body m q s) := by
  intro m
  induction m with
  | zero =>
    intro n q s h1 h2 h3
    obtain ⟨n, rfl⟩ : ∃ k, n = k + 1 := ⟨n - 1, by omega⟩
    have e : q = hi := by omega
    subst e
    exact ⟨hexit n s h3, h3⟩
  | succ m ih =>
    intro n q s h1 h2 h3
    obtain ⟨n, rfl⟩ : ∃ k, n = k + 1 := ⟨n - 1, by omega⟩
    rw [hstep n q s (by omega) h3]
    exact ih n (q + 1) (body q s) (by omega) (by omega) (hP q s (by omega) h3)
/-- sums -/
def sumI (g : Nat → Int32) : Nat → Int32
  | 0 => 0
  | n + 1 => sumI g n + g n
theorem sumI_congr {g g2 : Nat → Int32} : ∀ (n : Nat), (∀ j, j < n → g j = g2 j) → sumI g n = sumI g2 n
  | 0, _ => rfl
  | n + 1, h => by
    show sumI g n + g n = sumI g2 n + g2 n
    rw [sumI_congr n (fun j hj => h j (by omega)), h n (by omega)]
theorem loop_sum {β : Type} (L : Nat → Nat → Int32 → Option β) (hi : Nat) (g : Nat → Int32) (K : Int32 → Option β)
    (hexit : ∀ n s, L (n + 1) hi s = K s) (hstep : ∀ n q s, q < hi → L (n + 1) q s = L n (q + 1) (s + g q)) : ∀ n, hi < n → L n 0 0 = K (sumI g hi) := by
  have key : ∀ (m n q : Nat), q + m = hi → m < n → L n q (sumI g q) = K (sumI g hi) := by
    intro m
    induction m with
    | zero =>
      intro n q h1 h2
      obtain ⟨n, rfl⟩ : ∃ k, n = k + 1 := ⟨n - 1, by omega⟩
      have e : q = hi := by omega
      subst e
      exact hexit n _
    | succ m ih =>
      intro n q h1 h2
      obtain ⟨n, rfl⟩ : ∃ k, n = k + 1 := ⟨n - 1, by omega⟩
      rw [hstep n q _ (by omega)]
      exact ih n (q + 1) (by omega) (by omega)
  intro n hn
  exact key hi n 0 (by omega) hn
/-- sets -/
def setI (p : Nat → Bool) : Nat → Int32
  | 0 => 0
  | n + 1 => setI p n ||| (if p n = true then 1 <<< iN n else 0)
theorem setI_congr {g g2 : Nat → Bool} : ∀ (n : Nat), (∀ j, j < n → g j = g2 j) → setI g n = setI g2 n
  | 0, _ => rfl
  | n + 1, h => by
    show setI g n ||| _ = setI g2 n ||| _
    rw [setI_congr n (fun j hj => h j (by omega)), h n (by omega)]
/-- any loop that counts up, its state read off the count -/
theorem loop_inv {σ β : Type} (L : Nat → Nat → σ → Option β) (hi : Nat) (S : Nat → σ) (R : Option β)
    (hexit : ∀ n, L (n + 1) hi (S hi) = R) (hstep : ∀ n q, q < hi → L (n + 1) q (S q) = L n (q + 1) (S (q + 1))) : ∀ n q, q ≤ hi → hi - q < n → L n q (S q) = R := by
  have key : ∀ (m n q : Nat), q + m = hi → m < n → L n q (S q) = R := by
    intro m
    induction m with
    | zero =>
      intro n q h1 h2
      obtain ⟨n, rfl⟩ : ∃ k, n = k + 1 := ⟨n - 1, by omega⟩
      have e : q = hi := by omega
      subst e
      exact hexit n
    | succ m ih =>
      intro n q h1 h2
      obtain ⟨n, rfl⟩ : ∃ k, n = k + 1 := ⟨n - 1, by omega⟩
      rw [hstep n q (by omega)]
      exact ih n (q + 1) (by omega) (by omega)
  intro n q h1 h2
  exact key (hi - q) n q (by omega) h2
theorem ruF_eq : ruF = 20000 := rfl
