/-! LEVEL 2: what sheets tell -/
theorem loop_sum_from {β : Type} (L : Nat → Nat → Int32 → Option β) (hi : Nat) (g : Nat → Int32) (K : Int32 → Option β) (s0 : Int32)
    (hexit : ∀ n s, L (n + 1) hi s = K s) (hstep : ∀ n q s, q < hi → L (n + 1) q s = L n (q + 1) (s + g q)) : ∀ n, hi < n → L n 0 s0 = K (s0 + sumI g hi) := by
  intro n hn
  have h := loop_inv L hi (fun q => s0 + sumI g q) (K (s0 + sumI g hi)) (fun n => hexit n _) (fun n q hq => by
    rw [hstep n q _ hq]
    show L n (q + 1) (s0 + sumI g q + g q) = L n (q + 1) (s0 + (sumI g q + g q))
    rw [Int32.add_assoc]) n 0 (Nat.zero_le _) (by omega)
  have e : s0 + sumI g 0 = s0 := Int32.add_zero s0
  rwa [e] at h
theorem b2_ite {p : Prop} [Decidable p] : (if p then (1 : Int32) else 0) = b2 p := rfl
theorem b2_not {p : Prop} [Decidable p] : (if p then (0 : Int32) else 1) = b2 (¬ p) := by
  by_cases h : p
  · rw [if_pos h, b2_neg (fun h2 => h2 h)]
  · rw [if_neg h, b2_pos h]
theorem add_b2 {p : Prop} [Decidable p] (x : Int32) : (if p then x + 1 else x) = x + b2 p := by
  by_cases h : p
  · rw [if_pos h, b2_pos h]
  · rw [if_neg h, b2_neg h, Int32.add_zero]
theorem add_b2n {p : Prop} [Decidable p] (x : Int32) : (if p then x else x + 1) = x + b2 (¬ p) := by
  by_cases h : p
  · rw [if_pos h, b2_neg (fun h2 => h2 h), Int32.add_zero]
  · rw [if_neg h, b2_pos h]
/-- of a sheet s in a row N -/
def nRights (N : Nat → Int32) (s : Nat) : Int32 := sumI (fun q => b2 (N (129 + 28 * s + q) = N (8 + q))) 12
def nBlank (N : Nat → Int32) (s : Nat) : Int32 := sumI (fun q => b2 (N (129 + 28 * s + q) = -1)) 12
def nFilled (N : Nat → Int32) (s : Nat) : Int32 := sumI (fun q => b2 (¬ N (129 + 28 * s + q) = -1)) 12
def nPuts (N : Nat → Int32) (s : Nat) : Int32 := sumI (fun q => b2 (¬ N (129 + 28 * s + q) = -1 ∧ bt 96 (N (141 + 28 * s + q)).toNatClampNeg = true)) 12
def nUnfit (N : Nat → Int32) (s : Nat) : Int32 := sumI (fun a => sumI (fun b => b2 (N (129 + 28 * s + a) = N (8 + a) ∧ ¬ N (129 + 28 * s + b) = N (8 + b) ∧ N (20 + b) < N (20 + a))) 12) 12
/-- the class reads its sheets as N has them -/
def shC (A : ruA) (N : Nat → Int32) : Prop := CBq A.1 1 N ∧ CBs A.1 1 N ∧ CBb A.1 1 N ∧ CBr A.1 1 N
section SH
variable {A : ruA} {N : Nat → Int32}
theorem f10_choiceAt (h : shC A N) {s q : Nat} (hs : s < 144) (hq : q < 12) : fX6_choiceAt (iN s) (iN q) A = some (N (129 + 28 * s + q)) := by
  simp (disch := omega) only [fX6_choiceAt, li12, iN_mul, iN_add, ruld_iN, Option.bind_some, Nat.mul_comm s 12]
  rw [show A.1 11 (12 * s + q) = _ from (h.2.2.1 s hs q hq).1]
theorem f10_kindAt (h : shC A N) {s q : Nat} (hs : s < 144) (hq : q < 12) : fX6_kindAt (iN s) (iN q) A = some (N (141 + 28 * s + q)) := by
  simp (disch := omega) only [fX6_kindAt, li12, iN_mul, iN_add, ruld_iN, Option.bind_some, Nat.mul_comm s 12]
  rw [show A.1 12 (12 * s + q) = _ from (h.2.2.1 s hs q hq).2.2.1]
theorem f10_rubbedAt (h : shC A N) {s k : Nat} (hs : s < 144) (hk : k < 3) : fX6_rubbedAt (iN s) (iN k) A = some (N (153 + 28 * s + k)) := by
  simp (disch := omega) only [fX6_rubbedAt, li3, iN_mul, iN_add, ruld_iN, Option.bind_some, Nat.mul_comm s 3]
  rw [show A.1 13 (3 * s + k) = _ from h.2.2.2 s hs k hk]
theorem f10_key (h : shC A N) {q : Nat} (hq : q < 12) : ruld (A.1 3) 12 (iN q) = some (N (8 + q)) := by
  rw [ruld_iN hq (by decide), show A.1 3 q = _ from (h.1 q hq).1]
theorem f10_hard (h : shC A N) {q : Nat} (hq : q < 12) : ruld (A.1 4) 12 (iN q) = some (N (20 + q)) := by
  rw [ruld_iN hq (by decide), show A.1 4 q = _ from (h.1 q hq).2.2]
theorem f10_there (h : shC A N) {s : Nat} (hs : s < 144) : ruld (A.1 10) 144 (iN s) = some (N (128 + 28 * s)) := by
  rw [ruld_iN hs (by decide), show A.1 10 s = _ from (h.2.1 s hs).1]
theorem f10_rights (h : shC A N) {s : Nat} (hs : s < 144) : fX6_rights (iN s) A = some (nRights N s) := by
  unfold fX6_rights nRights
  refine loop_sum (fun n q z => fX6_rights_l5 (iN s) A (fun v4 => some v4) n z (iN q)) 12 _ (fun v => some v) ?_ ?_ ruF (by decide)
  · intro n z
    rw [fX6_rights_l5]
    rfl
  · intro n q z hq
    simp (disch := omega) only [fX6_rights_l5, li12, iN_le, f10_choiceAt h hs hq, f10_key h hq, Option.bind_some, iN_add1, ite_some, add_b2]
    rw [if_neg (by omega)]
theorem f10_filled (h : shC A N) {s : Nat} (hs : s < 144) : fX6_filled (iN s) A = some (nFilled N s) := by
  unfold fX6_filled nFilled
  refine loop_sum (fun n q z => fX6_filled_l4 (iN s) A (fun v4 => some v4) n z (iN q)) 12 _ (fun v => some v) ?_ ?_ ruF (by decide)
  · intro n z
    rw [fX6_filled_l4]
    rfl
  · intro n q z hq
    simp (disch := omega) only [fX6_filled_l4, li12, iN_le, f10_choiceAt h hs hq, Option.bind_some, iN_add1, ite_some, add_b2n]
    rw [if_neg (by omega)]
theorem kind_of (h : shC A N) {s q : Nat} (hs : s < 144) (hq : q < 12) : ∃ k, k < 8 ∧ N (141 + 28 * s + q) = iN k := by
  obtain ⟨k, h1, h2⟩ := iN_of (m := 7) (h.2.2.1 s hs q hq).2.2.2.1 (by decide) (h.2.2.1 s hs q hq).2.2.2.2
  exact ⟨k, by omega, h2⟩
theorem f10_standingBy (h : shC A N) {s : Nat} (hs : s < 144) : fX6_standingBy (iN s) 5 A = some (nPuts N s) := by
  unfold fX6_standingBy nPuts
  refine loop_sum (fun n q z => fX6_standingBy_l5 (iN s) 5 A (fun v4 => some v4) n z (iN q)) 12 _ (fun v => some v) ?_ ?_ ruF (by decide)
  · intro n z
    rw [fX6_standingBy_l5]
    rfl
  · intro n q z hq
    obtain ⟨k, hk, ek⟩ := kind_of h hs hq
    have e5 : ruld (fun j => ruunder.getD j 0) 8 5 = some 96 := by decide
    simp (disch := omega) only [fX6_standingBy_l5, li12, iN_le, f10_choiceAt h hs hq, f10_kindAt h hs hq, ek, Option.bind_some, iN_add1, e5, e10_has, b2_ne, iN_toNat]
    rw [if_neg (by omega)]
    by_cases c1 : N (129 + 28 * s + q) = -1
    · rw [if_pos c1, Option.bind_some, b2_neg (fun h2 => h2.1 c1), Int32.add_zero]
    · rw [if_neg c1]
      by_cases c2 : bt 96 k = true
      · rw [if_pos c2, Option.bind_some, b2_pos ⟨c1, c2⟩]
      · rw [if_neg c2, Option.bind_some, b2_neg (fun h2 => c2 h2.2), Int32.add_zero]
theorem f10_easier (h : shC A N) {s : Nat} (hs : s < 144) (x : Int32) : fX6_easierWrong (iN s) x A = some (sumI (fun b => b2 (¬ N (129 + 28 * s + b) = N (8 + b) ∧ N (20 + b) < x)) 12) := by
  unfold fX6_easierWrong
  refine loop_sum (fun n q z => fX6_easierWrong_l6 (iN s) x A (fun v4 => some v4) n z (iN q)) 12 _ (fun v => some v) ?_ ?_ ruF (by decide)
  · intro n z
    rw [fX6_easierWrong_l6]
    rfl
  · intro n q z hq
    simp (disch := omega) only [fX6_easierWrong_l6, li12, iN_le, f10_hard h hq, f10_choiceAt h hs hq, f10_key h hq, Option.bind_some, iN_add1]
    rw [if_neg (by omega)]
    by_cases c1 : x ≤ N (20 + q)
    · rw [if_pos c1, Option.bind_some, b2_neg (fun h2 => (Int32.not_lt.mpr c1) h2.2), Int32.add_zero]
    · rw [if_neg c1]
      by_cases c2 : N (129 + 28 * s + q) = N (8 + q)
      · rw [if_pos c2, Option.bind_some, b2_neg (fun h2 => h2.1 c2), Int32.add_zero]
      · rw [if_neg c2, Option.bind_some, b2_pos ⟨c2, Int32.not_le.mp c1⟩]
theorem f10_unfit (h : shC A N) {s : Nat} (hs : s < 144) : fX6_unfitPairs (iN s) A = some (nUnfit N s) := by
  unfold fX6_unfitPairs nUnfit
  refine loop_sum (fun n q z => fX6_unfitPairs_l6 (iN s) A (fun v4 => some v4) n z (iN q)) 12 _ (fun v => some v) ?_ ?_ ruF (by decide)
  · intro n z
    rw [fX6_unfitPairs_l6]
    rfl
  · intro n q z hq
    simp (disch := omega) only [fX6_unfitPairs_l6, li12, iN_le, f10_hard h hq, f10_choiceAt h hs hq, f10_key h hq, Option.bind_some, iN_add1, f10_easier h hs]
    rw [if_neg (by omega)]
    by_cases c1 : N (129 + 28 * s + q) = N (8 + q)
    · have e : sumI (fun b => b2 (N (129 + 28 * s + q) = N (8 + q) ∧ ¬ N (129 + 28 * s + b) = N (8 + b) ∧ N (20 + b) < N (20 + q))) 12 = sumI (fun b => b2 (¬ N (129 + 28 * s + b) = N (8 + b) ∧ N (20 + b) < N (20 + q))) 12 := by
        refine sumI_congr 12 fun b hb => ?_
        by_cases c2 : ¬ N (129 + 28 * s + b) = N (8 + b) ∧ N (20 + b) < N (20 + q)
        · rw [b2_pos c2, b2_pos ⟨c1, c2⟩]
        · rw [b2_neg c2, b2_neg (fun h2 => c2 h2.2)]
      rw [if_pos c1, Option.bind_some, e]
    · rw [if_neg c1, Option.bind_some]
      have e : sumI (fun b => b2 (N (129 + 28 * s + q) = N (8 + q) ∧ ¬ N (129 + 28 * s + b) = N (8 + b) ∧ N (20 + b) < N (20 + q))) 12 = sumI (fun _ => 0) 12 := sumI_congr 12 fun b hb => b2_neg (fun h2 => c1 h2.1)
      rw [e, sumI_zero, Int32.add_zero]
end SH
/-! the reference -/
theorem f11_choice (A : ruA) {c y q : Nat} (hc : c < 24) (hy : y < 6) (hq : q < 12) : fX11_choice (iN c) (iN y) (iN q) A = some (A.1 84 (129 + 28 * (6 * c + y) + q)) := by
  simp (disch := omega) only [fX11_choice, e11_sheetAt, Option.bind_some, iN_add1, iN_add, ruld_iN, show 128 + 28 * (6 * c + y) + 1 + q = 129 + 28 * (6 * c + y) + q by omega]
theorem f11_kind (A : ruA) {c y q : Nat} (hc : c < 24) (hy : y < 6) (hq : q < 12) : fX11_kind (iN c) (iN y) (iN q) A = some (A.1 84 (141 + 28 * (6 * c + y) + q)) := by
  simp (disch := omega) only [fX11_kind, e11_sheetAt, Option.bind_some, li13, iN_add, ruld_iN, show 128 + 28 * (6 * c + y) + 13 + q = 141 + 28 * (6 * c + y) + q by omega]
theorem f11_key (A : ruA) {q : Nat} (hq : q < 12) : ruld (A.1 84) 4920 (iN (8 + q)) = some (A.1 84 (8 + q)) := ruld_iN (by omega) (by decide)
theorem f11_isRight (A : ruA) {c y q : Nat} (hc : c < 24) (hy : y < 6) (hq : q < 12) : fX11_isRight (iN c) (iN y) (iN q) A = some (b2 (A.1 84 (129 + 28 * (6 * c + y) + q) = A.1 84 (8 + q))) := by
  simp (disch := omega) only [fX11_isRight, f11_choice A hc hy hq, Option.bind_some, li8, iN_add, ruld_iN, ite_some, b2_ite]
theorem f11_rights (A : ruA) {c y : Nat} (hc : c < 24) (hy : y < 6) : fX11_rights (iN c) (iN y) A = some (nRights (A.1 84) (6 * c + y)) := by
  unfold fX11_rights nRights
  refine loop_sum (fun n q z => fX11_rights_l5 (iN c) (iN y) A (fun v4 => some v4) n z (iN q)) 12 _ (fun v => some v) ?_ ?_ ruF (by decide)
  · intro n z
    rw [fX11_rights_l5]
    rfl
  · intro n q z hq
    simp (disch := omega) only [fX11_rights_l5, li12, iN_le, f11_isRight A hc hy hq, Option.bind_some, iN_add1, b2_ne, ite_some, b2_ite]
    rw [if_neg (by omega)]
theorem f11_blank {β : Type} (A : ruA) {c y : Nat} (hc : c < 24) (hy : y < 6) (k : Int32 → Option β) : fX11_sheetIs_l105 (iN c) (iN y) A k ruF 0 0 = k (nBlank (A.1 84) (6 * c + y)) := by
  unfold nBlank
  refine loop_sum (fun n q z => fX11_sheetIs_l105 (iN c) (iN y) A k n z (iN q)) 12 _ k ?_ ?_ ruF (by decide)
  · intro n z
    rw [fX11_sheetIs_l105]
    rfl
  · intro n q z hq
    simp (disch := omega) only [fX11_sheetIs_l105, li12, iN_le, f11_choice A hc hy hq, Option.bind_some, iN_add1, ite_some, b2_ite]
    rw [if_neg (by omega)]
theorem e11_above (x : Int32) : fX11_above x = some (if x = 2 then 1 else if x = 7 then 1 else if x = 6 then 5 else if x = 0 then -1 else 0) := by
  unfold fX11_above
  repeat' split
  all_goals rfl
theorem e11_isUnder : ∀ a, a < 8 → ∀ b, b < 8 → fX11_isUnder (iN a) (iN b) = some (b2 (bt (ruunder.getD b 0) a = true)) := by
  decide +kernel
theorem f11_putsOn (A : ruA) (hk : ∀ s, s < 144 → ∀ q, q < 12 → 0 ≤ A.1 84 (141 + 28 * s + q) ∧ A.1 84 (141 + 28 * s + q) ≤ 7) {c y : Nat} (hc : c < 24) (hy : y < 6) : fX11_putsOn (iN c) (iN y) A = some (nPuts (A.1 84) (6 * c + y)) := by
  unfold fX11_putsOn nPuts
  refine loop_sum (fun n q z => fX11_putsOn_l5 (iN c) (iN y) A (fun v4 => some v4) n z (iN q)) 12 _ (fun v => some v) ?_ ?_ ruF (by decide)
  · intro n z
    rw [fX11_putsOn_l5]
    rfl
  · intro n q z hq
    have h1 := hk (6 * c + y) (by omega) q hq
    obtain ⟨k, hk8, ek⟩ := iN_of (m := 7) h1.1 (by decide) h1.2
    have e5 := e11_isUnder k (by omega) 5 (by decide)
    have e5' : fX11_isUnder (iN k) 5 = some (b2 (bt 96 k = true)) := e5
    simp (disch := omega) only [fX11_putsOn_l5, li12, iN_le, f11_choice A hc hy hq, f11_kind A hc hy hq, ek, e5', Option.bind_some, iN_add1, b2_ne, iN_toNat]
    rw [if_neg (by omega)]
    by_cases c1 : A.1 84 (129 + 28 * (6 * c + y) + q) = -1
    · rw [if_pos c1, Option.bind_some, b2_neg (fun h2 => h2.1 c1)]
    · rw [if_neg c1]
      by_cases c2 : bt 96 k = true
      · rw [if_pos c2, Option.bind_some, b2_pos ⟨c1, c2⟩]
      · rw [if_neg c2, Option.bind_some, b2_neg (fun h2 => c2 h2.2)]
theorem f11_unfit_in {β : Type} (A : ruA) {c y a : Nat} (hc : c < 24) (hy : y < 6) (ha : a < 12) (z0 : Int32) (k : Int32 → Option β) : fX11_unfit_l15 (iN c) (iN y) (iN a) A k ruF z0 0 = k (z0 + sumI (fun b => b2 (A.1 84 (129 + 28 * (6 * c + y) + a) = A.1 84 (8 + a) ∧ ¬ A.1 84 (129 + 28 * (6 * c + y) + b) = A.1 84 (8 + b) ∧ A.1 84 (20 + b) < A.1 84 (20 + a))) 12) := by
  refine loop_sum_from (fun n q z => fX11_unfit_l15 (iN c) (iN y) (iN a) A k n z (iN q)) 12 _ k z0 ?_ ?_ ruF (by decide)
  · intro n z
    rw [fX11_unfit_l15]
    rfl
  · intro n q z hq
    simp (disch := omega) only [fX11_unfit_l15, li12, iN_le, f11_isRight A hc hy hq, f11_isRight A hc hy ha, Option.bind_some, iN_add1, b2_ne, li20, iN_add, ruld_iN]
    rw [if_neg (by omega)]
    by_cases c1 : A.1 84 (129 + 28 * (6 * c + y) + a) = A.1 84 (8 + a)
    · rw [if_pos c1]
      by_cases c2 : A.1 84 (129 + 28 * (6 * c + y) + q) = A.1 84 (8 + q)
      · rw [if_pos c2, Option.bind_some, b2_neg (fun h2 => h2.2.1 c2)]
      · rw [if_neg c2]
        by_cases c3 : A.1 84 (20 + a) ≤ A.1 84 (20 + q)
        · rw [if_pos c3, Option.bind_some, b2_neg (fun h2 => (Int32.not_lt.mpr c3) h2.2.2)]
        · rw [if_neg c3, Option.bind_some, b2_pos ⟨c1, c2, Int32.not_le.mp c3⟩]
    · rw [if_neg c1, Option.bind_some, b2_neg (fun h2 => c1 h2.1)]
theorem f11_unfit (A : ruA) {c y : Nat} (hc : c < 24) (hy : y < 6) : fX11_unfit (iN c) (iN y) A = some (nUnfit (A.1 84) (6 * c + y)) := by
  unfold fX11_unfit nUnfit
  refine loop_sum (fun n q z => fX11_unfit_l5 (iN c) (iN y) A (fun v4 => some v4) n z (iN q)) 12 _ (fun v => some v) ?_ ?_ ruF (by decide)
  · intro n z
    rw [fX11_unfit_l5]
    rfl
  · intro n q z hq
    simp (disch := omega) only [fX11_unfit_l5, li12, iN_le, f11_unfit_in A hc hy hq, iN_add1]
    rw [if_neg (by omega)]
theorem add4 (a u b v : Int32) : a + u + (b + v) = a + b + (u + v) := by ac_rfl
theorem filled_blank (N : Nat → Int32) (s : Nat) : (12 : Int32) - nFilled N s = nBlank N s := by
  have key : ∀ n, sumI (fun q => b2 (N (129 + 28 * s + q) = -1)) n + sumI (fun q => b2 (¬ N (129 + 28 * s + q) = -1)) n = iN n := by
    intro n
    induction n with
    | zero => rfl
    | succ n ih =>
      show sumI _ n + b2 _ + (sumI _ n + b2 _) = iN (n + 1)
      have e : b2 (N (129 + 28 * s + n) = -1) + b2 (¬ N (129 + 28 * s + n) = -1) = 1 := by
        by_cases h : N (129 + 28 * s + n) = -1
        · rw [b2_pos h, b2_neg (fun h2 => h2 h)]
          rfl
        · rw [b2_neg h, b2_pos h]
          rfl
      rw [← iN_add1, ← ih, add4, e]
  have h := key 12
  unfold nFilled nBlank
  rw [show (12 : Int32) = iN 12 from rfl, ← h, Int32.add_sub_cancel]
