/-! LEVEL 2: a sheet in a long, three bits a question -/
def btL (x : Int64) (k : Nat) : Bool := x.toBitVec.getLsbD k
theorem btL_or (x y : Int64) (k : Nat) : btL (x ||| y) k = (btL x k || btL y k) := by
  unfold btL
  rw [Int64.toBitVec_or, BitVec.getLsbD_or]
theorem btL_and (x y : Int64) (k : Nat) : btL (x &&& y) k = (btL x k && btL y k) := by
  unfold btL
  rw [Int64.toBitVec_and, BitVec.getLsbD_and]
theorem btL_xor (x y : Int64) (k : Nat) : btL (x ^^^ y) k = (btL x k ^^ btL y k) := by
  unfold btL
  rw [Int64.toBitVec_xor, BitVec.getLsbD_xor]
theorem btL_zero (k : Nat) : btL 0 k = false := by
  unfold btL
  show (0#64).getLsbD k = false
  simp
theorem btL_ext {x y : Int64} (h : ∀ k, k < 64 → btL x k = btL y k) : x = y := by
  rw [← Int64.toBitVec_inj]
  exact BitVec.eq_of_getLsbD_eq fun k hk => h k hk
/-- a choice, one up, at question q -/
def chL (v : Int32) (q : Nat) : Int64 := (v + 1).toInt64 <<< ((iN q * 3).toInt64 &&& 63)
theorem chL_in0 : ∀ w, w < 5 → ∀ q, q < 12 → ∀ r, r < 12 → ∀ b, b < 3 → btL (chL (iN w - 1) q) (3 * r + b) = (decide (q = r) && w.testBit b) := by decide +kernel
theorem chL_out0 : ∀ w, w < 5 → ∀ q, q < 12 → ∀ k, k < 28 → btL (chL (iN w - 1) q) (36 + k) = false := by decide +kernel
theorem ch_of_rng {v : Int32} (h : -1 ≤ v ∧ v ≤ 3) : ∃ w, w < 5 ∧ v = iN w - 1 := by
  have h1 := h.1
  have h2 := h.2
  rw [Int32.le_iff_toInt_le] at h1 h2
  have e1 : (-1 : Int32).toInt = -1 := by decide
  have e3 : (3 : Int32).toInt = 3 := by decide
  rw [e1] at h1
  rw [e3] at h2
  have h5 : v.toInt = -1 ∨ v.toInt = 0 ∨ v.toInt = 1 ∨ v.toInt = 2 ∨ v.toInt = 3 := by omega
  rcases h5 with e | e | e | e | e
  · exact ⟨0, by decide, Int32.toInt_inj.mp (e.trans (by decide))⟩
  · exact ⟨1, by decide, Int32.toInt_inj.mp (e.trans (by decide))⟩
  · exact ⟨2, by decide, Int32.toInt_inj.mp (e.trans (by decide))⟩
  · exact ⟨3, by decide, Int32.toInt_inj.mp (e.trans (by decide))⟩
  · exact ⟨4, by decide, Int32.toInt_inj.mp (e.trans (by decide))⟩
def pkL (g : Nat → Int32) : Nat → Int64
  | 0 => 0
  | q + 1 => pkL g q ||| chL (g q) q
def pkF (g : Nat → Int32) : Nat → Int32
  | 0 => 0
  | q + 1 => pkF g q ||| (if g q = -1 then (0 : Int32) else 1 <<< (iN q &&& 31))
theorem pkL_out {g : Nat → Int32} (hg : ∀ q, q < 12 → -1 ≤ g q ∧ g q ≤ 3) {k : Nat} (hk : k < 28) : ∀ n, n ≤ 12 → btL (pkL g n) (36 + k) = false
  | 0, _ => btL_zero _
  | n + 1, h => by
    show btL (pkL g n ||| chL (g n) n) (36 + k) = false
    obtain ⟨w, hw, e⟩ := ch_of_rng (hg n (by omega))
    rw [btL_or, pkL_out hg hk n (by omega), e, chL_out0 w hw n (by omega) k hk]
    rfl
theorem pkL_in {g : Nat → Int32} (hg : ∀ q, q < 12 → -1 ≤ g q ∧ g q ≤ 3) {r b w : Nat} (hr : r < 12) (hb : b < 3) (hw : w < 5) (e : g r = iN w - 1) : ∀ n, n ≤ 12 → btL (pkL g n) (3 * r + b) = (decide (r < n) && w.testBit b)
  | 0, _ => by
    rw [decide_eq_false (by omega), Bool.false_and]
    exact btL_zero _
  | n + 1, h => by
    show btL (pkL g n ||| chL (g n) n) (3 * r + b) = _
    obtain ⟨w', hw', e'⟩ := ch_of_rng (hg n (by omega))
    rw [btL_or, pkL_in hg hr hb hw e n (by omega), e', chL_in0 w' hw' n (by omega) r hr b hb]
    by_cases c : n = r
    · subst c
      have ew : w = w' := by
        have := e.symm.trans e'
        have key : ∀ a, a < 5 → ∀ b, b < 5 → iN a - 1 = iN b - 1 → a = b := by decide
        exact key w hw w' hw' this
      rw [decide_eq_false (show ¬ n < n by omega), decide_eq_true rfl, decide_eq_true (show n < n + 1 by omega), ew]
      rfl
    · rw [decide_eq_false c, Bool.false_and, Bool.or_false]
      by_cases c2 : r < n
      · rw [decide_eq_true c2, decide_eq_true (show r < n + 1 by omega)]
      · rw [decide_eq_false c2, decide_eq_false (show ¬ r < n + 1 by omega)]
/-- the stretch of L questions from p -/
def mkL (p L : Nat) : Int64 := (((1 : Int64) <<< ((iN L * 3).toInt64 &&& 63)) - 1) <<< ((iN p * 3).toInt64 &&& 63)
theorem mkL_in0 : ∀ p, p < 13 → ∀ L, L < 13 → p + L ≤ 12 → ∀ r, r < 12 → ∀ b, b < 3 → btL (mkL p L) (3 * r + b) = decide (p ≤ r ∧ r < p + L) := by decide +kernel
theorem bits3 : ∀ a, a < 5 → ∀ b, b < 5 → (∀ k, k < 3 → a.testBit k = b.testBit k) → a = b := by decide
theorem pk_alike {g h : Nat → Int32} (hg : ∀ q, q < 12 → -1 ≤ g q ∧ g q ≤ 3) (hh : ∀ q, q < 12 → -1 ≤ h q ∧ h q ≤ 3) {p L : Nat} (hp : p + L ≤ 12) : lg_cmp ((pkL g 12 ^^^ pkL h 12) &&& mkL p L) 0 = 0 ↔ ∀ r, p ≤ r → r < p + L → g r = h r := by
  rw [lg_cmp_eq]
  constructor
  · intro e r h1 h2
    obtain ⟨w, hw, ew⟩ := ch_of_rng (hg r (by omega))
    obtain ⟨v, hv, ev⟩ := ch_of_rng (hh r (by omega))
    have : w = v := bits3 w hw v hv fun b hb => by
      have e2 := congrArg (fun z => btL z (3 * r + b)) e
      simp only [btL_and, btL_xor, btL_zero, pkL_in hg (show r < 12 by omega) hb hw ew 12 (Nat.le_refl _), pkL_in hh (show r < 12 by omega) hb hv ev 12 (Nat.le_refl _), mkL_in0 p (by omega) L (by omega) hp r (by omega) b hb, decide_eq_true (show r < 12 by omega), decide_eq_true (show p ≤ r ∧ r < p + L from ⟨h1, h2⟩), Bool.true_and, Bool.and_true] at e2
      revert e2
      cases w.testBit b <;> cases v.testBit b <;> decide
    rw [ew, ev, this]
  · intro hal
    refine btL_ext fun k hk => ?_
    rw [btL_and, btL_xor, btL_zero]
    by_cases h36 : k < 36
    · obtain ⟨r, b, hr, hb, rfl⟩ : ∃ r b, r < 12 ∧ b < 3 ∧ k = 3 * r + b := ⟨k / 3, k % 3, by omega, by omega, by omega⟩
      obtain ⟨w, hw, ew⟩ := ch_of_rng (hg r hr)
      obtain ⟨v, hv, ev⟩ := ch_of_rng (hh r hr)
      rw [pkL_in hg hr hb hw ew 12 (Nat.le_refl _), pkL_in hh hr hb hv ev 12 (Nat.le_refl _), mkL_in0 p (by omega) L (by omega) hp r hr b hb]
      by_cases c : p ≤ r ∧ r < p + L
      · have e := hal r c.1 c.2
        have : w = v := by
          have key : ∀ a, a < 5 → ∀ b, b < 5 → iN a - 1 = iN b - 1 → a = b := by decide
          exact key w hw v hv (ew.symm.trans (e.trans ev))
        rw [this, Bool.xor_self, Bool.false_and]
      · rw [decide_eq_false c, Bool.and_false]
    · obtain ⟨j, hj, rfl⟩ : ∃ j, j < 28 ∧ k = 36 + j := ⟨k - 36, by omega, by omega⟩
      rw [pkL_out hg hj 12 (Nat.le_refl _), pkL_out hh hj 12 (Nat.le_refl _)]
      rfl
theorem bt_pkF {g : Nat → Int32} {k : Nat} : ∀ n, n ≤ 12 → bt (pkF g n) k = decide (k < n ∧ ¬ g k = -1)
  | 0, _ => by
    rw [decide_eq_false (by omega)]
    exact bt_zero k
  | n + 1, h => by
    show bt (pkF g n ||| (if g n = -1 then (0 : Int32) else 1 <<< (iN n &&& 31))) k = _
    rw [bt_or, bt_pkF n (by omega)]
    by_cases c : g n = -1
    · rw [if_pos c, bt_zero, Bool.or_false]
      congr 1
      apply propext
      constructor
      · exact fun h => ⟨by omega, h.2⟩
      · rintro ⟨h1, h2⟩
        refine ⟨?_, h2⟩
        by_cases e : k = n
        · rw [e] at h2
          exact absurd c h2
        · omega
    · rw [if_neg c, bt_bit (by omega)]
      by_cases e : k = n
      · rw [decide_eq_true e, Bool.or_true, decide_eq_true ⟨by omega, by rw [e]; exact c⟩]
      · rw [decide_eq_false e, Bool.or_false]
        congr 1
        apply propext
        constructor
        · exact fun h => ⟨by omega, h.2⟩
        · exact fun h => ⟨by omega, h.2⟩
