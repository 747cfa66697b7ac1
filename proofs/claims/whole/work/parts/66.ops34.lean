/-! LEVEL 2: the class: filled on a stretch; the set of those alike from c on -/
def mkF (p l : Nat) : Int32 := (((1 : Int32) <<< (iN l &&& 31)) - 1) <<< (iN p &&& 31)
theorem bt_mkF0 : ∀ p, p < 13 → ∀ l, l < 13 → p + l ≤ 12 → ∀ k, k < 32 → bt (mkF p l) k = decide (p ≤ k ∧ k < p + l) := by decide +kernel
theorem full_iff {N : Nat → Int32} {y c p l : Nat} (hp : p + l ≤ 12) : pkF (chA N y c) 12 &&& mkF p l = mkF p l ↔ fuB N y c p l = true := by
  rw [fuB_iff]
  constructor
  · intro e r h1 h2
    have e2 := congrArg (fun z => bt z r) e
    simp only [bt_and, bt_pkF 12 (Nat.le_refl _), bt_mkF0 p (by omega) l (by omega) hp r (by omega), decide_eq_true (show p ≤ r ∧ r < p + l from ⟨h1, h2⟩), Bool.and_true, decide_eq_true_eq] at e2
    exact e2.2
  · intro h
    refine bt_ext fun k hk => ?_
    rw [bt_and, bt_pkF 12 (Nat.le_refl _), bt_mkF0 p (by omega) l (by omega) hp k hk]
    by_cases c1 : p ≤ k ∧ k < p + l
    · rw [decide_eq_true c1, Bool.and_true, decide_eq_true ⟨by omega, h k c1.1 c1.2⟩]
    · rw [decide_eq_false c1, Bool.and_false]
def alS (N : Nat → Int32) (x : Int32) (y c p l : Nat) : Nat → Int32
  | 0 => 0
  | d + 1 => alS N x y c p l d ||| (if inR N x y d ∧ c ≤ d ∧ alB N y c d p l = true then (1 : Int32) <<< (iN d &&& 31) else 0)
theorem bt_alS {N : Nat → Int32} {x : Int32} {y c p l k : Nat} : ∀ m, m ≤ 24 → bt (alS N x y c p l m) k = decide (k < m ∧ inR N x y k ∧ c ≤ k ∧ alB N y c k p l = true)
  | 0, _ => by
    rw [decide_eq_false (by omega)]
    exact bt_zero k
  | m + 1, h => by
    show bt (alS N x y c p l m ||| (if inR N x y m ∧ c ≤ m ∧ alB N y c m p l = true then (1 : Int32) <<< (iN m &&& 31) else 0)) k = _
    rw [bt_or, bt_alS m (by omega)]
    by_cases e : k = m
    · subst e
      by_cases c1 : inR N x y k ∧ c ≤ k ∧ alB N y c k p l = true
      · rw [if_pos c1, bt_bit (by omega), decide_eq_true rfl, Bool.or_true, decide_eq_true ⟨by omega, c1⟩]
      · rw [if_neg c1, bt_zero, Bool.or_false, decide_eq_false (fun h => c1 h.2), decide_eq_false (fun h => c1 h.2)]
    · have e2 : bt (if inR N x y m ∧ c ≤ m ∧ alB N y c m p l = true then (1 : Int32) <<< (iN m &&& 31) else 0) k = false := by
        split
        · rw [bt_bit (by omega), decide_eq_false e]
        · exact bt_zero k
      rw [e2, Bool.or_false]
      congr 1
      apply propext
      constructor
      · exact fun h => ⟨by omega, h.2⟩
      · exact fun h => ⟨by omega, h.2⟩
theorem f8_alike {A B : ruA} {N : Nat → Int32} {m : Nat} (h : roC A N m) {y : Nat} (hy : y < 6) {x : Int32} (hg : gat A B N x y m) {c p l : Nat} (hc : c < m) (hin : inR N x y c) (hp : p + l ≤ 12) : fX8_alikeTo (iN (cN (fun c => inR N x y c) c)) (iN p) (iN l) B = some (alS N x y c p l m) := by
  obtain ⟨S, e1, e2⟩ := f8_alikeTo h hy hg hc hin hp
  have hm := h.2.2.2
  rw [e1]
  congr 1
  exact bt_ext fun k _ => by rw [e2, bt_alS m hm]
