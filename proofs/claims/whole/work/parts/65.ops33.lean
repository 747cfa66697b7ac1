/-! LEVEL 2: the class takes what is better -/
/-- what the class has found at a length: start, set, count -/
abbrev fnC : Type := Int32 × Int32 × Int32
def stC (A : ruA) (f : fnC) : ruA := rusetA A 65 (upd (upd (upd (A.1 65) 1 f.1) 2 f.2.1) 3 f.2.2)
theorem stC_k (A : ruA) (f : fnC) {k : Nat} (h : k ≠ 65) : (stC A f).1 k = A.1 k := rsA_ne _ _ h
theorem stC_1 (A : ruA) (f : fnC) : (stC A f).1 65 1 = f.1 := by
  unfold stC
  rw [rsA_same, upd_ne _ _ (by decide), upd_ne _ _ (by decide), upd_same]
theorem stC_2 (A : ruA) (f : fnC) : (stC A f).1 65 2 = f.2.1 := by
  unfold stC
  rw [rsA_same, upd_ne _ _ (by decide), upd_same]
theorem stC_3 (A : ruA) (f : fnC) : (stC A f).1 65 3 = f.2.2 := by
  unfold stC
  rw [rsA_same, upd_same]
theorem stC_j (A : ruA) (f : fnC) {j : Nat} (h : j ≠ 1 ∧ j ≠ 2 ∧ j ≠ 3) : (stC A f).1 65 j = A.1 65 j := by
  unfold stC
  rw [rsA_same, upd_ne _ _ h.2.2, upd_ne _ _ h.2.1, upd_ne _ _ h.1]
theorem stC_set (A : ruA) (f : fnC) (a b c : Int32) : ruset (ruset (ruset (stC A f) 65 3 c) 65 1 a) 65 2 b = stC A (a, b, c) := by
  unfold stC
  simp only [ruset_eq, rusetA_two, rsA_same]
  congr 1
  funext i
  by_cases e1 : i = 1
  · subst e1
    rw [upd_ne _ _ (by decide), upd_same, upd_ne _ _ (by decide), upd_ne _ _ (by decide), upd_same]
  · by_cases e2 : i = 2
    · subst e2
      rw [upd_same, upd_ne _ _ (by decide), upd_same]
    · by_cases e3 : i = 3
      · subst e3
        rw [upd_ne _ _ e2, upd_ne _ _ e1, upd_same, upd_same]
      · simp only [upd_ne _ _ e1, upd_ne _ _ e2, upd_ne _ _ e3]
def tkC (t p : Nat) (S : Int32) (f : fnC) : fnC := if f.2.2 < iN (pc24 S) ∨ (¬ iN (pc24 S) < iN t ∧ iN (pc24 S) = f.2.2 ∧ iN p = f.1 ∧ ¬ f.2.1 ≤ S) then (iN p, S, iN (pc24 S)) else f
theorem f8_take (A : ruA) (f : fnC) {S : Int32} (hS : ∀ j, 24 ≤ j → bt S j = false) (t p : Nat) : fX8_takeIfBetter S (iN p) (iN t) (stC A f) = some (stC A (tkC t p S f)) := by
  unfold fX8_takeIfBetter tkC
  rw [f10_bits hS, Option.bind_some, stC_1, stC_2, stC_3]
  have e : (if iN (pc24 S) < iN t then some (0 : Int32) else if iN (pc24 S) = f.2.2 then (if iN p = f.1 then (if f.2.1 ≤ S then some 0 else some 1) else some 0) else some 0) = some (b2 (¬ iN (pc24 S) < iN t ∧ iN (pc24 S) = f.2.2 ∧ iN p = f.1 ∧ ¬ f.2.1 ≤ S)) := by
    by_cases d1 : iN (pc24 S) < iN t
    · rw [if_pos d1, b2_neg (fun h => h.1 d1)]
    · rw [if_neg d1]
      by_cases d2 : iN (pc24 S) = f.2.2
      · rw [if_pos d2]
        by_cases d3 : iN p = f.1
        · rw [if_pos d3]
          by_cases d4 : f.2.1 ≤ S
          · rw [if_pos d4, b2_neg (fun h => h.2.2.2 d4)]
          · rw [if_neg d4, b2_pos ⟨d1, d2, d3, d4⟩]
        · rw [if_neg d3, b2_neg (fun h => d3 h.2.2.1)]
      · rw [if_neg d2, b2_neg (fun h => d2 h.2.1)]
  rw [e, Option.bind_some, b2_ne]
  simp only [Option.bind_some, stC_set]
  by_cases c1 : f.2.2 < iN (pc24 S)
  · rw [if_pos c1, if_pos (Or.inl c1)]
  · rw [if_neg c1]
    by_cases c2 : ¬ iN (pc24 S) < iN t ∧ iN (pc24 S) = f.2.2 ∧ iN p = f.1 ∧ ¬ f.2.1 ≤ S
    · rw [if_pos c2, if_pos (Or.inr c2)]
    · rw [if_neg c2, if_neg (fun h => h.elim c1 c2)]
