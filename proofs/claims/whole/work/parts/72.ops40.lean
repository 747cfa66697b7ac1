/-! LEVEL 2: both strings: taking a set again changes nothing -/
def noI (t p : Nat) (S : Int32) (f : fnd) : Prop := pc24 S < t ∨ (¬ f.1 = 0 ∧ (pc24 S < pc24 f.2.2 ∨ (pc24 S = pc24 f.2.2 ∧ (iN p = f.2.1 → f.2.2 ≤ S))))
theorem noI_same {t l p : Nat} (ht2 : t ≤ 100) {S : Int32} {f : fnd} (h : noI t p S f) : tkR t l p S f = f := by
  have hS := pc24_le S
  have hv := pc24_le f.2.2
  unfold tkR
  refine if_neg ?_
  rintro ⟨h1, h2⟩
  rw [iN_lt (by omega) (by omega)] at h1
  rcases h with h | ⟨h3, h4⟩
  · omega
  · rcases h2 with h2 | h2 | ⟨h5, h6, h7⟩
    · exact h3 h2
    · rw [iN_lt (by omega) (by omega)] at h2
      rcases h4 with h4 | h4 <;> omega
    · rw [iN_inj (by omega) (by omega)] at h5
      rcases h4 with h4 | h4
      · omega
      · exact h7 (h4.2 h6)
theorem noI_self {t l p : Nat} (ht2 : t ≤ 100) (hl : 1 ≤ l) (hl2 : l ≤ 12) {S : Int32} {f : fnd} : noI t p S (tkR t l p S f) := by
  have hS := pc24_le S
  have hv := pc24_le f.2.2
  have hl0 : ¬ iN l = 0 := by
    intro e
    have := (iN_inj (a := l) (b := 0) (by omega) (by omega)).mp e
    omega
  unfold tkR
  split
  · exact Or.inr ⟨hl0, Or.inr ⟨rfl, fun _ => Int32.le_refl _⟩⟩
  · rename_i h
    by_cases c1 : pc24 S < t
    · exact Or.inl c1
    · have c2 : ¬ iN (pc24 S) < iN t := by
        rw [iN_lt (by omega) (by omega)]
        exact c1
      refine Or.inr ⟨fun e => h ⟨c2, Or.inl e⟩, ?_⟩
      have c3 : ¬ pc24 f.2.2 < pc24 S := fun e => h ⟨c2, Or.inr (Or.inl (by rw [iN_lt (by omega) (by omega)]; exact e))⟩
      by_cases c4 : pc24 S = pc24 f.2.2
      · refine Or.inr ⟨c4, fun e => ?_⟩
        by_cases c5 : f.2.2 ≤ S
        · exact c5
        · exact absurd ⟨c2, Or.inr (Or.inr ⟨by rw [c4], e, c5⟩)⟩ h
      · exact Or.inl (by omega)
theorem noI_keep {t l p : Nat} (ht2 : t ≤ 100) (hl : 1 ≤ l) (hl2 : l ≤ 12) {S S2 : Int32} {f : fnd} (h : noI t p S f) : noI t p S (tkR t l p S2 f) := by
  have hS := pc24_le S
  have hS2 := pc24_le S2
  have hv := pc24_le f.2.2
  have hl0 : ¬ iN l = 0 := by
    intro e
    have := (iN_inj (a := l) (b := 0) (by omega) (by omega)).mp e
    omega
  unfold tkR
  split
  · rename_i h2
    obtain ⟨h3, h4⟩ := h2
    rcases h with h | ⟨h5, h6⟩
    · exact Or.inl h
    · refine Or.inr ⟨hl0, ?_⟩
      show pc24 S < pc24 S2 ∨ (pc24 S = pc24 S2 ∧ (iN p = iN p → S2 ≤ S))
      rcases h4 with h4 | h4 | ⟨h7, h8, h9⟩
      · exact absurd h4 h5
      · rw [iN_lt (by omega) (by omega)] at h4
        rcases h6 with h6 | h6
        · exact Or.inl (by omega)
        · exact Or.inl (by omega)
      · rw [iN_inj (by omega) (by omega)] at h7
        rcases h6 with h6 | ⟨h6, h10⟩
        · exact Or.inl (by omega)
        · refine Or.inr ⟨by omega, fun _ => ?_⟩
          have h11 := h10 h8
          rw [Int32.le_iff_toInt_le] at h11 h9 ⊢
          omega
  · exact h
