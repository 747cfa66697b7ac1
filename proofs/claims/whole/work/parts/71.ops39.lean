/-! LEVEL 2: both strings: one taking -/
def rel (t l : Nat) (a b : Int32) (f : fnd) (g : fnC) : Prop := (f = (0, -1, 0) ∧ g = (a, b, iN t - 1)) ∨ (f = (iN l, g.1, g.2.1) ∧ g.2.2 = iN (pc24 g.2.1) ∧ t ≤ pc24 g.2.1)
theorem rel_take {t l : Nat} (ht : 1 ≤ t) (ht2 : t ≤ 100) (hl : 1 ≤ l) (hl2 : l ≤ 12) {a b : Int32} {f : fnd} {g : fnC} (h : rel t l a b f g) (p : Nat) (S : Int32) : rel t l a b (tkR t l p S f) (tkC t p S g) := by
  have hS := pc24_le S
  rcases h with ⟨rfl, rfl⟩ | ⟨hf, hg, hge⟩
  · unfold tkR tkC
    show rel t l a b (if ¬ iN (pc24 S) < iN t ∧ ((0 : Int32) = 0 ∨ _) then _ else _) (if iN t - 1 < iN (pc24 S) ∨ _ then _ else _)
    rw [iN_sub1 ht]
    by_cases c1 : iN (pc24 S) < iN t
    · have c2 : ¬ iN (t - 1) < iN (pc24 S) := by
        rw [iN_lt (by omega) (by omega)] at c1 ⊢
        omega
      rw [if_neg (fun h => h.1 c1), if_neg (fun h => h.elim c2 (fun h => h.1 c1))]
      exact Or.inl ⟨rfl, by rw [iN_sub1 ht]⟩
    · have c2 : iN (t - 1) < iN (pc24 S) := by
        rw [iN_lt (by omega) (by omega)] at c1 ⊢
        omega
      rw [if_pos ⟨c1, Or.inl rfl⟩, if_pos (Or.inl c2)]
      refine Or.inr ⟨rfl, rfl, ?_⟩
      show t ≤ pc24 S
      rw [iN_lt (by omega) (by omega)] at c1
      omega
  · obtain ⟨u, v, w⟩ := g
    have hw : w = iN (pc24 v) := hg
    have hge : t ≤ pc24 v := hge
    have hv := pc24_le v
    subst hw
    subst hf
    have hl0 : ¬ iN l = 0 := by
      intro e
      have := (iN_inj (a := l) (b := 0) (by omega) (by omega)).mp e
      omega
    unfold tkR tkC
    show rel t l a b (if ¬ iN (pc24 S) < iN t ∧ (iN l = 0 ∨ iN (pc24 v) < iN (pc24 S) ∨ (iN (pc24 S) = iN (pc24 v) ∧ iN p = u ∧ ¬ v ≤ S)) then (iN l, iN p, S) else (iN l, u, v)) (if iN (pc24 v) < iN (pc24 S) ∨ (¬ iN (pc24 S) < iN t ∧ iN (pc24 S) = iN (pc24 v) ∧ iN p = u ∧ ¬ v ≤ S) then (iN p, S, iN (pc24 S)) else (u, v, iN (pc24 v)))
    by_cases c1 : iN (pc24 v) < iN (pc24 S)
    · have c2 : ¬ iN (pc24 S) < iN t := by
        rw [iN_lt (by omega) (by omega)] at c1 ⊢
        omega
      rw [if_pos ⟨c2, Or.inr (Or.inl c1)⟩, if_pos (Or.inl c1)]
      refine Or.inr ⟨rfl, rfl, ?_⟩
      show t ≤ pc24 S
      rw [iN_lt (by omega) (by omega)] at c2
      omega
    · by_cases c3 : ¬ iN (pc24 S) < iN t ∧ iN (pc24 S) = iN (pc24 v) ∧ iN p = u ∧ ¬ v ≤ S
      · rw [if_pos ⟨c3.1, Or.inr (Or.inr c3.2)⟩, if_pos (Or.inr c3)]
        refine Or.inr ⟨rfl, rfl, ?_⟩
        show t ≤ pc24 S
        have c2 := c3.1
        rw [iN_lt (by omega) (by omega)] at c2
        omega
      · rw [if_neg (fun h => h.2.elim hl0 (fun h2 => h2.elim c1 (fun h3 => c3 ⟨h.1, h3⟩))), if_neg (fun h => h.elim c1 c3)]
        exact Or.inr ⟨rfl, rfl, hge⟩
