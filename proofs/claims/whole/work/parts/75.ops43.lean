/-! LEVEL 2: both strings are the same -/
theorem cfL_succ (N : Nat → Int32) (x : Int32) (y m t : Nat) (f : fnC) (j : Nat) : cfL N x y m t f (j + 1) = if (cfL N x y m t f j).1 = true then (if iN t ≤ (cfT N x y m t (j + 1) (cfL N x y m t f j).2.2).2.2 then (true, iN (j + 1), cfT N x y m t (j + 1) (cfL N x y m t f j).2.2) else (false, (cfL N x y m t f j).2.1, cfT N x y m t (j + 1) (cfL N x y m t f j).2.2)) else cfL N x y m t f j := rfl
theorem cfT_found {N : Nat → Int32} {x : Int32} {y m t l : Nat} (hm : m ≤ 24) (ht : 1 ≤ t) (ht2 : t ≤ 100) (hl : 1 ≤ l) (hl2 : l ≤ 12) (f : fnC) (h : fou N x y m t l) : rfP N x y m t l (0, -1, 0) (13 - l) = (iN l, (cfT N x y m t l f).1, (cfT N x y m t l f).2.1) ∧ iN t ≤ (cfT N x y m t l f).2.2 := by
  have h1 := all_starts (N := N) (x := x) (y := y) hm ht ht2 hl hl2 (a := f.1) (b := f.2.1) (f := (0, -1, 0)) (g := (f.1, f.2.1, iN t - 1)) (Or.inl ⟨rfl, rfl⟩) (13 - l)
  have h2 := rfP_found ht2 hl hl2 (0, -1, 0) h
  rcases h1 with ⟨h3, -⟩ | ⟨h3, h4, h5⟩
  · rw [h3] at h2
    exact absurd rfl h2
  · refine ⟨h3, ?_⟩
    show iN t ≤ (cfP N x y m t l (f.1, f.2.1, iN t - 1) (13 - l)).2.2
    have := pc24_le (cfP N x y m t l (f.1, f.2.1, iN t - 1) (13 - l)).2.1
    rw [h4, iN_le (by omega) (by omega)]
    exact h5
theorem cfT_none {N : Nat → Int32} {x : Int32} {y m t l : Nat} (hm : m ≤ 24) (ht : 1 ≤ t) (ht2 : t ≤ 100) (hl : 1 ≤ l) (hl2 : l ≤ 12) (f : fnC) (h : ¬ fou N x y m t l) : cfT N x y m t l f = (f.1, f.2.1, iN t - 1) := by
  have h1 := all_starts (N := N) (x := x) (y := y) hm ht ht2 hl hl2 (a := f.1) (b := f.2.1) (f := (0, -1, 0)) (g := (f.1, f.2.1, iN t - 1)) (Or.inl ⟨rfl, rfl⟩) (13 - l)
  have h2 := rfP_none ht2 (0, -1, 0) h (13 - l) (Nat.le_refl _)
  rcases h1 with ⟨-, h3⟩ | ⟨h3, -⟩
  · exact h3
  · rw [h2] at h3
    have h4 : (0 : Int32) = iN l := congrArg Prod.fst h3
    have := (iN_inj (a := 0) (b := l) (by omega) (by omega)).mp h4
    omega
theorem cfL_up {N : Nat → Int32} {x : Int32} {y m t L : Nat} (hm : m ≤ 24) (ht : 1 ≤ t) (ht2 : t ≤ 100) (hL : L ≤ 12) (hf : ∀ l, 1 ≤ l → l ≤ L → fou N x y m t l) (f : fnC) : ∀ j, j ≤ L → ∃ g : fnC, cfL N x y m t f j = (true, iN j, g) ∧ ((j = 0 ∧ g = f) ∨ (1 ≤ j ∧ rfP N x y m t j (0, -1, 0) (13 - j) = (iN j, g.1, g.2.1)))
  | 0, _ => ⟨f, rfl, Or.inl ⟨rfl, rfl⟩⟩
  | j + 1, hj => by
    obtain ⟨g, h1, -⟩ := cfL_up hm ht ht2 hL hf f j (by omega)
    obtain ⟨h2, h3⟩ := cfT_found hm ht ht2 (l := j + 1) (by omega) (by omega) g (hf (j + 1) (by omega) hj)
    refine ⟨cfT N x y m t (j + 1) g, ?_, Or.inr ⟨by omega, h2⟩⟩
    rw [cfL_succ, h1, if_pos rfl, if_pos h3]
theorem rfL_succ (N : Nat → Int32) (x : Int32) (y m t : Nat) (f : fnd) (j : Nat) : rfL N x y m t f (j + 1) = if (rfL N x y m t f j).1 = 0 then rfP N x y m t (12 - j) (rfL N x y m t f j) (j + 1) else rfL N x y m t f j := rfl
theorem rfL_down {N : Nat → Int32} {x : Int32} {y m t L : Nat} (ht2 : t ≤ 100) (hn : ∀ l, L < l → l ≤ 12 → ¬ fou N x y m t l) : ∀ j, j + L ≤ 12 → rfL N x y m t (0, -1, 0) j = (0, -1, 0)
  | 0, _ => rfl
  | j + 1, hj => by
    rw [rfL_succ, rfL_down ht2 hn j (by omega), if_pos rfl]
    exact rfP_none ht2 _ (hn (12 - j) (by omega) (by omega)) (j + 1) (by omega)
theorem rfL_stay {N : Nat → Int32} {x : Int32} {y m t : Nat} {f : fnd} {j : Nat} (h : ¬ (rfL N x y m t f j).1 = 0) : ∀ i, rfL N x y m t f (j + i) = rfL N x y m t f j
  | 0 => rfl
  | i + 1 => by
    rw [show j + (i + 1) = j + i + 1 from rfl, rfL_succ, rfL_stay h i, if_neg h]
theorem cut_at {p : Nat → Prop} (h : ∀ l, p (l + 1) → p l) : ∀ n, ∃ L, L ≤ n ∧ (∀ l, 1 ≤ l → l ≤ L → p l) ∧ (∀ l, L < l → l ≤ n → ¬ p l)
  | 0 => ⟨0, Nat.le_refl _, fun l a b => by omega, fun l a b => by omega⟩
  | n + 1 => by
    obtain ⟨L, h1, h2, h3⟩ := cut_at h n
    by_cases c : p (n + 1)
    · have key : ∀ j, j ≤ n + 1 → p (n + 1 - j) := by
        intro j
        induction j with
        | zero => exact fun _ => c
        | succ j ih =>
          intro hj
          refine h _ ?_
          rw [show n + 1 - (j + 1) + 1 = n + 1 - j by omega]
          exact ih (by omega)
      refine ⟨n + 1, Nat.le_refl _, fun l a b => ?_, fun l a b => by omega⟩
      have := key (n + 1 - l) (by omega)
      rw [show n + 1 - (n + 1 - l) = l by omega] at this
      exact this
    · refine ⟨L, by omega, h2, fun l a b => ?_⟩
      by_cases e : l = n + 1
      · rw [e]
        exact c
      · exact h3 l a (by omega)
theorem str_same {N : Nat → Int32} {x : Int32} {y m t : Nat} (hm : m ≤ 24) (ht : 1 ≤ t) (ht2 : t ≤ 100) (z : Int32) : rfL N x y m t (0, -1, 0) 12 = ((cfL N x y m t (-1, 0, z) 12).2.1, (cfL N x y m t (-1, 0, z) 12).2.2.1, (cfL N x y m t (-1, 0, z) 12).2.2.2.1) := by
  obtain ⟨L, hL, hup, hdn⟩ := cut_at (p := fun l => fou N x y m t l) (fun l h => fou_less hm h) 12
  obtain ⟨g, h1, h2⟩ := cfL_up hm ht ht2 hL hup (-1, 0, z) L (Nat.le_refl _)
  have hd := rfL_down ht2 hdn (12 - L) (by omega)
  have hC : (cfL N x y m t (-1, 0, z) 12).2.1 = iN L ∧ (cfL N x y m t (-1, 0, z) 12).2.2.1 = g.1 ∧ (cfL N x y m t (-1, 0, z) 12).2.2.2.1 = g.2.1 := by
    by_cases e : L = 12
    · subst e
      rw [h1]
      exact ⟨rfl, rfl, rfl⟩
    · have e1 : cfL N x y m t (-1, 0, z) (L + 1) = (false, iN L, (g.1, g.2.1, iN t - 1)) := by
        rw [cfL_succ, h1, if_pos rfl]
        show (if iN t ≤ (cfT N x y m t (L + 1) g).2.2 then _ else _) = _
        rw [cfT_none hm ht ht2 (by omega) (by omega) g (hdn (L + 1) (by omega) (by omega)), if_neg]
        show ¬ iN t ≤ iN t - 1
        rw [iN_sub1 ht, iN_le (by omega) (by omega)]
        omega
      have e2 := cfL_stop (N := N) (x := x) (y := y) (m := m) (t := t) (f := (-1, 0, z)) (j := L + 1) (by rw [e1]) (12 - (L + 1))
      rw [show L + 1 + (12 - (L + 1)) = 12 by omega, e1] at e2
      rw [e2]
      exact ⟨rfl, rfl, rfl⟩
  rw [hC.1, hC.2.1, hC.2.2]
  rcases h2 with ⟨h2, h3⟩ | ⟨h2, h3⟩
  · subst h2
    rw [h3]
    exact hd
  · have e1 : rfL N x y m t (0, -1, 0) (12 - L + 1) = (iN L, g.1, g.2.1) := by
      rw [rfL_succ, hd, if_pos rfl, show 12 - (12 - L) = L by omega, show 12 - L + 1 = 13 - L by omega]
      exact h3
    have e2 := rfL_stay (N := N) (x := x) (y := y) (m := m) (t := t) (f := (0, -1, 0)) (j := 12 - L + 1) (by
      rw [e1]
      show ¬ iN L = 0
      intro e
      have := (iN_inj (a := L) (b := 0) (by omega) (by omega)).mp e
      omega) (L - 1)
    rw [show 12 - L + 1 + (L - 1) = 12 by omega, e1] at e2
    exact e2
