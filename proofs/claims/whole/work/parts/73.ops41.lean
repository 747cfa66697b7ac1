/-! LEVEL 2: both strings: one start -/
theorem alB_symm {N : Nat → Int32} {y c d p l : Nat} (h : alB N y c d p l = true) : alB N y d c p l = true := by
  rw [alB_iff] at h ⊢
  exact fun r a b => (h r a b).symm
theorem alB_trans {N : Nat → Int32} {y c d e p l : Nat} (h : alB N y c d p l = true) (h2 : alB N y d e p l = true) : alB N y c e p l = true := by
  rw [alB_iff] at h h2 ⊢
  exact fun r a b => (h2 r a b).trans (h r a b)
theorem fuB_alike {N : Nat → Int32} {y c d p l : Nat} (h : alB N y c d p l = true) (hf : fuB N y c p l = true) : fuB N y d p l = true := by
  rw [alB_iff] at h
  rw [fuB_iff] at hf ⊢
  exact fun r a b => by rw [h r a b]; exact hf r a b
theorem lkS_alike {N : Nat → Int32} {x : Int32} {y c d p l m : Nat} (hm : m ≤ 24) (h : alB N y c d p l = true) : lkS N x y c p l m = lkS N x y d p l m := by
  refine bt_ext fun k _ => ?_
  rw [bt_lkS m hm, bt_lkS m hm]
  congr 1
  apply propext
  constructor
  · exact fun a => ⟨a.1, a.2.1, alB_trans (alB_symm h) a.2.2⟩
  · exact fun a => ⟨a.1, a.2.1, alB_trans h a.2.2⟩
theorem one_start {N : Nat → Int32} {x : Int32} {y m t l p : Nat} (hm : m ≤ 24) (ht : 1 ≤ t) (ht2 : t ≤ 100) (hl : 1 ≤ l) (hl2 : l ≤ 12) {a b : Int32} {f : fnd} {g : fnC} (h : rel t l a b f g) : ∀ c, c ≤ m → rel t l a b (rfC N x y m t l p f c) (cfS N x y m t l p g c).1 ∧ (∀ k, bt (cfS N x y m t l p g c).2 k = true → ∃ e, e < c ∧ inR N x y e ∧ fuB N y e p l = true ∧ alB N y e k p l = true) ∧ (∀ e, e < c → inR N x y e → fuB N y e p l = true → noI t p (lkS N x y e p l m) (rfC N x y m t l p f c) ∧ ∀ k, k < m → inR N x y k → e ≤ k → alB N y e k p l = true → bt (cfS N x y m t l p g c).2 k = true)
  | 0, _ => by
    refine ⟨h, fun k hk => ?_, fun e he => by omega⟩
    have hk : bt (0 : Int32) k = true := hk
    rw [bt_zero] at hk
    cases hk
  | c + 1, hc => by
    obtain ⟨h1, h2, h3⟩ := one_start hm ht ht2 hl hl2 h c (by omega) (N := N) (x := x) (y := y) (p := p)
    have eF : rfC N x y m t l p f (c + 1) = if inR N x y c ∧ fuB N y c p l = true then tkR t l p (lkS N x y c p l m) (rfC N x y m t l p f c) else rfC N x y m t l p f c := rfl
    have eG : cfS N x y m t l p g (c + 1) = if inR N x y c ∧ ¬ bt (cfS N x y m t l p g c).2 c = true ∧ fuB N y c p l = true then (tkC t p (alS N x y c p l m) (cfS N x y m t l p g c).1, (cfS N x y m t l p g c).2 ||| alS N x y c p l m) else cfS N x y m t l p g c := rfl
    rw [eF, eG]
    generalize rfC N x y m t l p f c = F at *
    generalize cfS N x y m t l p g c = G at *
    by_cases c1 : inR N x y c ∧ fuB N y c p l = true
    · rw [if_pos c1]
      by_cases c2 : bt G.2 c = true
      · obtain ⟨e, he, hei, hef, hea⟩ := h2 c c2
        have hL := lkS_alike (x := x) hm hea
        have hn := (h3 e he hei hef).1
        rw [hL] at hn
        rw [noI_same ht2 hn, if_neg (fun h => h.2.1 c2)]
        refine ⟨h1, fun k hk => ?_, fun e' he' hi' hf' => ?_⟩
        · obtain ⟨e2, q1, q2⟩ := h2 k hk
          exact ⟨e2, by omega, q2⟩
        · by_cases e9 : e' = c
          · subst e9
            refine ⟨hn, fun k hk hki hek hal => ?_⟩
            exact (h3 e he hei hef).2 k hk hki (by omega) (alB_trans hea hal)
          · exact h3 e' (by omega) hi' hf'
      · have hS : alS N x y c p l m = lkS N x y c p l m := by
          refine bt_ext fun k _ => ?_
          rw [bt_alS m hm, bt_lkS m hm]
          congr 1
          apply propext
          constructor
          · exact fun q => ⟨q.1, q.2.1, q.2.2.2⟩
          · rintro ⟨q1, q2, q3⟩
            refine ⟨q1, q2, ?_, q3⟩
            by_cases c9 : k < c
            · exact absurd ((h3 k c9 q2 (fuB_alike q3 c1.2)).2 c (by omega) c1.1 (by omega) (alB_symm q3)) c2
            · omega
        rw [if_pos (show inR N x y c ∧ ¬ bt G.2 c = true ∧ fuB N y c p l = true from ⟨c1.1, c2, c1.2⟩), hS]
        refine ⟨rel_take ht ht2 hl hl2 h1 p _, fun k hk => ?_, fun e' he' hi' hf' => ?_⟩
        · have hk : bt (G.2 ||| lkS N x y c p l m) k = true := hk
          rw [bt_or, Bool.or_eq_true] at hk
          rcases hk with hk | hk
          · obtain ⟨e2, q1, q2⟩ := h2 k hk
            exact ⟨e2, by omega, q2⟩
          · rw [bt_lkS m hm, decide_eq_true_eq] at hk
            exact ⟨c, by omega, c1.1, c1.2, hk.2.2⟩
        · by_cases e9 : e' = c
          · subst e9
            refine ⟨noI_self ht2 hl hl2, fun k hk hki hek hal => ?_⟩
            show bt (G.2 ||| lkS N x y e' p l m) k = true
            rw [bt_or, bt_lkS m hm, decide_eq_true ⟨hk, hki, hal⟩, Bool.or_true]
          · obtain ⟨q1, q2⟩ := h3 e' (by omega) hi' hf'
            refine ⟨noI_keep ht2 hl hl2 q1, fun k hk hki hek hal => ?_⟩
            show bt (G.2 ||| lkS N x y c p l m) k = true
            rw [bt_or, q2 k hk hki hek hal, Bool.true_or]
    · rw [if_neg c1, if_neg (fun h => c1 ⟨h.1, h.2.2⟩)]
      refine ⟨h1, fun k hk => ?_, fun e' he' hi' hf' => ?_⟩
      · obtain ⟨e2, q1, q2⟩ := h2 k hk
        exact ⟨e2, by omega, q2⟩
      · by_cases e9 : e' = c
        · subst e9
          exact absurd ⟨hi', hf'⟩ c1
        · exact h3 e' (by omega) hi' hf'
theorem all_starts {N : Nat → Int32} {x : Int32} {y m t l : Nat} (hm : m ≤ 24) (ht : 1 ≤ t) (ht2 : t ≤ 100) (hl : 1 ≤ l) (hl2 : l ≤ 12) {a b : Int32} {f : fnd} {g : fnC} (h : rel t l a b f g) : ∀ p, rel t l a b (rfP N x y m t l f p) (cfP N x y m t l g p)
  | 0 => h
  | p + 1 => (one_start hm ht ht2 hl hl2 (all_starts hm ht ht2 hl hl2 h p) m (Nat.le_refl _)).1
