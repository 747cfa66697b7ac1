/-! LEVEL 2: both strings: lengths -/
def okG (N : Nat → Int32) (x : Int32) (y m t l p c : Nat) : Prop := inR N x y c ∧ fuB N y c p l = true ∧ t ≤ pc24 (lkS N x y c p l m)
def fou (N : Nat → Int32) (x : Int32) (y m t l : Nat) : Prop := ∃ p, p < 13 - l ∧ ∃ c, c < m ∧ okG N x y m t l p c
theorem cN_imp {p q : Nat → Prop} [DecidablePred p] [DecidablePred q] : ∀ n, (∀ j, j < n → p j → q j) → cN p n ≤ cN q n
  | 0, _ => Nat.le_refl _
  | n + 1, h => by
    show cN p n + (if p n then 1 else 0) ≤ cN q n + (if q n then 1 else 0)
    have ih := cN_imp n (fun j hj => h j (by omega))
    by_cases c : p n
    · rw [if_pos c, if_pos (h n (by omega) c)]
      omega
    · rw [if_neg c]
      split <;> omega
theorem fou_less {N : Nat → Int32} {x : Int32} {y m t l : Nat} (hm : m ≤ 24) (h : fou N x y m t (l + 1)) : fou N x y m t l := by
  obtain ⟨p, hp, c, hc, h1, h2, h3⟩ := h
  refine ⟨p, by omega, c, hc, h1, ?_, ?_⟩
  · rw [fuB_iff] at h2 ⊢
    exact fun r a b => h2 r a (by omega)
  · refine Nat.le_trans h3 ?_
    unfold pc24
    refine cN_imp 24 fun k _ hk => ?_
    rw [bt_lkS m hm, decide_eq_true_eq] at hk ⊢
    refine ⟨hk.1, hk.2.1, ?_⟩
    have := hk.2.2
    rw [alB_iff] at this ⊢
    exact fun r a b => this r a (by omega)
theorem tkR_ne {t l p : Nat} (hl : 1 ≤ l) (hl2 : l ≤ 12) {S : Int32} {f : fnd} (h : ¬ f.1 = 0) : ¬ (tkR t l p S f).1 = 0 := by
  unfold tkR
  split
  · show ¬ iN l = 0
    intro e
    have := (iN_inj (a := l) (b := 0) (by omega) (by omega)).mp e
    omega
  · exact h
theorem rfC_ne {N : Nat → Int32} {x : Int32} {y m t l p : Nat} (hl : 1 ≤ l) (hl2 : l ≤ 12) {f : fnd} {c : Nat} (h : ¬ (rfC N x y m t l p f c).1 = 0) : ∀ j, ¬ (rfC N x y m t l p f (c + j)).1 = 0
  | 0 => h
  | j + 1 => by
    show ¬ (if inR N x y (c + j) ∧ fuB N y (c + j) p l = true then tkR t l p (lkS N x y (c + j) p l m) (rfC N x y m t l p f (c + j)) else rfC N x y m t l p f (c + j)).1 = 0
    split
    · exact tkR_ne hl hl2 (rfC_ne hl hl2 h j)
    · exact rfC_ne hl hl2 h j
theorem rfP_ne {N : Nat → Int32} {x : Int32} {y m t l : Nat} (hl : 1 ≤ l) (hl2 : l ≤ 12) {f : fnd} {p : Nat} (h : ¬ (rfP N x y m t l f p).1 = 0) : ∀ j, ¬ (rfP N x y m t l f (p + j)).1 = 0
  | 0 => h
  | j + 1 => by
    show ¬ (rfC N x y m t l (p + j) (rfP N x y m t l f (p + j)) m).1 = 0
    have := rfC_ne (N := N) (x := x) (y := y) (m := m) (t := t) (p := p + j) hl hl2 (f := rfP N x y m t l f (p + j)) (c := 0) (rfP_ne hl hl2 h j) m
    rw [Nat.zero_add] at this
    exact this
theorem rfP_found {N : Nat → Int32} {x : Int32} {y m t l : Nat} (ht2 : t ≤ 100) (hl : 1 ≤ l) (hl2 : l ≤ 12) (f : fnd) (h : fou N x y m t l) : ¬ (rfP N x y m t l f (13 - l)).1 = 0 := by
  obtain ⟨p, hp, c, hc, h1, h2, h3⟩ := h
  have hst : ¬ (rfC N x y m t l p (rfP N x y m t l f p) (c + 1)).1 = 0 := by
    show ¬ (if inR N x y c ∧ fuB N y c p l = true then tkR t l p (lkS N x y c p l m) (rfC N x y m t l p (rfP N x y m t l f p) c) else rfC N x y m t l p (rfP N x y m t l f p) c).1 = 0
    rw [if_pos (show inR N x y c ∧ fuB N y c p l = true from ⟨h1, h2⟩)]
    rcases noI_self (t := t) (l := l) (p := p) ht2 hl hl2 (S := lkS N x y c p l m) (f := rfC N x y m t l p (rfP N x y m t l f p) c) with q | q
    · omega
    · exact q.1
  have h4 := rfC_ne hl hl2 hst (m - (c + 1))
  rw [show c + 1 + (m - (c + 1)) = m by omega] at h4
  have h5 := rfP_ne (N := N) (x := x) (y := y) (m := m) (t := t) hl hl2 (f := f) (p := p + 1) h4 (13 - l - (p + 1))
  rw [show p + 1 + (13 - l - (p + 1)) = 13 - l by omega] at h5
  exact h5
theorem rfP_none {N : Nat → Int32} {x : Int32} {y m t l : Nat} (ht2 : t ≤ 100) (f : fnd) (h : ¬ fou N x y m t l) : ∀ p, p ≤ 13 - l → rfP N x y m t l f p = f
  | 0, _ => rfl
  | p + 1, hp => by
    show rfC N x y m t l p (rfP N x y m t l f p) m = f
    rw [rfP_none ht2 f h p (by omega)]
    have key : ∀ c, c ≤ m → rfC N x y m t l p f c = f := by
      intro c
      induction c with
      | zero => exact fun _ => rfl
      | succ c ih =>
        intro hc
        show (if inR N x y c ∧ fuB N y c p l = true then tkR t l p (lkS N x y c p l m) (rfC N x y m t l p f c) else rfC N x y m t l p f c) = f
        rw [ih (by omega)]
        split
        · rename_i hh
          refine noI_same ht2 (Or.inl ?_)
          by_cases c9 : t ≤ pc24 (lkS N x y c p l m)
          · exact absurd ⟨p, by omega, c, by omega, hh.1, hh.2, c9⟩ h
          · omega
        · rfl
    exact key m (Nat.le_refl _)
