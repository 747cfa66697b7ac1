/-! LEVEL 2: what a call may change -/
section KEEP
variable {W : ruWy} {g g2 : Nat → Nat → Int32} {b : Nat} {N N2 : Nat → Int32}
theorem cn_congr {i : Nat} (h : N2 i = N i) : cn N2 i = cn N i := by
  unfold cn
  rw [h]
theorem CBn.congr (h : CBn g b N) (e : g2 (b + 1) = g (b + 1) ∧ g2 (b + 13) = g (b + 13) ∧ g2 (b + 22) = g (b + 22) ∧ g2 (b + 28) = g (b + 28)) (eN : ∀ i, i < 6 → N2 i = N i) : CBn g2 b N2 := by
  unfold CBn at h ⊢
  rw [e.1, e.2.1, e.2.2.1, e.2.2.2, eN 0 (by omega), eN 1 (by omega), eN 2 (by omega), eN 3 (by omega), eN 4 (by omega), eN 5 (by omega), cn_congr (eN 0 (by omega)), cn_congr (eN 1 (by omega)), cn_congr (eN 2 (by omega)), cn_congr (eN 3 (by omega)), cn_congr (eN 4 (by omega)), cn_congr (eN 5 (by omega))]
  exact h
theorem CBq.congr (h : CBq g b N) (e : g2 (b + 2) = g (b + 2) ∧ g2 (b + 3) = g (b + 3)) (eN : ∀ i, 8 ≤ i → i < 32 → N2 i = N i) : CBq g2 b N2 := by
  intro q hq
  rw [e.1, e.2, eN (8 + q) (by omega) (by omega), eN (20 + q) (by omega) (by omega)]
  exact h q hq
theorem CBc.congr (h : CBc g b N) (e : g2 (b + 4) = g (b + 4) ∧ g2 (b + 5) = g (b + 5) ∧ g2 (b + 6) = g (b + 6) ∧ g2 (b + 7) = g (b + 7)) (e2 : N2 2 = N 2) (eN : ∀ i, 32 ≤ i → i < 128 → N2 i = N i) : CBc g2 b N2 := by
  intro c hc
  rw [e.1, e.2.1, e.2.2.1, e.2.2.2, cn_congr e2, eN (32 + 4 * c) (by omega) (by omega), eN (33 + 4 * c) (by omega) (by omega), eN (34 + 4 * c) (by omega) (by omega), eN (35 + 4 * c) (by omega) (by omega)]
  exact h c hc
theorem CBs.congr (h : CBs g b N) (e : g2 (b + 9) = g (b + 9)) (e2 : N2 2 = N 2) (eN : ∀ s, s < 144 → N2 (128 + 28 * s) = N (128 + 28 * s)) : CBs g2 b N2 := by
  intro s hs
  rw [e, cn_congr e2, eN s hs]
  exact h s hs
theorem CBb.congr (h : CBb g b N) (e : g2 (b + 10) = g (b + 10) ∧ g2 (b + 11) = g (b + 11)) (eN : ∀ s, s < 144 → ∀ j, j < 24 → N2 (129 + 28 * s + j) = N (129 + 28 * s + j)) : CBb g2 b N2 := by
  intro s hs q hq
  have e1 : 141 + 28 * s + q = 129 + 28 * s + (12 + q) := by omega
  have h1 := h s hs q hq
  rw [e1] at h1 ⊢
  rw [e.1, e.2, eN s hs q (by omega), eN s hs (12 + q) (by omega)]
  exact h1
theorem CBr.congr (h : CBr g b N) (e : g2 (b + 12) = g (b + 12)) (eN : ∀ s, s < 144 → ∀ k, k < 3 → N2 (153 + 28 * s + k) = N (153 + 28 * s + k)) : CBr g2 b N2 := by
  intro s hs k hk
  rw [e, eN s hs k hk]
  exact h s hs k hk
theorem CBh.congr (h : CBh g b N) (e : g2 (b + 23) = g (b + 23) ∧ g2 (b + 24) = g (b + 24) ∧ g2 (b + 25) = g (b + 25) ∧ g2 (b + 26) = g (b + 26)) (e2 : N2 4 = N 4) (hn : cn N 4 ≤ 30) (eN : ∀ i, 4784 ≤ i → i < 4904 → N2 i = N i) : CBh g2 b N2 := by
  intro c hc
  rw [cn_congr e2] at hc
  rw [e.1, e.2.1, e.2.2.1, e.2.2.2, eN (4784 + 4 * c) (by omega) (by omega), eN (4785 + 4 * c) (by omega) (by omega), eN (4786 + 4 * c) (by omega) (by omega), eN (4787 + 4 * c) (by omega) (by omega)]
  exact h c hc
theorem CBf.congr (h : CBf g b N) (e : g2 (b + 29) = g (b + 29) ∧ g2 (b + 30) = g (b + 30)) (e2 : N2 5 = N 5) (hn : cn N 5 ≤ 8) (eN : ∀ i, 4904 ≤ i → i < 4920 → N2 i = N i) : CBf g2 b N2 := by
  intro c hc
  rw [cn_congr e2] at hc
  rw [e.1, e.2, eN (4904 + 2 * c) (by omega) (by omega), eN (4905 + 2 * c) (by omega) (by omega)]
  exact h c hc
theorem CBw.congr (h : CBw W g b N) (e : ∀ k, b + 15 ≤ k → k ≤ b + 21 → g2 k = g k) (e2 : N2 3 = N 3) (hn : cn N 3 ≤ 6) (eN : ∀ i, 4160 ≤ i → i < 4784 → N2 i = N i) : CBw W g2 b N2 := by
  intro w hw
  rw [cn_congr e2] at hw
  rw [e (b + 15 + w) (by omega) (by omega), e (b + 21) (by omega) (by omega)]
  have e3 : cutF 104 (fun i => N2 (4160 + 104 * w + i)) = cutF 104 (fun i => N (4160 + 104 * w + i)) := cutF_congr fun i hi => eN _ (by omega) (by omega)
  rw [e3]
  exact h w hw
end KEEP
/-- a cell that no part of the invariant but the book that is open looks at, and that one doesn't either, stays -/
def KeepN (A A2 : ruA) : Prop := (∀ k, (33 ≤ k ∧ k ≤ 62 ∧ k ≠ 59) ∨ k = 72 ∨ (74 ≤ k ∧ k ≤ 82) ∨ (85 ≤ k ∧ k ≤ 90) → A2.1 k = A.1 k) ∧ (A2.1 0 2 = A.1 0 2 ∧ A2.1 0 9 = A.1 0 9 ∧ A2.1 0 12 = A.1 0 12) ∧ (A2.1 83 2 = A.1 83 2 ∧ A2.1 83 3 = A.1 83 3 ∧ A2.1 83 6 = A.1 83 6)
def KeepB (A A2 : ruA) : Prop := (∀ k, 1 ≤ k ∧ k ≤ 31 ∧ k ≠ 28 → A2.1 k = A.1 k) ∧ A2.1 84 = A.1 84
theorem CB.congr2 {W : ruWy} {g g2 : Nat → Nat → Int32} {b : Nat} {N : Nat → Int32} (h : CB W g b N) (e : ∀ k, b + 1 ≤ k → k ≤ b + 30 → k ≠ b + 27 → g2 k = g k) : CB W g2 b N := by
  obtain ⟨h1, h2, h3, h4, h5, h6, h7, h8, h9⟩ := h
  have e2 : ∀ k, 1 ≤ k → k ≤ 30 → k ≠ 27 → g2 (b + k) = g (b + k) := fun k h1 h2 h3 => e (b + k) (by omega) (by omega) (by omega)
  exact ⟨h1.congr ⟨e2 1 (by decide) (by decide) (by decide), e2 13 (by decide) (by decide) (by decide), e2 22 (by decide) (by decide) (by decide), e2 28 (by decide) (by decide) (by decide)⟩ (fun _ _ => rfl),
    h2.congr ⟨e2 2 (by decide) (by decide) (by decide), e2 3 (by decide) (by decide) (by decide)⟩ (fun _ _ _ => rfl),
    h3.congr ⟨e2 4 (by decide) (by decide) (by decide), e2 5 (by decide) (by decide) (by decide), e2 6 (by decide) (by decide) (by decide), e2 7 (by decide) (by decide) (by decide)⟩ rfl (fun _ _ _ => rfl),
    h4.congr (e2 9 (by decide) (by decide) (by decide)) rfl (fun _ _ => rfl), h5.congr ⟨e2 10 (by decide) (by decide) (by decide), e2 11 (by decide) (by decide) (by decide)⟩ (fun _ _ _ _ => rfl),
    h6.congr (e2 12 (by decide) (by decide) (by decide)) (fun _ _ _ _ => rfl), h7.congr ⟨e2 23 (by decide) (by decide) (by decide), e2 24 (by decide) (by decide) (by decide), e2 25 (by decide) (by decide) (by decide), e2 26 (by decide) (by decide) (by decide)⟩ rfl h1.2.2.2.2.1.2.2 (fun _ _ _ => rfl),
    h8.congr ⟨e2 29 (by decide) (by decide) (by decide), e2 30 (by decide) (by decide) (by decide)⟩ rfl h1.2.2.2.2.2.2.2 (fun _ _ _ => rfl), h9.congr (fun k k1 k2 => e k (by omega) (by omega) (by omega)) rfl h1.2.2.2.1.2.2 (fun _ _ _ => rfl)⟩
theorem MIf.congr {g g2 : Nat → Nat → Int32} (h : MIf g) (e : g2 82 = g 82 ∧ g2 86 = g 86) (e0 : g2 0 2 = g 0 2 ∧ g2 0 12 = g 0 12) (e8 : g2 83 2 = g 83 2 ∧ g2 83 3 = g 83 3) : MIf g2 := by
  unfold MIf at h ⊢
  rw [e.1, e.2, e0.1, e0.2, e8.1, e8.2]
  exact h
theorem MIt.congr {g g2 : Nat → Nat → Int32} (h : MIt g) (e : g2 72 = g 72 ∧ g2 87 = g 87) (e0 : g2 0 9 = g 0 9) (e8 : g2 83 6 = g 83 6) : MIt g2 := by
  unfold MIt at h ⊢
  rw [e.1, e.2, e0, e8, cn_congr e8]
  exact h
theorem MIs.congr {g g2 : Nat → Nat → Int32} (h : MIs g) (e : ∀ k, (74 ≤ k ∧ k ≤ 81) ∨ (88 ≤ k ∧ k ≤ 90) → g2 k = g k) : MIs g2 := by
  intro s hs
  rw [e (74 + 2 * s) (by omega), e (75 + 2 * s) (by omega), e 88 (by omega), e 89 (by omega), e 90 (by omega)]
  exact h s hs
theorem Inv.now {W : ruWy} {A A2 : ruA} (h : Inv W A) (k : KeepN A A2) (hc : CB W A2.1 1 (A2.1 84)) : Inv W A2 := by
  obtain ⟨-, h2, h3, h4, h5⟩ := h
  obtain ⟨k1, k2, k3⟩ := k
  refine ⟨hc, ?_, h3.congr ⟨k1 82 (by omega), k1 86 (by omega)⟩ ⟨k2.1, k2.2.2⟩ ⟨k3.1, k3.2.1⟩, h4.congr ⟨k1 72 (by omega), k1 87 (by omega)⟩ k2.2.1 k3.2.2, h5.congr fun k hk => k1 k (by omega)⟩
  rw [k1 85 (by omega)]
  exact h2.congr2 fun k q1 q2 q3 => k1 k (by omega)
theorem Inv.same {W : ruWy} {A A2 : ruA} (h : Inv W A) (k : KeepN A A2) (kb : KeepB A A2) : Inv W A2 := by
  refine h.now k ?_
  rw [kb.2]
  exact h.1.congr2 fun k q1 q2 q3 => kb.1 k (by omega)
theorem cn_iN {N : Nat → Int32} {i n : Nat} (h : N i = iN n) (hn : n < 2147483648) : cn N i = n := by
  unfold cn
  rw [h, iN_toNat hn]
