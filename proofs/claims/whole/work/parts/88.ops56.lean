/-! LEVEL 2: a whole text is read by both -/
theorem rusetm_stQ (A : ruA) (F : Nat → Int32) (m : Nat) : rusetm (stQ A F) m = stQ (rusetm A m) F := rfl
theorem stQ_self (A : ruA) : stQ A (A.1 70) = A := rusetA_self A 70
theorem stP_self (A : ruA) : stP A (A.1 83) (A.1 92) = A := by
  unfold stP
  rw [rusetA_self, rusetA_self]
theorem tG_end {T : Nat → Int32} {n s : Nat} (hT : ∀ i, i < n → 0 ≤ T i ∧ T i ≤ 255) : tG T n s = 257 ↔ n ≤ s := by
  unfold tG
  constructor
  · intro h
    by_cases c : n ≤ s
    · exact c
    · rw [if_neg c] at h
      by_cases c1 : isDi (T s)
      · rw [if_pos c1] at h
        split at h <;> exact absurd h (by decide)
      · rw [if_neg c1] at h
        by_cases c2 : isLe (T s)
        · rw [if_pos c2] at h
          split at h <;> exact absurd h (by decide)
        · rw [if_neg c2] at h
          have := (hT s (by omega)).2
          rw [h] at this
          exact absurd this (by decide)
  · exact fun c => if_pos c
theorem tS_end {T : Nat → Int32} {n s : Nat} : tS T n s = 0 ↔ n ≤ s := by
  unfold tS
  constructor
  · intro h
    by_cases c : n ≤ s
    · exact c
    · rw [if_neg c] at h
      by_cases c1 : isLe (T s)
      · rw [if_pos c1] at h
        exact absurd h (by decide)
      · rw [if_neg c1] at h
        split at h <;> exact absurd h (by decide)
  · exact fun c => if_pos c
theorem worth_eq (tc mc : Nat) (x : Int32) (A : ruA) : fX4_worthOf tc x mc A = (fX4_step (stQ (rusetm (rusett A tc) mc) (upd (upd (upd (A.1 70) 1 x) 2 0) 6 (-1)))).bind fun A6 => ruB2 (fX4_eitherT (0 : Int32) A6) fun v7 A8 => ((if (A8.1 70 4) = (257 : Int32) then some A8 else (fX4_fail A8).bind fun A10 => some A10)).bind fun A9 => some (v7, A9) := by
  unfold fX4_worthOf
  have e : rusett A tc = stQ (rusett A tc) (A.1 70) := (stQ_self (rusett A tc)).symm
  rw [Option.bind_some, e, stQ_set, Option.bind_some, rusetm_stQ, Option.bind_some, stQ_set, Option.bind_some, stQ_set, Option.bind_some]
  rw [← e]
theorem read_both {T : Nat → Int32} {n : Nat} (hn : n ≤ 100) (hT : ∀ i, i < n → 0 ≤ T i ∧ T i ≤ 255) : ∃ (ok : Bool) (s1 : Nat) (E : List Int32), s1 ≤ n ∧ E.length ≤ n ∧
    (∀ (A : ruA) (tc mc : Nat), rudI tc = some 100 → tc ≠ 70 → rudI mc = some 6 → mc ≠ 70 → (∀ i, i < n → A.1 tc i = T i) → ∃ v F', fX4_worthOf tc (iN n) mc A = some (v, stQ (rusetm (rusett A tc) mc) F') ∧ (ok = true → F' 6 = -1 ∧ ∀ σ, evs (A.1 mc) E σ = some (v :: σ)) ∧ (ok = false → F' 6 = iN s1)) ∧
    (∀ (B : ruA) (G H : Nat → Int32), bsR B T n → G 6 = iN n → G 16 = 0 → G 17 = 0 → G 18 = 0 → G 20 = 0 → ∃ G' H', ((fX11_next (stP B G H)).bind fun A6 => fX11_eitherT A6) = some (stP B G' H') ∧ kpG G G' ∧ G' 20 = iN E.length ∧ (∀ i, i < E.length → H' i = E.getD i 0) ∧ G' 15 = iN s1 ∧ (ok = true → G' 17 = 0 ∧ G' 14 = 0) ∧ (ok = false → G' 17 = 1 ∨ (G' 17 = 0 ∧ ¬ G' 14 = 0))) := by
  obtain ⟨ok0, s1, E, a1, a2, a3, a4, a5⟩ := sim_eitherK hn hT 10 0 (by decide) (by decide) (rnT (cSp T n) 101 0) (rnT_le cSp_lt 101 0 (Nat.zero_le _))
  have cls : ∀ (A : ruA) (tc mc : Nat), rudI tc = some 100 → tc ≠ 70 → rudI mc = some 6 → mc ≠ 70 → (∀ i, i < n → A.1 tc i = T i) → ∃ v F2, bsQ (rusetm (rusett A tc) mc) T n ∧ (fX4_worthOf tc (iN n) mc A = ((if F2 4 = (257 : Int32) then some (stQ (rusetm (rusett A tc) mc) F2) else (fX4_fail (stQ (rusetm (rusett A tc) mc) F2)).bind fun A10 => some A10)).bind fun A9 => some (v, A9)) ∧ (ok0 = true → good4 T n (A.1 mc) F2 s1 ∧ ∀ σ, evs (A.1 mc) E σ = some (v :: σ)) ∧ (ok0 = false → bad4 n F2 s1) := by
    intro A tc mc h1 h2 h3 h4 h5
    have hb : bsQ (rusetm (rusett A tc) mc) T n := ⟨h1, h2, h5, h3, h4⟩
    obtain ⟨F1, b1, b2⟩ := q_step hb hn hT (F := upd (upd (upd (A.1 70) 1 (iN n)) 2 0) 6 (-1)) (p := 0) (by simp (disch := omega) only [upd_same, upd_ne]) (by simp (disch := omega) only [upd_same, upd_ne]; rfl) (upd_same _ _ _) (Nat.zero_le _)
    obtain ⟨v, F2, c1, c2, c3⟩ := a4 _ F1 hb b2
    refine ⟨v, F2, hb, ?_, c2, c3⟩
    have c1 : fX4_eitherT 0 (stQ (rusetm (rusett A tc) mc) F1) = some (v, stQ (rusetm (rusett A tc) mc) F2) := c1
    rw [worth_eq, b1, Option.bind_some, c1, ruB2_some, stQ_70]
  have rf : ∀ (B : ruA) (G H : Nat → Int32), bsR B T n → G 6 = iN n → G 16 = 0 → G 17 = 0 → G 18 = 0 → G 20 = 0 → ∃ G' H', ((fX11_next (stP B G H)).bind fun A6 => fX11_eitherT A6) = some (stP B G' H') ∧ kpG G G' ∧ G' 20 = iN E.length ∧ (∀ i, i < E.length → H' i = E.getD i 0) ∧ (ok0 = true → goodR T n G' s1) ∧ (ok0 = false → badR G' s1) := by
    intro B G H hb h6 h16 h17 h18 h20
    obtain ⟨G1, b1, b2, b3⟩ := p_next (H := H) hb hn h6 (p := 0) h16 (Nat.zero_le _)
    obtain ⟨G2, H2, c1, c2, c3, c4, c5, c6, c7⟩ := a5 B G1 H 0 hb ⟨b2, (b3 17 (by decide)).trans h17⟩ ((b3 6 (by decide)).trans h6) ((b3 18 (by decide)).trans h18) ((b3 20 (by decide)).trans h20) (Nat.zero_le _)
    refine ⟨G2, H2, ?_, kpG_trans (kpG_3 b3) c2, by rw [c4, Nat.zero_add], fun i hi => ?_, c6, c7⟩
    · rw [b1, Option.bind_some]
      exact c1
    · have := c5.2 i hi
      rw [Nat.zero_add] at this
      exact this
  cases ok0 with
  | false =>
    refine ⟨false, s1, E, a2, by omega, ?_, ?_⟩
    · intro A tc mc h1 h2 h3 h4 h5
      obtain ⟨v, F2, hb, c1, -, c3⟩ := cls A tc mc h1 h2 h3 h4 h5
      have c3 := c3 rfl
      refine ⟨v, F2, ?_, fun h => (by cases h), fun _ => c3.2.2⟩
      rw [c1, c3.2.1, if_pos rfl, Option.bind_some]
    · intro B G H hb h6 h16 h17 h18 h20
      obtain ⟨G2, H2, c1, c2, c3, c4, -, c6⟩ := rf B G H hb h6 h16 h17 h18 h20
      have c6 := c6 rfl
      exact ⟨G2, H2, c1, c2, c3, c4, c6.1, fun h => (by cases h), fun _ => Or.inl c6.2⟩
  | true =>
    by_cases hend : n ≤ s1
    · refine ⟨true, s1, E, a2, by omega, ?_, ?_⟩
      · intro A tc mc h1 h2 h3 h4 h5
        obtain ⟨v, F2, hb, c1, c2, -⟩ := cls A tc mc h1 h2 h3 h4 h5
        obtain ⟨c2, c3⟩ := c2 rfl
        refine ⟨v, F2, ?_, fun _ => ⟨c2.2.2.2.2.1, c3⟩, fun h => by cases h⟩
        rw [c1, if_pos (by rw [c2.2.2.2.1]; exact (tG_end hT).mpr hend), Option.bind_some]
      · intro B G H hb h6 h16 h17 h18 h20
        obtain ⟨G2, H2, c1, c2, c3, c4, c5, -⟩ := rf B G H hb h6 h16 h17 h18 h20
        have c5 := c5 rfl
        exact ⟨G2, H2, c1, c2, c3, c4, c5.1.2.1, fun _ => ⟨c5.2, c5.1.1.trans (tS_end.mpr hend)⟩, fun h => by cases h⟩
    · refine ⟨false, s1, E, a2, by omega, ?_, ?_⟩
      · intro A tc mc h1 h2 h3 h4 h5
        obtain ⟨v, F2, hb, c1, c2, -⟩ := cls A tc mc h1 h2 h3 h4 h5
        obtain ⟨c2, -⟩ := c2 rfl
        obtain ⟨F3, d1, d2⟩ := q_fail (A := rusetm (rusett A tc) mc) c2
        refine ⟨v, F3, ?_, fun h => (by cases h), fun _ => d2.2.2⟩
        rw [c1, if_neg (by rw [c2.2.2.2.1]; exact fun h => hend ((tG_end hT).mp h)), d1, Option.bind_some, Option.bind_some]
      · intro B G H hb h6 h16 h17 h18 h20
        obtain ⟨G2, H2, c1, c2, c3, c4, c5, -⟩ := rf B G H hb h6 h16 h17 h18 h20
        have c5 := c5 rfl
        exact ⟨G2, H2, c1, c2, c3, c4, c5.1.2.1, fun h => (by cases h), fun _ => Or.inr ⟨c5.2, fun h => hend (tS_end.mp (c5.1.1.symm.trans h))⟩⟩
/-- a text and its steps -/
def wyW : ruWy := fun t len p => ∃ (n : Nat) (E : List Int32), n ≤ 100 ∧ len = iN n ∧ E.length ≤ 100 ∧ p 0 = iN E.length ∧ (∀ i, i < E.length → p (1 + i) = E.getD i 0) ∧
  ∀ (A : ruA) (tc mc : Nat), rudI tc = some 100 → tc ≠ 70 → rudI mc = some 6 → mc ≠ 70 → (∀ i, i < n → A.1 tc i = t i) → ∃ v F', fX4_worthOf tc (iN n) mc A = some (v, stQ (rusetm (rusett A tc) mc) F') ∧ ∀ σ, evs (A.1 mc) E σ = some (v :: σ)
