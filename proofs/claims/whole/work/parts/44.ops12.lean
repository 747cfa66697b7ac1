/-! LEVEL 2: mark, said, copies -/
theorem loop_gen {σ β : Type} (L : Nat → Nat → σ → Option β) (hi : Nat) (I : Nat → σ → Prop) (R : Option β → Prop)
    (hexit : ∀ n s, I hi s → R (L (n + 1) hi s)) (hstep : ∀ n q s, q < hi → I q s → R (L (n + 1) q s) ∨ ∃ s', L (n + 1) q s = L n (q + 1) s' ∧ I (q + 1) s') : ∀ n q s, q ≤ hi → hi - q < n → I q s → R (L n q s) := by
  have key : ∀ (m n q : Nat) (s : σ), q + m = hi → m < n → I q s → R (L n q s) := by
    intro m
    induction m with
    | zero =>
      intro n q s h1 h2 h3
      obtain ⟨n, rfl⟩ : ∃ k, n = k + 1 := ⟨n - 1, by omega⟩
      have e : q = hi := by omega
      subst e
      exact hexit n s h3
    | succ m ih =>
      intro n q s h1 h2 h3
      obtain ⟨n, rfl⟩ : ∃ k, n = k + 1 := ⟨n - 1, by omega⟩
      rcases hstep n q s (by omega) h3 with h | ⟨s', h4, h5⟩
      · exact h
      · rw [h4]
        exact ih n (q + 1) s' (by omega) (by omega) h5
  intro n q s h1 h2 h3
  exact key (hi - q) n q s (by omega) h2 h3
theorem coup_refl {A : ruA} {N : Nat → Int32} (h : shC A N) : coup A A N N := ⟨h, fun _ _ => rfl, fun _ _ => rfl⟩
theorem self84 {B : ruA} {N : Nat → Int32} (h : B.1 84 = N) : rusetA B 84 N = B := by
  rw [← h]
  exact rusetA_self B 84
theorem f10_openSheet (A : ruA) {y : Nat} (h : A.1 2 0 = iN y) (c : Nat) : fX10_openSheet (iN c) A = some (iN (6 * c + y)) := by
  simp only [fX10_openSheet, h, e10_place, Option.bind_some]
theorem l0F (A : ruA) (j : Nat) : ruld ((fndC A j).1 84) 4920 0 = some (A.1 84 0) := ruld_iN (i := 0) (by decide) (by decide)
theorem l0A (A : ruA) : ruld (A.1 84) 4920 0 = some (A.1 84 0) := ruld_iN (i := 0) (by decide) (by decide)
theorem l2A (A : ruA) : ruld (A.1 84) 4920 2 = some (A.1 84 2) := ruld_iN (i := 2) (by decide) (by decide)
theorem op_mark {W : ruWy} {A : ruA} (hI : Inv W A) (x1 x2 x3 x4 : Int32) : Op2 W (fX10_mark x1 x2 x3 x4) (fX11_mark x1 x2 x3 x4) A := by
  obtain ⟨⟨hn, hq, hc, hs, hb, hr, hh, hf, hw⟩, hK, hMf, hMt, hMs⟩ := id hI
  obtain ⟨m0, m1, m2, m3, m4, m5⟩ := id hn
  have q0 : A.1 2 0 = A.1 84 0 := m0.1
  have q1 : A.1 2 1 = A.1 84 1 := m1.1
  have q2 : A.1 2 2 = A.1 84 2 := m2.1
  have q3 : A.1 14 0 = A.1 84 3 := m3.1
  have q4 : A.1 23 0 = A.1 84 4 := m4.1
  have q5 : A.1 29 0 = A.1 84 5 := m5.1
  have sh : shC A (A.1 84) := ⟨hq, hs, hb, hr⟩
  by_cases h1 : 0 ≤ x1 ∧ x1 ≤ A.1 84 2 - 1
  · by_cases h2 : 0 ≤ x2 ∧ x2 ≤ 11
    · by_cases h3 : 0 ≤ x3 ∧ x3 ≤ 7
      · by_cases h4 : -1 ≤ x4 ∧ x4 ≤ 3
        · obtain ⟨c, hc1, rfl⟩ := ch_of m2.2.1 (by omega) h1
          obtain ⟨q, hq1, rfl⟩ := qu_of h2
          have hc2 : c < 24 := by omega
          obtain ⟨-, ey, hy5⟩ := m0
          generalize cn (A.1 84) 0 = y at *
          have hy : y < 6 := by omega
          have hst : 6 * c + y < 144 := by omega
          have g0 := f10_openSheet A (q0.trans ey) c
          have g1 := f10_there sh hst
          by_cases ht : A.1 84 (128 + 28 * (6 * c + y)) = 0
          · have ht1 : ¬ A.1 84 (128 + 28 * (6 * c + y)) = 1 := by rw [ht]; decide
            refine Op_find hI (-1000005) 4 (by decide) (by decide) ?_ ?_
            · simp only [fX10_mark, e10_isWithin, e10_isQuestion, e10_isYear, e10_isKind, e10_isSlip, e10_isRoom, e10_isChild, e10_isWay, e10_areHours, q1, q2, q3, Option.bind_some, ite00, ite10, if_true, if_false, b2_pos h1, b2_pos h2, b2_pos h3, b2_pos h4, g0, g1, ht]
            · simp only [fX11_mark, e11_within, e11_isQuestion, e11_isYear, e11_isSlip, e11_is1f, e11_is2f, e11_is3f, e11_areHours, fndC_84, fndC_83, fndC_88, fndC_89, fndC_90, Option.bind_some, ite00, ite10, if_true, if_false, b2_pos h1, b2_pos h2, b2_pos h3, b2_pos h4, l0A, ey, f11_hasSheetF A _ hc2 hy, b2_neg ht1]
          · have ht1 := th_of (hs _ hst).2.1 ht
            obtain ⟨B, b1, bC⟩ := f10_marks (coup_refl sh) hst hq1 h3 h4
            have e84 : B.1 84 = A.1 84 := bC.2.1 84 (by omega)
            have hg := f11_marks B (A.1 84) hc2 hy hq1 ey x3 x4
            rw [self84 e84] at hg
            refine ⟨b2 (¬ A.1 84 (129 + 28 * (6 * c + y) + q) = x4), B, _, ?_, ?_, hI.marks bC⟩
            · simp only [fX10_mark, e10_isWithin, e10_isQuestion, e10_isYear, e10_isKind, e10_isSlip, e10_isRoom, e10_isChild, e10_isWay, e10_areHours, q1, q2, q3, Option.bind_some, ite10, b2_pos h1, b2_pos h2, b2_pos h3, b2_pos h4, g0, g1, if_neg ht, b1, ruB2_some]
              unfold b2
              split <;> rfl
            · have hs1 := f11_hasSheet B hc2 hy
              rw [e84] at hs1
              have hl0 : ruld (B.1 84) 4920 0 = some (iN y) := by rw [l0A, e84, ey]
              have hI2 : fX11_is (iN c) 2 B = some (b2 (0 ≤ iN c ∧ iN c ≤ A.1 84 2 - 1)) := by rw [e11_is2, e84]
              simp only [fX11_mark, hI2, e11_within, e11_isQuestion, Option.bind_some, ite10, b2_pos h1, b2_pos h2, b2_pos h3, b2_pos h4, hl0, hs1, b2_pos ht1, hg, ruB2_some]
              unfold b2
              split <;> rfl
        · refine Op_find hI (-1000001) 0 (by decide) (by decide) ?_ ?_
          · simp only [fX10_mark, e10_isWithin, e10_isQuestion, e10_isYear, e10_isKind, e10_isSlip, e10_isRoom, e10_isChild, e10_isWay, e10_areHours, q1, q2, q3, Option.bind_some, b2_pos h1, b2_pos h2, b2_pos h3, b2_neg h4, ite00, ite10, if_true, if_false]
          · simp only [fX11_mark, e11_within, e11_isQuestion, e11_isYear, e11_isSlip, e11_is1f, e11_is2f, e11_is3f, e11_areHours, fndC_84, fndC_83, fndC_88, fndC_89, fndC_90, Option.bind_some, b2_pos h1, b2_pos h2, b2_pos h3, b2_neg h4, ite00, ite10, if_true, if_false]
      · refine Op_find hI (-1000001) 0 (by decide) (by decide) ?_ ?_
        · simp only [fX10_mark, e10_isWithin, e10_isQuestion, e10_isYear, e10_isKind, e10_isSlip, e10_isRoom, e10_isChild, e10_isWay, e10_areHours, q1, q2, q3, Option.bind_some, b2_pos h1, b2_pos h2, b2_neg h3, ite00, ite10, if_true, if_false]
        · simp only [fX11_mark, e11_within, e11_isQuestion, e11_isYear, e11_isSlip, e11_is1f, e11_is2f, e11_is3f, e11_areHours, fndC_84, fndC_83, fndC_88, fndC_89, fndC_90, Option.bind_some, b2_pos h1, b2_pos h2, b2_neg h3, ite00, ite10, if_true, if_false]
    · refine Op_find hI (-1000001) 0 (by decide) (by decide) ?_ ?_
      · simp only [fX10_mark, e10_isWithin, e10_isQuestion, e10_isYear, e10_isKind, e10_isSlip, e10_isRoom, e10_isChild, e10_isWay, e10_areHours, q1, q2, q3, Option.bind_some, b2_pos h1, b2_neg h2, ite00, ite10, if_true, if_false]
      · simp only [fX11_mark, e11_within, e11_isQuestion, e11_isYear, e11_isSlip, e11_is1f, e11_is2f, e11_is3f, e11_areHours, fndC_84, fndC_83, fndC_88, fndC_89, fndC_90, Option.bind_some, b2_pos h1, b2_neg h2, ite00, ite10, if_true, if_false]
  · refine Op_find hI (-1000001) 0 (by decide) (by decide) ?_ ?_
    · simp only [fX10_mark, e10_isWithin, e10_isQuestion, e10_isYear, e10_isKind, e10_isSlip, e10_isRoom, e10_isChild, e10_isWay, e10_areHours, q1, q2, q3, Option.bind_some, b2_neg h1, ite00, ite10, if_true, if_false]
    · simp only [fX11_mark, e11_within, e11_isQuestion, e11_isYear, e11_isSlip, e11_is1f, e11_is2f, e11_is3f, e11_areHours, fndC_84, fndC_83, fndC_88, fndC_89, fndC_90, Option.bind_some, b2_neg h1, ite00, ite10, if_true, if_false]
/-- a child of a room, with a sheet of the year -/
def nOf (N : Nat → Int32) (c : Nat) (x : Int32) (y : Nat) : Prop := N (32 + 4 * c) = x ∧ N (128 + 28 * (6 * c + y)) = 1
theorem f10_sitsIn {A0 A : ruA} {N0 N : Nat → Int32} (h : coup A0 A N0 N) {c y : Nat} (hc : c < 24) (hy : y < 6) (e5 : A0.1 5 c = N0 (32 + 4 * c)) (ey : A0.1 2 0 = iN y) (x : Int32) : fX10_sitsIn (iN c) x A = some (b2 (N (32 + 4 * c) = x ∧ N (128 + 28 * (6 * c + y)) = 1)) := by
  obtain ⟨sh, e1, e2⟩ := h
  have hst : 6 * c + y < 144 := by omega
  have r5 : A.1 5 c = N (32 + 4 * c) := by rw [e1 5 (by omega), e5, e2 _ (by omega)]
  have ry : A.1 2 0 = iN y := by rw [e1 2 (by omega), ey]
  have l5 : ruld (A.1 5) 24 (iN c) = some (N (32 + 4 * c)) := by rw [ruld_iN hc (by decide), r5]
  unfold fX10_sitsIn
  rw [l5, Option.bind_some]
  by_cases c1 : N (32 + 4 * c) = x
  · rw [if_pos c1, f10_openSheet A ry, Option.bind_some, f10_there sh hst, Option.bind_some]
    rcases (sh.2.1 _ hst).2.1 with e | e
    · rw [e, if_pos rfl, b2_neg (fun h2 => absurd h2.2 (by decide))]
    · rw [e, if_neg (by decide), b2_pos ⟨c1, rfl⟩]
  · rw [if_neg c1, b2_neg (fun h2 => c1 h2.1)]
theorem f11_isOf (A : ruA) {c y : Nat} (hc : c < 24) (hy : y < 6) (x : Int32) : fX11_isOf (iN c) x (iN y) A = some (b2 (A.1 84 (32 + 4 * c) = x ∧ A.1 84 (128 + 28 * (6 * c + y)) = 1)) := by
  have f0 : fX11_childOf (iN c) 0 A = some (A.1 84 (32 + 4 * c)) := f11_childOf A (j := 0) hc (by decide)
  unfold fX11_isOf
  rw [f0, Option.bind_some]
  by_cases c1 : A.1 84 (32 + 4 * c) = x
  · rw [if_pos c1, f11_hasSheet A hc hy, Option.bind_some, b2_ne]
    by_cases c2 : A.1 84 (128 + 28 * (6 * c + y)) = 1
    · rw [if_pos c2, b2_pos ⟨c1, c2⟩]
    · rw [if_neg c2, b2_neg (fun h2 => c2 h2.2)]
  · rw [if_neg c1, b2_neg (fun h2 => c1 h2.1)]
theorem f11_isOfN (A : ruA) (N : Nat → Int32) {c y : Nat} (hc : c < 24) (hy : y < 6) (x : Int32) : fX11_isOf (iN c) x (iN y) (rusetA A 84 N) = some (b2 (N (32 + 4 * c) = x ∧ N (128 + 28 * (6 * c + y)) = 1)) := by
  have h := f11_isOf (rusetA A 84 N) hc hy x
  rw [rusetA_at] at h
  exact h
theorem key_rng {A : ruA} {N : Nat → Int32} (sh : shC A N) {q : Nat} (hq : q < 12) : -1 ≤ N (8 + q) ∧ N (8 + q) ≤ 3 := by
  have h := (sh.1 q hq).2.1
  refine ⟨?_, h.2⟩
  have h0 := h.1
  rw [Int32.le_iff_toInt_le] at h0 ⊢
  have e0 : (0 : Int32).toInt = 0 := by decide
  have e1 : (-1 : Int32).toInt = -1 := by decide
  omega
/-- said -/
def fSaid (x : Int32) (y q : Nat) (N : Nat → Int32) (c : Nat) : Int32 × (Nat → Int32) := if N (32 + 4 * c) = x ∧ N (128 + 28 * (6 * c + y)) = 1 then (b2 (¬ N (129 + 28 * (6 * c + y) + q) = N (8 + q)), nMark N (6 * c + y) q 4 (N (8 + q))) else (0, N)
theorem op_said {W : ruWy} {A : ruA} (hI : Inv W A) (x1 x2 : Int32) : Op2 W (fX10_said x1 x2) (fX11_said x1 x2) A := by
  obtain ⟨⟨hn, hq, hc, hs, hb, hr, hh, hf, hw⟩, hK, hMf, hMt, hMs⟩ := id hI
  obtain ⟨m0, m1, m2, m3, m4, m5⟩ := id hn
  have q0 : A.1 2 0 = A.1 84 0 := m0.1
  have q1 : A.1 2 1 = A.1 84 1 := m1.1
  have q2 : A.1 2 2 = A.1 84 2 := m2.1
  have q3 : A.1 14 0 = A.1 84 3 := m3.1
  have q4 : A.1 23 0 = A.1 84 4 := m4.1
  have q5 : A.1 29 0 = A.1 84 5 := m5.1
  have sh : shC A (A.1 84) := ⟨hq, hs, hb, hr⟩
  by_cases h1 : 0 ≤ x1 ∧ x1 ≤ A.1 84 1 - 1
  · by_cases h2 : 0 ≤ x2 ∧ x2 ≤ 11
    · obtain ⟨q, hq1, rfl⟩ := qu_of h2
      obtain ⟨-, ey, hy5⟩ := m0
      obtain ⟨-, ec, hc24⟩ := m2
      generalize cn (A.1 84) 0 = y at *
      generalize cn (A.1 84) 2 = m at *
      have hy : y < 6 := by omega
      have hcls := loop_cls (fun n c x B => fX10_said_l27 x1 (iN q) (fun v12 A13 => some (v12, A13)) n x (iN c) B) (fun B M => coup A B (A.1 84) M) (A.1 84) m (fSaid x1 y q) (fun v12 A13 => some (v12, A13)) ?_ ?_ A (coup_refl sh) ruF (by rw [ruF_eq]; omega)
      · obtain ⟨B, b1, bC⟩ := hcls
        have e84 : B.1 84 = A.1 84 := bC.2.1 84 (by omega)
        have hg := loop_ref (fun n c x B => fX11_said_l28 x1 (iN q) (fun v12 A13 => some (v12, A13)) n x (iN c) B) B (A.1 84) m (fSaid x1 y q) (fun v12 A13 => some (v12, A13)) (fun M => ∀ i, i < 128 → M i = A.1 84 i) ?_ ?_ ?_ (fun _ _ => rfl) ruF (by rw [ruF_eq]; omega)
        · rw [self84 e84] at hg
          refine ⟨(stt (fSaid x1 y q) (A.1 84) m).1, B, _, ?_, ?_, hI.marks bC⟩
          · have b1' : fX10_said_l27 x1 (iN q) (fun v12 A13 => some (v12, A13)) ruF 0 0 A = _ := b1
            simp only [fX10_said, e10_isWithin, e10_isQuestion, e10_isYear, e10_isKind, e10_isSlip, e10_isRoom, e10_isChild, e10_isWay, e10_areHours, q1, q2, q3, Option.bind_some, ite10, b2_pos h1, b2_pos h2, b1']
          · have hg' : fX11_said_l28 x1 (iN q) (fun v12 A13 => some (v12, A13)) ruF 0 0 B = _ := hg
            have hI2 : fX11_is x1 1 B = some (b2 (0 ≤ x1 ∧ x1 ≤ A.1 84 1 - 1)) := by rw [e11_is1, e84]
            simp only [fX11_said, hI2, e11_isQuestion, Option.bind_some, ite10, b2_pos h1, b2_pos h2, hg']
        · intro n x M hM
          rw [fX11_said_l28, ruld84_2, Option.bind_some, hM 2 (by omega), ec, if_pos ((iN_le (by omega) (by omega)).mpr (Nat.le_refl _))]
        · intro n c x M hc9 hM
          have hN0 : M 0 = iN y := by rw [hM 0 (by omega), ey]
          rw [fX11_said_l28, ruld84_2, Option.bind_some, hM 2 (by omega), ec, if_neg (by rw [iN_le (by omega) (by omega)]; omega), ruld84_0, Option.bind_some, hN0, f11_isOfN B M (by omega) hy, Option.bind_some, b2_ne, iN_add1]
          unfold fSaid
          by_cases c1 : M (32 + 4 * c) = x1 ∧ M (128 + 28 * (6 * c + y)) = 1
          · rw [if_pos c1, if_pos c1, show (8 : Int32) = iN 8 from rfl, iN_add, ruld84 B M (by omega), Option.bind_some, f11_marks B M (by omega) hy hq1 hN0, ruB2_some, b2_ne]
            by_cases c2 : ¬ M (129 + 28 * (6 * c + y) + q) = M (8 + q)
            · rw [if_pos c2, ruB2_some, b2_pos c2]
            · rw [if_neg c2, ruB2_some, b2_neg c2]
          · rw [if_neg c1, if_neg c1, ruB2_some]
        · intro M c hc9 hM i hi
          unfold fSaid
          split
          · show nMark M (6 * c + y) q 4 (M (8 + q)) i = _
            rw [nMark_out (by omega) hq1 (by omega)]
            exact hM i hi
          · exact hM i hi
      · intro n x B M hR
        have e22 : B.1 2 2 = iN m := by rw [hR.2.1 2 (by omega), q2, ec]
        rw [fX10_said_l27, e22, if_pos ((iN_le (by omega) (by omega)).mpr (Nat.le_refl _))]
      · intro n c x B M hc9 hR
        have e22 : B.1 2 2 = iN m := by rw [hR.2.1 2 (by omega), q2, ec]
        have ey0 : A.1 2 0 = iN y := q0.trans ey
        have eyB : B.1 2 0 = iN y := by rw [hR.2.1 2 (by omega), ey0]
        have hst : 6 * c + y < 144 := by omega
        have hsi := f10_sitsIn hR (c := c) (by omega) hy (hc c (by omega)).1 ey0 x1
        have hstep : fX10_said_l27 x1 (iN q) (fun v12 A13 => some (v12, A13)) (n + 1) x (iN c) B = ruB2 (if M (32 + 4 * c) = x1 ∧ M (128 + 28 * (6 * c + y)) = 1 then (ruB2 (fX10_marks (iN (6 * c + y)) (iN q) 4 (M (8 + q)) B) fun v10 A11 => if v10 = 0 then some (x, A11) else some (x + 1, A11)) else some (x, B)) fun v6 A7 => fX10_said_l27 x1 (iN q) (fun v12 A13 => some (v12, A13)) n v6 (iN (c + 1)) A7 := by
          rw [fX10_said_l27, e22, if_neg (by rw [iN_le (by omega) (by omega)]; omega), hsi, Option.bind_some, b2_ne, f10_openSheet B eyB, Option.bind_some, f10_key hR.1 hq1, Option.bind_some, iN_add1]
        show ∃ B', fX10_said_l27 x1 (iN q) (fun v12 A13 => some (v12, A13)) (n + 1) x (iN c) B = _ ∧ _
        rw [hstep]
        unfold fSaid
        by_cases c1 : M (32 + 4 * c) = x1 ∧ M (128 + 28 * (6 * c + y)) = 1
        · obtain ⟨B', b1, bC⟩ := f10_marks hR hst hq1 (kind := 4) (v := M (8 + q)) ⟨by decide, by decide⟩ (key_rng hR.1 hq1)
          refine ⟨B', ?_, ?_⟩
          · rw [if_pos c1, if_pos c1, b1, ruB2_some, b2_ne]
            by_cases c2 : ¬ M (129 + 28 * (6 * c + y) + q) = M (8 + q)
            · rw [if_pos c2, ruB2_some, b2_pos c2]
            · rw [if_neg c2, ruB2_some, b2_neg c2, Int32.add_zero]
          · rw [if_pos c1]
            exact bC
        · refine ⟨B, ?_, ?_⟩
          · rw [if_neg c1, if_neg c1, ruB2_some, Int32.add_zero]
          · rw [if_neg c1]
            exact hR
    · refine Op_find hI (-1000001) 0 (by decide) (by decide) ?_ ?_
      · simp only [fX10_said, e10_isWithin, e10_isQuestion, e10_isYear, e10_isKind, e10_isSlip, e10_isRoom, e10_isChild, e10_isWay, e10_areHours, q1, q2, q3, Option.bind_some, b2_pos h1, b2_neg h2, ite00, ite10, if_true, if_false]
      · simp only [fX11_said, e11_within, e11_isQuestion, e11_isYear, e11_isSlip, e11_is1f, e11_is2f, e11_is3f, e11_areHours, fndC_84, fndC_83, fndC_88, fndC_89, fndC_90, Option.bind_some, b2_pos h1, b2_neg h2, ite00, ite10, if_true, if_false]
  · refine Op_find hI (-1000001) 0 (by decide) (by decide) ?_ ?_
    · simp only [fX10_said, e10_isWithin, e10_isQuestion, e10_isYear, e10_isKind, e10_isSlip, e10_isRoom, e10_isChild, e10_isWay, e10_areHours, q1, q2, q3, Option.bind_some, b2_neg h1, ite00, ite10, if_true, if_false]
    · simp only [fX11_said, e11_within, e11_isQuestion, e11_isYear, e11_isSlip, e11_is1f, e11_is2f, e11_is3f, e11_areHours, fndC_84, fndC_83, fndC_88, fndC_89, fndC_90, Option.bind_some, b2_neg h1, ite00, ite10, if_true, if_false]
