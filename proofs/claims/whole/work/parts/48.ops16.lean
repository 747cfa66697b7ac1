/-! LEVEL 2: sit -/
theorem nFresh_blank {N : Nat → Int32} {s j : Nat} (hj : j < 12) : nFresh N s (129 + 28 * s + j) = -1 := by
  have := nFresh_in (N := N) (s := s) (k := 1 + j) (by omega)
  rw [show 128 + 28 * s + (1 + j) = 129 + 28 * s + j by omega] at this
  rw [this]
  unfold frV
  rw [if_neg (by omega), if_neg (by omega)]
theorem nFresh_kind {N : Nat → Int32} {s j : Nat} (hj : j < 12) : nFresh N s (141 + 28 * s + j) = 0 := by
  have := nFresh_in (N := N) (s := s) (k := 13 + j) (by omega)
  rw [show 128 + 28 * s + (13 + j) = 141 + 28 * s + j by omega] at this
  rw [this]
  unfold frV
  rw [if_neg (by omega), if_pos (by omega)]
theorem op_sit {W : ruWy} {A : ruA} (hI : Inv W A) (x1 x2 : Int32) : Op2 W (fX10_sit x1 x2) (fX11_sit x1 x2) A := by
  obtain ⟨⟨hn, hq, hc, hs, hb, hr, hh, hf, hw⟩, hK, hMf, hMt, hMs⟩ := id hI
  obtain ⟨m0, m1, m2, m3, m4, m5⟩ := id hn
  have q0 : A.1 2 0 = A.1 84 0 := m0.1
  have q1 : A.1 2 1 = A.1 84 1 := m1.1
  have q2 : A.1 2 2 = A.1 84 2 := m2.1
  have q3 : A.1 14 0 = A.1 84 3 := m3.1
  have q4 : A.1 23 0 = A.1 84 4 := m4.1
  have q5 : A.1 29 0 = A.1 84 5 := m5.1
  have sh : shC A (A.1 84) := ⟨hq, hs, hb, hr⟩
  by_cases h1 : 0 ≤ x1 ∧ x1 ≤ A.1 84 2 - 1
  · obtain ⟨c, hc1, rfl⟩ := ch_of m2.2.1 (by omega) h1
    have hc2 : c < 24 := by omega
    obtain ⟨-, ey, hy5⟩ := m0
    generalize cn (A.1 84) 0 = y at *
    have hy : y < 6 := by omega
    have hst : 6 * c + y < 144 := by omega
    have g0 := f10_openSheet A (q0.trans ey) c
    have g1 := f10_there sh hst
    by_cases ht : A.1 84 (128 + 28 * (6 * c + y)) = 0
    · have ht1 : ¬ A.1 84 (128 + 28 * (6 * c + y)) = 1 := by rw [ht]; decide
      obtain ⟨B0, b0, C0⟩ := f10_begin (coup_refl sh) (s := 6 * c + y) (by omega) hst
      obtain ⟨B, b1, bC⟩ := f10_sit_l C0 hc2 hst (hc c hc2).2.2.1 (hc c hc2).2.2.2.1 (fun j hj => nFresh_blank hj) x2
      have e84 : B.1 84 = A.1 84 := bC.2.1 84 (by omega)
      have gf := f11_fresh B (A.1 84) hc2 hy ey
      rw [self84 e84] at gf
      have hs1 := f11_hasSheet B hc2 hy
      rw [e84] at hs1
      have hl0 : ruld (B.1 84) 4920 0 = some (iN y) := by rw [l0A, e84, ey]
      have hI2 : fX11_is (iN c) 2 B = some (b2 (0 ≤ iN c ∧ iN c ≤ A.1 84 2 - 1)) := by rw [e11_is2, e84]
      generalize hM : (sitS c (6 * c + y) x2 (nFresh (A.1 84) (6 * c + y)) 12).2 = M at *
      have hM0 : M 0 = iN y := by rw [bC.2.2 0 (by omega), ey]
      have gR := f11_rights (rusetA B 84 M) hc2 hy
      rw [rusetA_at] at gR
      refine ⟨nRights M (6 * c + y), B, rusetA B 84 M, ?_, ?_, hI.marks bC⟩
      · unfold fX10_sit
        rw [e10_isChild, q2, Option.bind_some, b2_pos h1, ite10, g0, Option.bind_some, g1, Option.bind_some, if_pos ht, b0, Option.bind_some, b1, Option.bind_some, f10_rights bC.1 hst, Option.bind_some]
      · unfold fX11_sit
        rw [hI2, Option.bind_some, b2_pos h1, ite10, hl0, Option.bind_some, hs1, Option.bind_some, b2_neg ht1, ite00, gf, ruB2_some, f11_sit_l B _ hc2 hst, hM, ruld84_0, Option.bind_some, hM0, gR, Option.bind_some]
    · have ht1 := th_of (hs _ hst).2.1 ht
      have ht0 : ¬ (1 : Int32) = 0 := by decide
      refine Op_find hI (-1000005) 4 (by decide) (by decide) ?_ ?_
      · simp only [fX10_sit, e10_isWithin, e10_isQuestion, e10_isYear, e10_isKind, e10_isSlip, e10_isRoom, e10_isChild, e10_isWay, e10_areHours, q1, q2, q3, Option.bind_some, ite00, ite10, if_true, if_false, b2_pos h1, g0, g1, ht1, if_neg ht0]
      · simp only [fX11_sit, e11_within, e11_isQuestion, e11_isYear, e11_isSlip, e11_is1f, e11_is2f, e11_is3f, e11_areHours, fndC_84, fndC_83, fndC_88, fndC_89, fndC_90, Option.bind_some, ite00, ite10, if_true, if_false, b2_pos h1, l0A, ey, f11_hasSheetF A _ hc2 hy, b2_pos ht1]
  · refine Op_find hI (-1000001) 0 (by decide) (by decide) ?_ ?_
    · simp only [fX10_sit, e10_isWithin, e10_isQuestion, e10_isYear, e10_isKind, e10_isSlip, e10_isRoom, e10_isChild, e10_isWay, e10_areHours, q1, q2, q3, Option.bind_some, b2_neg h1, ite00, ite10, if_true, if_false]
    · simp only [fX11_sit, e11_within, e11_isQuestion, e11_isYear, e11_isSlip, e11_is1f, e11_is2f, e11_is3f, e11_areHours, fndC_84, fndC_83, fndC_88, fndC_89, fndC_90, Option.bind_some, b2_neg h1, ite00, ite10, if_true, if_false]
