/-! LEVEL 2: bubble, sheetIs, as, weight, leaves -/
theorem f11_hasSheetF (A : ruA) (j : Nat) {c y : Nat} (hc : c < 24) (hy : y < 6) : fX11_hasSheet (iN c) (iN y) (fndC A j) = some (b2 (A.1 84 (128 + 28 * (6 * c + y)) = 1)) := f11_hasSheet (fndC A j) hc hy
theorem f11_kindF (A : ruA) (j : Nat) {c y q : Nat} (hc : c < 24) (hy : y < 6) (hq : q < 12) : fX11_kind (iN c) (iN y) (iN q) (fndC A j) = some (A.1 84 (141 + 28 * (6 * c + y) + q)) := f11_kind (fndC A j) hc hy hq
theorem yr_of {x : Int32} (h : 0 ≤ x ∧ x ≤ 5) : ∃ y, y < 6 ∧ x = iN y := lt_of (m := 5) (by decide) h
theorem qu_of {x : Int32} (h : 0 ≤ x ∧ x ≤ 11) : ∃ q, q < 12 ∧ x = iN q := lt_of (m := 11) (by decide) h
theorem ki_of {x : Int32} (h : 0 ≤ x ∧ x ≤ 7) : ∃ k, k < 8 ∧ x = iN k := lt_of (m := 7) (by decide) h
theorem le2_of {x : Int32} (h : 0 ≤ x ∧ x ≤ 2) : x = 0 ∨ x = 1 ∨ x = 2 := by
  obtain ⟨t, ht, rfl⟩ := iN_of (m := 2) h.1 (by decide) h.2
  have : t = 0 ∨ t = 1 ∨ t = 2 := by omega
  rcases this with rfl | rfl | rfl
  · exact Or.inl rfl
  · exact Or.inr (Or.inl rfl)
  · exact Or.inr (Or.inr rfl)
theorem le6_of {x : Int32} (h : 0 ≤ x ∧ x ≤ 6) : x = 0 ∨ x = 1 ∨ x = 2 ∨ x = 3 ∨ x = 4 ∨ x = 5 ∨ x = 6 := by
  obtain ⟨t, ht, rfl⟩ := iN_of (m := 6) h.1 (by decide) h.2
  have : t = 0 ∨ t = 1 ∨ t = 2 ∨ t = 3 ∨ t = 4 ∨ t = 5 ∨ t = 6 := by omega
  rcases this with rfl | rfl | rfl | rfl | rfl | rfl | rfl
  · exact Or.inl rfl
  · exact Or.inr (Or.inl rfl)
  · exact Or.inr (Or.inr (Or.inl rfl))
  · exact Or.inr (Or.inr (Or.inr (Or.inl rfl)))
  · exact Or.inr (Or.inr (Or.inr (Or.inr (Or.inl rfl))))
  · exact Or.inr (Or.inr (Or.inr (Or.inr (Or.inr (Or.inl rfl)))))
  · exact Or.inr (Or.inr (Or.inr (Or.inr (Or.inr (Or.inr rfl)))))
theorem th_of {x : Int32} (h : x = 0 ∨ x = 1) (hn : ¬ x = 0) : x = 1 := h.resolve_left hn
theorem op_bubble {W : ruWy} {A : ruA} (hI : Inv W A) (x1 x2 x3 x4 : Int32) : Op2 W (fX10_bubble x1 x2 x3 x4) (fX11_bubble x1 x2 x3 x4) A := by
  obtain ⟨⟨hn, hq, hc, hs, hb, hr, hh, hf, hw⟩, hK, hMf, hMt, hMs⟩ := id hI
  obtain ⟨m0, m1, m2, m3, m4, m5⟩ := id hn
  have q0 : A.1 2 0 = A.1 84 0 := m0.1
  have q1 : A.1 2 1 = A.1 84 1 := m1.1
  have q2 : A.1 2 2 = A.1 84 2 := m2.1
  have q3 : A.1 14 0 = A.1 84 3 := m3.1
  have q4 : A.1 23 0 = A.1 84 4 := m4.1
  have q5 : A.1 29 0 = A.1 84 5 := m5.1
  have sh : shC A (A.1 84) := ⟨hq, hs, hb, hr⟩
  by_cases h1 : 0 ≤ x1 ∧ x1 ≤ A.1 84 2 - 1
  · by_cases h2 : 0 ≤ x2 ∧ x2 ≤ 5
    · by_cases h3 : 0 ≤ x3 ∧ x3 ≤ 11
      · by_cases h4 : 0 ≤ x4 ∧ x4 ≤ 2
        · obtain ⟨c, hc1, rfl⟩ := ch_of m2.2.1 (by omega) h1
          obtain ⟨y, hy, rfl⟩ := yr_of h2
          obtain ⟨q, hq1, rfl⟩ := qu_of h3
          have hc2 : c < 24 := by omega
          have hst : 6 * c + y < 144 := by omega
          have g1 := f10_there sh hst
          by_cases ht : A.1 84 (128 + 28 * (6 * c + y)) = 0
          · have ht1 : ¬ A.1 84 (128 + 28 * (6 * c + y)) = 1 := by rw [ht]; decide
            refine Op_find hI (-1000004) 3 (by decide) (by decide) ?_ ?_
            · simp only [fX10_bubble, e10_isWithin, e10_isQuestion, e10_isYear, e10_isKind, e10_isSlip, e10_isRoom, e10_isChild, e10_isWay, e10_areHours, q1, q2, q3, Option.bind_some, ite00, ite10, if_true, if_false, b2_pos h1, b2_pos h2, b2_pos h3, b2_pos h4, e10_place, g1, ht]
            · simp only [fX11_bubble, e11_within, e11_isQuestion, e11_isYear, e11_isSlip, e11_is1f, e11_is2f, e11_is3f, e11_areHours, fndC_84, fndC_83, fndC_88, fndC_89, fndC_90, Option.bind_some, ite00, ite10, if_true, if_false, b2_pos h1, b2_pos h2, b2_pos h3, b2_pos h4, f11_hasSheetF A _ hc2 hy, b2_neg ht1]
          · have ht1 := th_of (hs _ hst).2.1 ht
            rcases le2_of h4 with rfl | rfl | rfl
            · refine ⟨A.1 84 (129 + 28 * (6 * c + y) + q), A, A, ?_, ?_, hI⟩
              · simp only [fX10_bubble, e10_isWithin, e10_isQuestion, e10_isYear, e10_isKind, e10_isSlip, e10_isRoom, e10_isChild, e10_isWay, e10_areHours, q1, q2, q3, Option.bind_some, ite10, b2_pos h1, b2_pos h2, b2_pos h3, b2_pos h4, e10_place, g1, if_neg ht, if_true, f10_choiceAt sh hst hq1]
              · simp only [fX11_bubble, e11_within, e11_isQuestion, e11_isYear, e11_isSlip, e11_is1, e11_is2, e11_is3, e11_is1N, e11_is2N, e11_is3N, e11_areHours, fndC_84, fndC_83, fndC_88, fndC_89, fndC_90, Option.bind_some, ite10, b2_pos h1, b2_pos h2, b2_pos h3, b2_pos h4, f11_hasSheet A hc2 hy, b2_pos ht1, if_true, f11_choice A hc2 hy hq1]
            · refine ⟨A.1 84 (141 + 28 * (6 * c + y) + q), A, A, ?_, ?_, hI⟩
              · simp only [fX10_bubble, e10_isWithin, e10_isQuestion, e10_isYear, e10_isKind, e10_isSlip, e10_isRoom, e10_isChild, e10_isWay, e10_areHours, q1, q2, q3, Option.bind_some, ite10, b2_pos h1, b2_pos h2, b2_pos h3, b2_pos h4, e10_place, g1, if_neg ht, if_true, f10_kindAt sh hst hq1]
              · simp only [fX11_bubble, e11_within, e11_isQuestion, e11_isYear, e11_isSlip, e11_is1, e11_is2, e11_is3, e11_is1N, e11_is2N, e11_is3N, e11_areHours, fndC_84, fndC_83, fndC_88, fndC_89, fndC_90, Option.bind_some, ite10, b2_pos h1, b2_pos h2, b2_pos h3, b2_pos h4, f11_hasSheet A hc2 hy, b2_pos ht1, if_true, f11_kind A hc2 hy hq1]
            · refine ⟨b2 (A.1 84 (129 + 28 * (6 * c + y) + q) = A.1 84 (8 + q)), A, A, ?_, ?_, hI⟩
              · simp only [fX10_bubble, e10_isWithin, e10_isQuestion, e10_isYear, e10_isKind, e10_isSlip, e10_isRoom, e10_isChild, e10_isWay, e10_areHours, q1, q2, q3, Option.bind_some, ite10, b2_pos h1, b2_pos h2, b2_pos h3, b2_pos h4, e10_place, g1, if_neg ht, if_neg (show ¬ (2 : Int32) = 0 by decide), if_neg (show ¬ (2 : Int32) = 1 by decide), f10_choiceAt sh hst hq1, f10_key sh hq1]
                unfold b2
                split <;> rfl
              · simp only [fX11_bubble, e11_within, e11_isQuestion, e11_isYear, e11_isSlip, e11_is1, e11_is2, e11_is3, e11_is1N, e11_is2N, e11_is3N, e11_areHours, fndC_84, fndC_83, fndC_88, fndC_89, fndC_90, Option.bind_some, ite10, b2_pos h1, b2_pos h2, b2_pos h3, b2_pos h4, f11_hasSheet A hc2 hy, b2_pos ht1, if_neg (show ¬ (2 : Int32) = 0 by decide), if_neg (show ¬ (2 : Int32) = 1 by decide), f11_isRight A hc2 hy hq1, b2_ne]
                unfold b2
                split <;> rfl
        · refine Op_find hI (-1000001) 0 (by decide) (by decide) ?_ ?_
          · simp only [fX10_bubble, e10_isWithin, e10_isQuestion, e10_isYear, e10_isKind, e10_isSlip, e10_isRoom, e10_isChild, e10_isWay, e10_areHours, q1, q2, q3, Option.bind_some, b2_pos h1, b2_pos h2, b2_pos h3, b2_neg h4, ite00, ite10, if_true, if_false]
          · simp only [fX11_bubble, e11_within, e11_isQuestion, e11_isYear, e11_isSlip, e11_is1f, e11_is2f, e11_is3f, e11_areHours, fndC_84, fndC_83, fndC_88, fndC_89, fndC_90, Option.bind_some, b2_pos h1, b2_pos h2, b2_pos h3, b2_neg h4, ite00, ite10, if_true, if_false]
      · refine Op_find hI (-1000001) 0 (by decide) (by decide) ?_ ?_
        · simp only [fX10_bubble, e10_isWithin, e10_isQuestion, e10_isYear, e10_isKind, e10_isSlip, e10_isRoom, e10_isChild, e10_isWay, e10_areHours, q1, q2, q3, Option.bind_some, b2_pos h1, b2_pos h2, b2_neg h3, ite00, ite10, if_true, if_false]
        · simp only [fX11_bubble, e11_within, e11_isQuestion, e11_isYear, e11_isSlip, e11_is1f, e11_is2f, e11_is3f, e11_areHours, fndC_84, fndC_83, fndC_88, fndC_89, fndC_90, Option.bind_some, b2_pos h1, b2_pos h2, b2_neg h3, ite00, ite10, if_true, if_false]
    · refine Op_find hI (-1000001) 0 (by decide) (by decide) ?_ ?_
      · simp only [fX10_bubble, e10_isWithin, e10_isQuestion, e10_isYear, e10_isKind, e10_isSlip, e10_isRoom, e10_isChild, e10_isWay, e10_areHours, q1, q2, q3, Option.bind_some, b2_pos h1, b2_neg h2, ite00, ite10, if_true, if_false]
      · simp only [fX11_bubble, e11_within, e11_isQuestion, e11_isYear, e11_isSlip, e11_is1f, e11_is2f, e11_is3f, e11_areHours, fndC_84, fndC_83, fndC_88, fndC_89, fndC_90, Option.bind_some, b2_pos h1, b2_neg h2, ite00, ite10, if_true, if_false]
  · refine Op_find hI (-1000001) 0 (by decide) (by decide) ?_ ?_
    · simp only [fX10_bubble, e10_isWithin, e10_isQuestion, e10_isYear, e10_isKind, e10_isSlip, e10_isRoom, e10_isChild, e10_isWay, e10_areHours, q1, q2, q3, Option.bind_some, b2_neg h1, ite00, ite10, if_true, if_false]
    · simp only [fX11_bubble, e11_within, e11_isQuestion, e11_isYear, e11_isSlip, e11_is1f, e11_is2f, e11_is3f, e11_areHours, fndC_84, fndC_83, fndC_88, fndC_89, fndC_90, Option.bind_some, b2_neg h1, ite00, ite10, if_true, if_false]
theorem op_as {W : ruWy} {A : ruA} (hI : Inv W A) (x1 x2 x3 x4 : Int32) : Op2 W (fX10_as x1 x2 x3 x4) (fX11_as x1 x2 x3 x4) A := by
  obtain ⟨⟨hn, hq, hc, hs, hb, hr, hh, hf, hw⟩, hK, hMf, hMt, hMs⟩ := id hI
  obtain ⟨m0, m1, m2, m3, m4, m5⟩ := id hn
  have q0 : A.1 2 0 = A.1 84 0 := m0.1
  have q1 : A.1 2 1 = A.1 84 1 := m1.1
  have q2 : A.1 2 2 = A.1 84 2 := m2.1
  have q3 : A.1 14 0 = A.1 84 3 := m3.1
  have q4 : A.1 23 0 = A.1 84 4 := m4.1
  have q5 : A.1 29 0 = A.1 84 5 := m5.1
  have sh : shC A (A.1 84) := ⟨hq, hs, hb, hr⟩
  by_cases h1 : 0 ≤ x1 ∧ x1 ≤ A.1 84 2 - 1
  · by_cases h2 : 0 ≤ x2 ∧ x2 ≤ 5
    · by_cases h3 : 0 ≤ x3 ∧ x3 ≤ 11
      · by_cases h4 : 0 ≤ x4 ∧ x4 ≤ 7
        · obtain ⟨c, hc1, rfl⟩ := ch_of m2.2.1 (by omega) h1
          obtain ⟨y, hy, rfl⟩ := yr_of h2
          obtain ⟨q, hq1, rfl⟩ := qu_of h3
          obtain ⟨k, hk, rfl⟩ := ki_of h4
          have hc2 : c < 24 := by omega
          have hst : 6 * c + y < 144 := by omega
          have g1 := f10_there sh hst
          by_cases ht : A.1 84 (128 + 28 * (6 * c + y)) = 0
          · have ht1 : ¬ A.1 84 (128 + 28 * (6 * c + y)) = 1 := by rw [ht]; decide
            refine Op_find hI (-1000004) 3 (by decide) (by decide) ?_ ?_
            · simp only [fX10_as, e10_isWithin, e10_isQuestion, e10_isYear, e10_isKind, e10_isSlip, e10_isRoom, e10_isChild, e10_isWay, e10_areHours, q1, q2, q3, Option.bind_some, ite00, ite10, if_true, if_false, b2_pos h1, b2_pos h2, b2_pos h3, b2_pos h4, e10_place, g1, ht]
            · simp only [fX11_as, e11_within, e11_isQuestion, e11_isYear, e11_isSlip, e11_is1f, e11_is2f, e11_is3f, e11_areHours, fndC_84, fndC_83, fndC_88, fndC_89, fndC_90, Option.bind_some, ite00, ite10, if_true, if_false, b2_pos h1, b2_pos h2, b2_pos h3, b2_pos h4, f11_hasSheetF A _ hc2 hy, b2_neg ht1]
          · have ht1 := th_of (hs _ hst).2.1 ht
            obtain ⟨w, hw8, ew⟩ := kind_of sh hst hq1
            have u1 : ruld (fun j => ruunder.getD j 0) 8 (iN k) = some (ruunder.getD k 0) := ruld_iN hk (by decide)
            have u2 := e11_isUnder w hw8 k hk
            by_cases hu : bt (ruunder.getD k 0) w = true
            · refine ⟨A.1 84 (129 + 28 * (6 * c + y) + q), A, A, ?_, ?_, hI⟩
              · simp (disch := omega) only [fX10_as, e10_isWithin, e10_isQuestion, e10_isYear, e10_isKind, e10_isSlip, e10_isRoom, e10_isChild, e10_isWay, e10_areHours, q1, q2, q3, Option.bind_some, ite10, b2_pos h1, b2_pos h2, b2_pos h3, b2_pos h4, e10_place, g1, if_neg ht, u1, f10_kindAt sh hst hq1, ew, e10_has, b2_pos hu, f10_choiceAt sh hst hq1]
              · simp only [fX11_as, e11_within, e11_isQuestion, e11_isYear, e11_isSlip, e11_is1, e11_is2, e11_is3, e11_is1N, e11_is2N, e11_is3N, e11_areHours, fndC_84, fndC_83, fndC_88, fndC_89, fndC_90, Option.bind_some, ite10, b2_pos h1, b2_pos h2, b2_pos h3, b2_pos h4, f11_hasSheet A hc2 hy, b2_pos ht1, f11_kind A hc2 hy hq1, ew, u2, b2_pos hu, f11_choice A hc2 hy hq1]
            · have g5 : fX10_has (ruunder.getD k 0) (iN w) = some (b2 (bt (ruunder.getD k 0) w = true)) := e10_has (by omega)
              refine Op_find hI (-1000003) 2 (by decide) (by decide) ?_ ?_
              · simp only [fX10_as, e10_isWithin, e10_isQuestion, e10_isYear, e10_isKind, e10_isSlip, e10_isRoom, e10_isChild, e10_isWay, e10_areHours, q1, q2, q3, Option.bind_some, ite00, ite10, if_true, if_false, b2_pos h1, b2_pos h2, b2_pos h3, b2_pos h4, e10_place, g1, ht, u1, f10_kindAt sh hst hq1, ew, g5, b2_neg hu]
              · simp only [fX11_as, e11_within, e11_isQuestion, e11_isYear, e11_isSlip, e11_is1f, e11_is2f, e11_is3f, e11_areHours, fndC_84, fndC_83, fndC_88, fndC_89, fndC_90, Option.bind_some, ite00, ite10, if_true, if_false, b2_pos h1, b2_pos h2, b2_pos h3, b2_pos h4, f11_hasSheetF A _ hc2 hy, b2_pos ht1, f11_kindF A _ hc2 hy hq1, ew, u2, b2_neg hu]
        · refine Op_find hI (-1000001) 0 (by decide) (by decide) ?_ ?_
          · simp only [fX10_as, e10_isWithin, e10_isQuestion, e10_isYear, e10_isKind, e10_isSlip, e10_isRoom, e10_isChild, e10_isWay, e10_areHours, q1, q2, q3, Option.bind_some, b2_pos h1, b2_pos h2, b2_pos h3, b2_neg h4, ite00, ite10, if_true, if_false]
          · simp only [fX11_as, e11_within, e11_isQuestion, e11_isYear, e11_isSlip, e11_is1f, e11_is2f, e11_is3f, e11_areHours, fndC_84, fndC_83, fndC_88, fndC_89, fndC_90, Option.bind_some, b2_pos h1, b2_pos h2, b2_pos h3, b2_neg h4, ite00, ite10, if_true, if_false]
      · refine Op_find hI (-1000001) 0 (by decide) (by decide) ?_ ?_
        · simp only [fX10_as, e10_isWithin, e10_isQuestion, e10_isYear, e10_isKind, e10_isSlip, e10_isRoom, e10_isChild, e10_isWay, e10_areHours, q1, q2, q3, Option.bind_some, b2_pos h1, b2_pos h2, b2_neg h3, ite00, ite10, if_true, if_false]
        · simp only [fX11_as, e11_within, e11_isQuestion, e11_isYear, e11_isSlip, e11_is1f, e11_is2f, e11_is3f, e11_areHours, fndC_84, fndC_83, fndC_88, fndC_89, fndC_90, Option.bind_some, b2_pos h1, b2_pos h2, b2_neg h3, ite00, ite10, if_true, if_false]
    · refine Op_find hI (-1000001) 0 (by decide) (by decide) ?_ ?_
      · simp only [fX10_as, e10_isWithin, e10_isQuestion, e10_isYear, e10_isKind, e10_isSlip, e10_isRoom, e10_isChild, e10_isWay, e10_areHours, q1, q2, q3, Option.bind_some, b2_pos h1, b2_neg h2, ite00, ite10, if_true, if_false]
      · simp only [fX11_as, e11_within, e11_isQuestion, e11_isYear, e11_isSlip, e11_is1f, e11_is2f, e11_is3f, e11_areHours, fndC_84, fndC_83, fndC_88, fndC_89, fndC_90, Option.bind_some, b2_pos h1, b2_neg h2, ite00, ite10, if_true, if_false]
  · refine Op_find hI (-1000001) 0 (by decide) (by decide) ?_ ?_
    · simp only [fX10_as, e10_isWithin, e10_isQuestion, e10_isYear, e10_isKind, e10_isSlip, e10_isRoom, e10_isChild, e10_isWay, e10_areHours, q1, q2, q3, Option.bind_some, b2_neg h1, ite00, ite10, if_true, if_false]
    · simp only [fX11_as, e11_within, e11_isQuestion, e11_isYear, e11_isSlip, e11_is1f, e11_is2f, e11_is3f, e11_areHours, fndC_84, fndC_83, fndC_88, fndC_89, fndC_90, Option.bind_some, b2_neg h1, ite00, ite10, if_true, if_false]
theorem wt_of {x : Int32} (h : 0 ≤ x ∧ x ≤ 7) : x = 0 ∨ x = 1 ∨ x = 2 ∨ x = 3 ∨ x = 4 ∨ x = 5 ∨ x = 6 ∨ x = 7 := by
  obtain ⟨t, ht, rfl⟩ := iN_of (m := 7) h.1 (by decide) h.2
  have : t = 0 ∨ t = 1 ∨ t = 2 ∨ t = 3 ∨ t = 4 ∨ t = 5 ∨ t = 6 ∨ t = 7 := by omega
  rcases this with rfl | rfl | rfl | rfl | rfl | rfl | rfl | rfl
  · exact Or.inl rfl
  · exact Or.inr (Or.inl rfl)
  · exact Or.inr (Or.inr (Or.inl rfl))
  · exact Or.inr (Or.inr (Or.inr (Or.inl rfl)))
  · exact Or.inr (Or.inr (Or.inr (Or.inr (Or.inl rfl))))
  · exact Or.inr (Or.inr (Or.inr (Or.inr (Or.inr (Or.inl rfl)))))
  · exact Or.inr (Or.inr (Or.inr (Or.inr (Or.inr (Or.inr (Or.inl rfl))))))
  · exact Or.inr (Or.inr (Or.inr (Or.inr (Or.inr (Or.inr (Or.inr rfl))))))
theorem op_weight {W : ruWy} {A : ruA} (hI : Inv W A) (x1 x2 : Int32) : Op2 W (fX10_weight x1 x2) (fX11_weight x1 x2) A := by
  by_cases h1 : 0 ≤ x1 ∧ x1 ≤ 7
  · rcases wt_of h1 with rfl | rfl | rfl | rfl | rfl | rfl | rfl | rfl
    · refine ⟨x2, A, A, ?_, ?_, hI⟩
      · simp only [fX10_weight, e10_isKind, Option.bind_some, b2_pos h1, ite10, if_true, fX10_ownWeight, fX10_putWeight, if_neg (show ¬ (0 : Int32) = 1 by decide), if_neg (show ¬ (0 : Int32) = 2 by decide), if_neg (show ¬ (0 : Int32) = 3 by decide), if_neg (show ¬ (0 : Int32) = 4 by decide), if_neg (show ¬ (0 : Int32) = 5 by decide), if_neg (show ¬ (0 : Int32) = 6 by decide), if_neg (show ¬ (0 : Int32) = 7 by decide)]
      · simp only [fX11_weight, e11_within, Option.bind_some, b2_pos h1, ite10, fX11_weightOfT, fX11_weightOf, if_true, if_neg (show ¬ (0 : Int32) = 1 by decide), if_neg (show ¬ (0 : Int32) = 2 by decide), if_neg (show ¬ (0 : Int32) = 3 by decide), if_neg (show ¬ (0 : Int32) = 4 by decide), if_neg (show ¬ (0 : Int32) = 5 by decide), if_neg (show ¬ (0 : Int32) = 6 by decide), if_neg (show ¬ (0 : Int32) = 7 by decide)]
    · refine ⟨x2 + 2, A, A, ?_, ?_, hI⟩
      · simp only [fX10_weight, e10_isKind, Option.bind_some, b2_pos h1, ite10, if_true, fX10_ownWeight, fX10_putWeight, if_neg (show ¬ (1 : Int32) = 0 by decide), if_neg (show ¬ (1 : Int32) = 2 by decide), if_neg (show ¬ (1 : Int32) = 3 by decide), if_neg (show ¬ (1 : Int32) = 4 by decide), if_neg (show ¬ (1 : Int32) = 5 by decide), if_neg (show ¬ (1 : Int32) = 6 by decide), if_neg (show ¬ (1 : Int32) = 7 by decide)]
      · simp only [fX11_weight, e11_within, Option.bind_some, b2_pos h1, ite10, fX11_weightOfT, fX11_weightOf, if_true, if_neg (show ¬ (1 : Int32) = 0 by decide), if_neg (show ¬ (1 : Int32) = 2 by decide), if_neg (show ¬ (1 : Int32) = 3 by decide), if_neg (show ¬ (1 : Int32) = 4 by decide), if_neg (show ¬ (1 : Int32) = 5 by decide), if_neg (show ¬ (1 : Int32) = 6 by decide), if_neg (show ¬ (1 : Int32) = 7 by decide)]
    · refine ⟨3 * (x2 + 2), A, A, ?_, ?_, hI⟩
      · simp only [fX10_weight, e10_isKind, Option.bind_some, b2_pos h1, ite10, if_true, fX10_ownWeight, fX10_putWeight, if_neg (show ¬ (2 : Int32) = 0 by decide), if_neg (show ¬ (2 : Int32) = 1 by decide), if_neg (show ¬ (2 : Int32) = 3 by decide), if_neg (show ¬ (2 : Int32) = 4 by decide), if_neg (show ¬ (2 : Int32) = 5 by decide), if_neg (show ¬ (2 : Int32) = 6 by decide), if_neg (show ¬ (2 : Int32) = 7 by decide)]
      · simp only [fX11_weight, e11_within, Option.bind_some, b2_pos h1, ite10, fX11_weightOfT, fX11_weightOf, if_true, if_neg (show ¬ (2 : Int32) = 0 by decide), if_neg (show ¬ (2 : Int32) = 1 by decide), if_neg (show ¬ (2 : Int32) = 3 by decide), if_neg (show ¬ (2 : Int32) = 4 by decide), if_neg (show ¬ (2 : Int32) = 5 by decide), if_neg (show ¬ (2 : Int32) = 6 by decide), if_neg (show ¬ (2 : Int32) = 7 by decide), if_neg (show ¬ (1 : Int32) = 0 by decide), if_neg (show ¬ (5 : Int32) = 0 by decide), if_neg (show ¬ (5 : Int32) = 1 by decide), if_neg (show ¬ (5 : Int32) = 2 by decide), if_neg (show ¬ (5 : Int32) = 3 by decide), if_neg (show ¬ (5 : Int32) = 4 by decide)]
    · refine ⟨x2 / 2, A, A, ?_, ?_, hI⟩
      · simp only [fX10_weight, e10_isKind, Option.bind_some, b2_pos h1, ite10, if_true, fX10_ownWeight, fX10_putWeight, if_neg (show ¬ (3 : Int32) = 0 by decide), if_neg (show ¬ (3 : Int32) = 1 by decide), if_neg (show ¬ (3 : Int32) = 2 by decide), if_neg (show ¬ (3 : Int32) = 4 by decide), if_neg (show ¬ (3 : Int32) = 5 by decide), if_neg (show ¬ (3 : Int32) = 6 by decide), if_neg (show ¬ (3 : Int32) = 7 by decide)]
      · simp only [fX11_weight, e11_within, Option.bind_some, b2_pos h1, ite10, fX11_weightOfT, fX11_weightOf, if_true, if_neg (show ¬ (3 : Int32) = 0 by decide), if_neg (show ¬ (3 : Int32) = 1 by decide), if_neg (show ¬ (3 : Int32) = 2 by decide), if_neg (show ¬ (3 : Int32) = 4 by decide), if_neg (show ¬ (3 : Int32) = 5 by decide), if_neg (show ¬ (3 : Int32) = 6 by decide), if_neg (show ¬ (3 : Int32) = 7 by decide)]
    · refine ⟨x2 - 1, A, A, ?_, ?_, hI⟩
      · simp only [fX10_weight, e10_isKind, Option.bind_some, b2_pos h1, ite10, if_true, fX10_ownWeight, fX10_putWeight, if_neg (show ¬ (4 : Int32) = 0 by decide), if_neg (show ¬ (4 : Int32) = 1 by decide), if_neg (show ¬ (4 : Int32) = 2 by decide), if_neg (show ¬ (4 : Int32) = 3 by decide), if_neg (show ¬ (4 : Int32) = 5 by decide), if_neg (show ¬ (4 : Int32) = 6 by decide), if_neg (show ¬ (4 : Int32) = 7 by decide)]
      · simp only [fX11_weight, e11_within, Option.bind_some, b2_pos h1, ite10, fX11_weightOfT, fX11_weightOf, if_true, if_neg (show ¬ (4 : Int32) = 0 by decide), if_neg (show ¬ (4 : Int32) = 1 by decide), if_neg (show ¬ (4 : Int32) = 2 by decide), if_neg (show ¬ (4 : Int32) = 3 by decide), if_neg (show ¬ (4 : Int32) = 5 by decide), if_neg (show ¬ (4 : Int32) = 6 by decide), if_neg (show ¬ (4 : Int32) = 7 by decide)]
    · refine ⟨-x2, A, A, ?_, ?_, hI⟩
      · simp only [fX10_weight, e10_isKind, Option.bind_some, b2_pos h1, ite10, if_true, fX10_ownWeight, fX10_putWeight, if_neg (show ¬ (5 : Int32) = 0 by decide), if_neg (show ¬ (5 : Int32) = 1 by decide), if_neg (show ¬ (5 : Int32) = 2 by decide), if_neg (show ¬ (5 : Int32) = 3 by decide), if_neg (show ¬ (5 : Int32) = 4 by decide), if_neg (show ¬ (5 : Int32) = 6 by decide), if_neg (show ¬ (5 : Int32) = 7 by decide)]
      · simp only [fX11_weight, e11_within, Option.bind_some, b2_pos h1, ite10, fX11_weightOfT, fX11_weightOf, if_true, if_neg (show ¬ (5 : Int32) = 0 by decide), if_neg (show ¬ (5 : Int32) = 1 by decide), if_neg (show ¬ (5 : Int32) = 2 by decide), if_neg (show ¬ (5 : Int32) = 3 by decide), if_neg (show ¬ (5 : Int32) = 4 by decide), if_neg (show ¬ (5 : Int32) = 6 by decide), if_neg (show ¬ (5 : Int32) = 7 by decide)]
    · refine ⟨-x2 - x2, A, A, ?_, ?_, hI⟩
      · simp only [fX10_weight, e10_isKind, Option.bind_some, b2_pos h1, ite10, if_true, fX10_ownWeight, fX10_putWeight, if_neg (show ¬ (6 : Int32) = 0 by decide), if_neg (show ¬ (6 : Int32) = 1 by decide), if_neg (show ¬ (6 : Int32) = 2 by decide), if_neg (show ¬ (6 : Int32) = 3 by decide), if_neg (show ¬ (6 : Int32) = 4 by decide), if_neg (show ¬ (6 : Int32) = 5 by decide), if_neg (show ¬ (6 : Int32) = 7 by decide)]
      · simp only [fX11_weight, e11_within, Option.bind_some, b2_pos h1, ite10, fX11_weightOfT, fX11_weightOf, if_true, if_neg (show ¬ (6 : Int32) = 0 by decide), if_neg (show ¬ (6 : Int32) = 1 by decide), if_neg (show ¬ (6 : Int32) = 2 by decide), if_neg (show ¬ (6 : Int32) = 3 by decide), if_neg (show ¬ (6 : Int32) = 4 by decide), if_neg (show ¬ (6 : Int32) = 5 by decide), if_neg (show ¬ (6 : Int32) = 7 by decide), if_neg (show ¬ (1 : Int32) = 0 by decide), if_neg (show ¬ (5 : Int32) = 0 by decide), if_neg (show ¬ (5 : Int32) = 1 by decide), if_neg (show ¬ (5 : Int32) = 2 by decide), if_neg (show ¬ (5 : Int32) = 3 by decide), if_neg (show ¬ (5 : Int32) = 4 by decide)]
    · refine ⟨x2 - 1 + 2, A, A, ?_, ?_, hI⟩
      · simp only [fX10_weight, e10_isKind, Option.bind_some, b2_pos h1, ite10, if_true, fX10_ownWeight, fX10_putWeight, if_neg (show ¬ (7 : Int32) = 0 by decide), if_neg (show ¬ (7 : Int32) = 1 by decide), if_neg (show ¬ (7 : Int32) = 2 by decide), if_neg (show ¬ (7 : Int32) = 3 by decide), if_neg (show ¬ (7 : Int32) = 4 by decide), if_neg (show ¬ (7 : Int32) = 5 by decide), if_neg (show ¬ (7 : Int32) = 6 by decide)]
      · simp only [fX11_weight, e11_within, Option.bind_some, b2_pos h1, ite10, fX11_weightOfT, fX11_weightOf, if_true, if_neg (show ¬ (7 : Int32) = 0 by decide), if_neg (show ¬ (7 : Int32) = 1 by decide), if_neg (show ¬ (7 : Int32) = 2 by decide), if_neg (show ¬ (7 : Int32) = 3 by decide), if_neg (show ¬ (7 : Int32) = 4 by decide), if_neg (show ¬ (7 : Int32) = 5 by decide), if_neg (show ¬ (7 : Int32) = 6 by decide), if_neg (show ¬ (1 : Int32) = 0 by decide), if_neg (show ¬ (5 : Int32) = 0 by decide), if_neg (show ¬ (5 : Int32) = 1 by decide), if_neg (show ¬ (5 : Int32) = 2 by decide), if_neg (show ¬ (5 : Int32) = 3 by decide), if_neg (show ¬ (5 : Int32) = 4 by decide)]
  · refine Op_find hI (-1000001) 0 (by decide) (by decide) ?_ ?_
    · simp only [fX10_weight, e10_isKind, Option.bind_some, b2_neg h1, ite00, if_true]
    · simp only [fX11_weight, e11_within, Option.bind_some, b2_neg h1, ite00, if_true]
theorem op_sheetIs {W : ruWy} {A : ruA} (hI : Inv W A) (x1 x2 x3 : Int32) : Op2 W (fX10_sheetIs x1 x2 x3) (fX11_sheetIs x1 x2 x3) A := by
  obtain ⟨⟨hn, hq, hc, hs, hb, hr, hh, hf, hw⟩, hK, hMf, hMt, hMs⟩ := id hI
  obtain ⟨m0, m1, m2, m3, m4, m5⟩ := id hn
  have q0 : A.1 2 0 = A.1 84 0 := m0.1
  have q1 : A.1 2 1 = A.1 84 1 := m1.1
  have q2 : A.1 2 2 = A.1 84 2 := m2.1
  have q3 : A.1 14 0 = A.1 84 3 := m3.1
  have q4 : A.1 23 0 = A.1 84 4 := m4.1
  have q5 : A.1 29 0 = A.1 84 5 := m5.1
  have sh : shC A (A.1 84) := ⟨hq, hs, hb, hr⟩
  by_cases h1 : 0 ≤ x1 ∧ x1 ≤ A.1 84 2 - 1
  · by_cases h2 : 0 ≤ x2 ∧ x2 ≤ 5
    · by_cases h3 : 0 ≤ x3 ∧ x3 ≤ 6
      · obtain ⟨c, hc1, rfl⟩ := ch_of m2.2.1 (by omega) h1
        obtain ⟨y, hy, rfl⟩ := yr_of h2
        have hc2 : c < 24 := by omega
        have hst : 6 * c + y < 144 := by omega
        have g1 := f10_there sh hst
        have hkd : ∀ s, s < 144 → ∀ q, q < 12 → 0 ≤ A.1 84 (141 + 28 * s + q) ∧ A.1 84 (141 + 28 * s + q) ≤ 7 := fun s a q b => (hb s a q b).2.2.2
        have rub : ∀ k, k < 3 → ruld (A.1 84) 4920 (iN (128 + 28 * (6 * c + y)) + 25 + iN (k + 2) - 2) = some (A.1 84 (153 + 28 * (6 * c + y) + k)) := by
          intro k hk
          have e : iN (128 + 28 * (6 * c + y)) + 25 + iN (k + 2) - 2 = iN (153 + 28 * (6 * c + y) + k) := by
            rw [li25, li2, iN_add, iN_add, iN_sub (by omega)]
            congr 1
            omega
          rw [e, ruld_iN (by omega) (by decide)]
        have rub2 : ruld (A.1 84) 4920 (iN (128 + 28 * (6 * c + y)) + 25 + 2 - 2) = some (A.1 84 (153 + 28 * (6 * c + y) + 0)) := rub 0 (by decide)
        have rub3 : ruld (A.1 84) 4920 (iN (128 + 28 * (6 * c + y)) + 25 + 3 - 2) = some (A.1 84 (153 + 28 * (6 * c + y) + 1)) := rub 1 (by decide)
        have rub4 : ruld (A.1 84) 4920 (iN (128 + 28 * (6 * c + y)) + 25 + 4 - 2) = some (A.1 84 (153 + 28 * (6 * c + y) + 2)) := rub 2 (by decide)
        by_cases ht : A.1 84 (128 + 28 * (6 * c + y)) = 0
        · have ht1 : ¬ A.1 84 (128 + 28 * (6 * c + y)) = 1 := by rw [ht]; decide
          refine Op_find hI (-1000004) 3 (by decide) (by decide) ?_ ?_
          · simp only [fX10_sheetIs, e10_isWithin, e10_isQuestion, e10_isYear, e10_isKind, e10_isSlip, e10_isRoom, e10_isChild, e10_isWay, e10_areHours, q1, q2, q3, Option.bind_some, ite00, ite10, if_true, if_false, b2_pos h1, b2_pos h2, b2_pos h3, e10_place, g1, ht]
          · simp only [fX11_sheetIs, e11_within, e11_isQuestion, e11_isYear, e11_isSlip, e11_is1f, e11_is2f, e11_is3f, e11_areHours, fndC_84, fndC_83, fndC_88, fndC_89, fndC_90, Option.bind_some, ite00, ite10, if_true, if_false, b2_pos h1, b2_pos h2, b2_pos h3, f11_hasSheetF A _ hc2 hy, b2_neg ht1]
        · have ht1 := th_of (hs _ hst).2.1 ht
          rcases le6_of h3 with rfl | rfl | rfl | rfl | rfl | rfl | rfl
          · refine ⟨nRights (A.1 84) (6 * c + y), A, A, ?_, ?_, hI⟩
            · simp only [fX10_sheetIs, e10_isWithin, e10_isQuestion, e10_isYear, e10_isKind, e10_isSlip, e10_isRoom, e10_isChild, e10_isWay, e10_areHours, q1, q2, q3, Option.bind_some, ite10, b2_pos h1, b2_pos h2, b2_pos h3, e10_place, g1, if_neg ht, if_true, f10_rights sh hst]
            · simp only [fX11_sheetIs, e11_within, e11_isQuestion, e11_isYear, e11_isSlip, e11_is1, e11_is2, e11_is3, e11_is1N, e11_is2N, e11_is3N, e11_areHours, fndC_84, fndC_83, fndC_88, fndC_89, fndC_90, Option.bind_some, ite10, b2_pos h1, b2_pos h2, b2_pos h3, f11_hasSheet A hc2 hy, b2_pos ht1, if_true, f11_rights A hc2 hy]
          · refine ⟨nBlank (A.1 84) (6 * c + y), A, A, ?_, ?_, hI⟩
            · simp only [fX10_sheetIs, e10_isWithin, e10_isQuestion, e10_isYear, e10_isKind, e10_isSlip, e10_isRoom, e10_isChild, e10_isWay, e10_areHours, q1, q2, q3, Option.bind_some, ite10, b2_pos h1, b2_pos h2, b2_pos h3, e10_place, g1, if_neg ht, if_true, if_neg (show ¬ (1 : Int32) = 0 by decide), f10_filled sh hst, filled_blank]
            · simp only [fX11_sheetIs, e11_within, e11_isQuestion, e11_isYear, e11_isSlip, e11_is1, e11_is2, e11_is3, e11_is1N, e11_is2N, e11_is3N, e11_areHours, fndC_84, fndC_83, fndC_88, fndC_89, fndC_90, Option.bind_some, ite10, b2_pos h1, b2_pos h2, b2_pos h3, f11_hasSheet A hc2 hy, b2_pos ht1, if_true, if_neg (show ¬ (1 : Int32) = 0 by decide), f11_blank A hc2 hy]
          · refine ⟨A.1 84 (153 + 28 * (6 * c + y) + 0), A, A, ?_, ?_, hI⟩
            · simp only [fX10_sheetIs, e10_isWithin, e10_isQuestion, e10_isYear, e10_isKind, e10_isSlip, e10_isRoom, e10_isChild, e10_isWay, e10_areHours, q1, q2, q3, Option.bind_some, ite10, b2_pos h1, b2_pos h2, b2_pos h3, e10_place, g1, if_neg ht, if_true, if_neg (show ¬ (2 : Int32) = 0 by decide), if_neg (show ¬ (2 : Int32) = 1 by decide), show fX6_rubbedAt (iN (6 * c + y)) 0 A = _ from f10_rubbedAt sh hst (show 0 < 3 by decide)]
            · simp only [fX11_sheetIs, e11_within, e11_isQuestion, e11_isYear, e11_isSlip, e11_is1, e11_is2, e11_is3, e11_is1N, e11_is2N, e11_is3N, e11_areHours, fndC_84, fndC_83, fndC_88, fndC_89, fndC_90, Option.bind_some, ite10, b2_pos h1, b2_pos h2, b2_pos h3, f11_hasSheet A hc2 hy, b2_pos ht1, if_true, if_neg (show ¬ (2 : Int32) = 0 by decide), if_neg (show ¬ (2 : Int32) = 1 by decide), e11_sheetAt, rub2]
          · refine ⟨A.1 84 (153 + 28 * (6 * c + y) + 1), A, A, ?_, ?_, hI⟩
            · simp only [fX10_sheetIs, e10_isWithin, e10_isQuestion, e10_isYear, e10_isKind, e10_isSlip, e10_isRoom, e10_isChild, e10_isWay, e10_areHours, q1, q2, q3, Option.bind_some, ite10, b2_pos h1, b2_pos h2, b2_pos h3, e10_place, g1, if_neg ht, if_true, if_neg (show ¬ (3 : Int32) = 0 by decide), if_neg (show ¬ (3 : Int32) = 1 by decide), if_neg (show ¬ (3 : Int32) = 2 by decide), show fX6_rubbedAt (iN (6 * c + y)) 1 A = _ from f10_rubbedAt sh hst (show 1 < 3 by decide)]
            · simp only [fX11_sheetIs, e11_within, e11_isQuestion, e11_isYear, e11_isSlip, e11_is1, e11_is2, e11_is3, e11_is1N, e11_is2N, e11_is3N, e11_areHours, fndC_84, fndC_83, fndC_88, fndC_89, fndC_90, Option.bind_some, ite10, b2_pos h1, b2_pos h2, b2_pos h3, f11_hasSheet A hc2 hy, b2_pos ht1, if_true, if_neg (show ¬ (3 : Int32) = 0 by decide), if_neg (show ¬ (3 : Int32) = 1 by decide), if_neg (show ¬ (3 : Int32) = 2 by decide), e11_sheetAt, rub3]
          · refine ⟨A.1 84 (153 + 28 * (6 * c + y) + 2), A, A, ?_, ?_, hI⟩
            · simp only [fX10_sheetIs, e10_isWithin, e10_isQuestion, e10_isYear, e10_isKind, e10_isSlip, e10_isRoom, e10_isChild, e10_isWay, e10_areHours, q1, q2, q3, Option.bind_some, ite10, b2_pos h1, b2_pos h2, b2_pos h3, e10_place, g1, if_neg ht, if_true, if_neg (show ¬ (4 : Int32) = 0 by decide), if_neg (show ¬ (4 : Int32) = 1 by decide), if_neg (show ¬ (4 : Int32) = 2 by decide), if_neg (show ¬ (4 : Int32) = 3 by decide), show fX6_rubbedAt (iN (6 * c + y)) 2 A = _ from f10_rubbedAt sh hst (show 2 < 3 by decide)]
            · simp only [fX11_sheetIs, e11_within, e11_isQuestion, e11_isYear, e11_isSlip, e11_is1, e11_is2, e11_is3, e11_is1N, e11_is2N, e11_is3N, e11_areHours, fndC_84, fndC_83, fndC_88, fndC_89, fndC_90, Option.bind_some, ite10, b2_pos h1, b2_pos h2, b2_pos h3, f11_hasSheet A hc2 hy, b2_pos ht1, if_true, if_neg (show ¬ (4 : Int32) = 0 by decide), if_neg (show ¬ (4 : Int32) = 1 by decide), if_neg (show ¬ (4 : Int32) = 2 by decide), if_neg (show ¬ (4 : Int32) = 3 by decide), e11_sheetAt, rub4]
          · refine ⟨nUnfit (A.1 84) (6 * c + y), A, A, ?_, ?_, hI⟩
            · simp only [fX10_sheetIs, e10_isWithin, e10_isQuestion, e10_isYear, e10_isKind, e10_isSlip, e10_isRoom, e10_isChild, e10_isWay, e10_areHours, q1, q2, q3, Option.bind_some, ite10, b2_pos h1, b2_pos h2, b2_pos h3, e10_place, g1, if_neg ht, if_true, if_neg (show ¬ (5 : Int32) = 0 by decide), if_neg (show ¬ (5 : Int32) = 1 by decide), if_neg (show ¬ (5 : Int32) = 2 by decide), if_neg (show ¬ (5 : Int32) = 3 by decide), if_neg (show ¬ (5 : Int32) = 4 by decide), f10_unfit sh hst]
            · simp only [fX11_sheetIs, e11_within, e11_isQuestion, e11_isYear, e11_isSlip, e11_is1, e11_is2, e11_is3, e11_is1N, e11_is2N, e11_is3N, e11_areHours, fndC_84, fndC_83, fndC_88, fndC_89, fndC_90, Option.bind_some, ite10, b2_pos h1, b2_pos h2, b2_pos h3, f11_hasSheet A hc2 hy, b2_pos ht1, if_true, if_neg (show ¬ (5 : Int32) = 0 by decide), if_neg (show ¬ (5 : Int32) = 1 by decide), if_neg (show ¬ (5 : Int32) = 2 by decide), if_neg (show ¬ (5 : Int32) = 3 by decide), if_neg (show ¬ (5 : Int32) = 4 by decide), f11_unfit A hc2 hy]
          · refine ⟨nPuts (A.1 84) (6 * c + y), A, A, ?_, ?_, hI⟩
            · simp only [fX10_sheetIs, e10_isWithin, e10_isQuestion, e10_isYear, e10_isKind, e10_isSlip, e10_isRoom, e10_isChild, e10_isWay, e10_areHours, q1, q2, q3, Option.bind_some, ite10, b2_pos h1, b2_pos h2, b2_pos h3, e10_place, g1, if_neg ht, if_true, if_neg (show ¬ (6 : Int32) = 0 by decide), if_neg (show ¬ (6 : Int32) = 1 by decide), if_neg (show ¬ (6 : Int32) = 2 by decide), if_neg (show ¬ (6 : Int32) = 3 by decide), if_neg (show ¬ (6 : Int32) = 4 by decide), if_neg (show ¬ (6 : Int32) = 5 by decide), f10_standingBy sh hst]
            · simp only [fX11_sheetIs, e11_within, e11_isQuestion, e11_isYear, e11_isSlip, e11_is1, e11_is2, e11_is3, e11_is1N, e11_is2N, e11_is3N, e11_areHours, fndC_84, fndC_83, fndC_88, fndC_89, fndC_90, Option.bind_some, ite10, b2_pos h1, b2_pos h2, b2_pos h3, f11_hasSheet A hc2 hy, b2_pos ht1, if_true, if_neg (show ¬ (6 : Int32) = 0 by decide), if_neg (show ¬ (6 : Int32) = 1 by decide), if_neg (show ¬ (6 : Int32) = 2 by decide), if_neg (show ¬ (6 : Int32) = 3 by decide), if_neg (show ¬ (6 : Int32) = 4 by decide), if_neg (show ¬ (6 : Int32) = 5 by decide), f11_putsOn A hkd hc2 hy]
      · refine Op_find hI (-1000001) 0 (by decide) (by decide) ?_ ?_
        · simp only [fX10_sheetIs, e10_isWithin, e10_isQuestion, e10_isYear, e10_isKind, e10_isSlip, e10_isRoom, e10_isChild, e10_isWay, e10_areHours, q1, q2, q3, Option.bind_some, b2_pos h1, b2_pos h2, b2_neg h3, ite00, ite10, if_true, if_false]
        · simp only [fX11_sheetIs, e11_within, e11_isQuestion, e11_isYear, e11_isSlip, e11_is1f, e11_is2f, e11_is3f, e11_areHours, fndC_84, fndC_83, fndC_88, fndC_89, fndC_90, Option.bind_some, b2_pos h1, b2_pos h2, b2_neg h3, ite00, ite10, if_true, if_false]
    · refine Op_find hI (-1000001) 0 (by decide) (by decide) ?_ ?_
      · simp only [fX10_sheetIs, e10_isWithin, e10_isQuestion, e10_isYear, e10_isKind, e10_isSlip, e10_isRoom, e10_isChild, e10_isWay, e10_areHours, q1, q2, q3, Option.bind_some, b2_pos h1, b2_neg h2, ite00, ite10, if_true, if_false]
      · simp only [fX11_sheetIs, e11_within, e11_isQuestion, e11_isYear, e11_isSlip, e11_is1f, e11_is2f, e11_is3f, e11_areHours, fndC_84, fndC_83, fndC_88, fndC_89, fndC_90, Option.bind_some, b2_pos h1, b2_neg h2, ite00, ite10, if_true, if_false]
  · refine Op_find hI (-1000001) 0 (by decide) (by decide) ?_ ?_
    · simp only [fX10_sheetIs, e10_isWithin, e10_isQuestion, e10_isYear, e10_isKind, e10_isSlip, e10_isRoom, e10_isChild, e10_isWay, e10_areHours, q1, q2, q3, Option.bind_some, b2_neg h1, ite00, ite10, if_true, if_false]
    · simp only [fX11_sheetIs, e11_within, e11_isQuestion, e11_isYear, e11_isSlip, e11_is1f, e11_is2f, e11_is3f, e11_areHours, fndC_84, fndC_83, fndC_88, fndC_89, fndC_90, Option.bind_some, b2_neg h1, ite00, ite10, if_true, if_false]
