/-! LEVEL 2: the first calls -/
theorem two_of {x : Int32} (h : 0 ≤ x ∧ x ≤ 1) : x = 0 ∨ x = 1 := by
  obtain ⟨t, ht, rfl⟩ := iN_of (m := 1) h.1 (by decide) h.2
  have : t = 0 ∨ t = 1 := by omega
  rcases this with rfl | rfl
  · exact Or.inl rfl
  · exact Or.inr rfl
theorem op_room {W : ruWy} {A : ruA} (hI : Inv W A) : Op2 W fX10_room fX11_room A := by
  obtain ⟨⟨hn, hq, hc, hs, hb, hr, hh, hf, hw⟩, hK, hMf, hMt, hMs⟩ := id hI
  obtain ⟨m0, m1, m2, m3, m4, m5⟩ := id hn
  have q0 : A.1 2 0 = A.1 84 0 := m0.1
  have q1 : A.1 2 1 = A.1 84 1 := m1.1
  have q2 : A.1 2 2 = A.1 84 2 := m2.1
  have q3 : A.1 14 0 = A.1 84 3 := m3.1
  have q4 : A.1 23 0 = A.1 84 4 := m4.1
  have q5 : A.1 29 0 = A.1 84 5 := m5.1
  obtain ⟨n1, n2, n3⟩ := id m1
  generalize hr9 : cn (A.1 84) 1 = r at *
  have n1 : A.1 2 1 = A.1 84 1 := n1
  have e1 : (1 : Int32) = iN 1 := rfl
  by_cases h : r < 6
  · have hf1 : fX10_room A = some (iN r, ruset A 2 1 (iN (r + 1))) := by
      simp (disch := omega) only [fX10_room, n1, n2, li6, iN_lt, iN_add1, Option.bind_some, rs_1, upd_at, if_true, iN_sub1, Nat.add_sub_cancel, if_pos h]
    have hg1 : fX11_room (ruset A 2 1 (iN (r + 1))) = some (iN r, ruset (ruset A 2 1 (iN (r + 1))) 84 1 (iN (r + 1))) := by
      simp (disch := omega) [fX11_room, e1, ruld_iN, rust_iN, rs_1, upd_at, n2, li6, iN_inj, iN_add, iN_sub, Nat.ne_of_lt h]
    have eK : ∀ k, k ≠ 2 ∧ k ≠ 84 → (ruset (ruset A 2 1 (iN (r + 1))) 84 1 (iN (r + 1))).1 k = A.1 k := by
      intro k hk
      simp (disch := omega) only [rs_eq, rs_ne, upd_same, upd_ne, Nat.reduceAdd]
    have eN : ∀ i, i ≠ 1 → (ruset (ruset A 2 1 (iN (r + 1))) 84 1 (iN (r + 1))).1 84 i = A.1 84 i := by
      intro i hi
      simp (disch := omega) only [rs_eq, rs_ne, upd_same, upd_ne, Nat.reduceAdd]
    refine ⟨_, _, _, hf1, hg1, hI.now ?_ ?_⟩
    · refine ⟨fun k hk => eK k (by omega), ⟨rfl, rfl, rfl⟩, ⟨rfl, rfl, rfl⟩⟩
    · have e9 : cn ((ruset (ruset A 2 1 (iN (r + 1))) 84 1 (iN (r + 1))).1 84) 1 = r + 1 := cn_iN rfl (by omega)
      refine ⟨⟨m0, ⟨rfl, by rw [e9]; rfl, by rw [e9]; omega⟩, m2, m3, m4, m5⟩, hq.congr ⟨rfl, rfl⟩ fun i h1 h2 => eN _ (by omega), hc.congr ⟨rfl, rfl, rfl, rfl⟩ (eN _ (by omega)) fun i h1 h2 => eN _ (by omega), hs.congr rfl (eN _ (by omega)) fun i h1 => eN _ (by omega), hb.congr ⟨rfl, rfl⟩ fun i h1 j h2 => eN _ (by omega), hr.congr rfl fun i h1 j h2 => eN _ (by omega), hh.congr ⟨rfl, rfl, rfl, rfl⟩ (eN _ (by omega)) m4.2.2 fun i h1 h2 => eN _ (by omega), hf.congr ⟨rfl, rfl⟩ (eN _ (by omega)) m5.2.2 fun i h1 h2 => eN _ (by omega), hw.congr (fun k h1 h2 => eK _ (by omega)) (eN _ (by omega)) m3.2.2 fun i h1 h2 => eN _ (by omega)⟩
  · have h6 : r = 6 := by omega
    subst h6
    refine Op_find hI (-1000002) 1 (by decide) (by decide) ?_ ?_
    · simp (disch := omega) only [fX10_room, n1, n2, li6, iN_lt, Nat.lt_irrefl, if_false]
    · simp (disch := omega) [fX11_room, fndC, e1, ruld_iN, rust_iN, rs_1, upd_at, n2, li6, iN_inj]
theorem op_year {W : ruWy} {A : ruA} (hI : Inv W A) : Op2 W fX10_year fX11_year A := by
  obtain ⟨⟨hn, hq, hc, hs, hb, hr, hh, hf, hw⟩, hK, hMf, hMt, hMs⟩ := id hI
  obtain ⟨m0, m1, m2, m3, m4, m5⟩ := id hn
  have q0 : A.1 2 0 = A.1 84 0 := m0.1
  have q1 : A.1 2 1 = A.1 84 1 := m1.1
  have q2 : A.1 2 2 = A.1 84 2 := m2.1
  have q3 : A.1 14 0 = A.1 84 3 := m3.1
  have q4 : A.1 23 0 = A.1 84 4 := m4.1
  have q5 : A.1 29 0 = A.1 84 5 := m5.1
  obtain ⟨n1, n2, n3⟩ := id m0
  generalize hr9 : cn (A.1 84) 0 = r at *
  have n1 : A.1 2 0 = A.1 84 0 := n1
  have e0 : (0 : Int32) = iN 0 := rfl
  by_cases h : r < 5
  · have hf1 : fX10_year A = some (iN (r + 1), ruset A 2 0 (iN (r + 1))) := by
      simp (disch := omega) only [fX10_year, n1, n2, li5, iN_lt, iN_add1, Option.bind_some, rs_1, upd_at, if_true, if_pos h]
    have hg1 : fX11_year (ruset A 2 0 (iN (r + 1))) = some (iN (r + 1), ruset (ruset A 2 0 (iN (r + 1))) 84 0 (iN (r + 1))) := by
      simp (disch := omega) [fX11_year, e0, ruld_iN, rust_iN, rs_1, upd_at, n2, li5, iN_inj, iN_add1, Nat.ne_of_lt h]
    have eK : ∀ k, k ≠ 2 ∧ k ≠ 84 → (ruset (ruset A 2 0 (iN (r + 1))) 84 0 (iN (r + 1))).1 k = A.1 k := by
      intro k hk
      simp (disch := omega) only [rs_eq, rs_ne, upd_same, upd_ne, Nat.reduceAdd]
    have eN : ∀ i, i ≠ 0 → (ruset (ruset A 2 0 (iN (r + 1))) 84 0 (iN (r + 1))).1 84 i = A.1 84 i := by
      intro i hi
      simp (disch := omega) only [rs_eq, rs_ne, upd_same, upd_ne, Nat.reduceAdd]
    refine ⟨_, _, _, hf1, hg1, hI.now ?_ ?_⟩
    · refine ⟨fun k hk => eK k (by omega), ⟨rfl, rfl, rfl⟩, ⟨rfl, rfl, rfl⟩⟩
    · have e9 : cn ((ruset (ruset A 2 0 (iN (r + 1))) 84 0 (iN (r + 1))).1 84) 0 = r + 1 := cn_iN rfl (by omega)
      refine ⟨⟨⟨rfl, by rw [e9]; rfl, by rw [e9]; omega⟩, m1, m2, m3, m4, m5⟩, hq.congr ⟨rfl, rfl⟩ fun i h1 h2 => eN _ (by omega), hc.congr ⟨rfl, rfl, rfl, rfl⟩ (eN _ (by omega)) fun i h1 h2 => eN _ (by omega), hs.congr rfl (eN _ (by omega)) fun i h1 => eN _ (by omega), hb.congr ⟨rfl, rfl⟩ fun i h1 j h2 => eN _ (by omega), hr.congr rfl fun i h1 j h2 => eN _ (by omega), hh.congr ⟨rfl, rfl, rfl, rfl⟩ (eN _ (by omega)) m4.2.2 fun i h1 h2 => eN _ (by omega), hf.congr ⟨rfl, rfl⟩ (eN _ (by omega)) m5.2.2 fun i h1 h2 => eN _ (by omega), hw.congr (fun k h1 h2 => eK _ (by omega)) (eN _ (by omega)) m3.2.2 fun i h1 h2 => eN _ (by omega)⟩
  · have h6 : r = 5 := by omega
    subst h6
    refine Op_find hI (-1000002) 1 (by decide) (by decide) ?_ ?_
    · simp (disch := omega) only [fX10_year, n1, n2, li5, iN_lt, Nat.lt_irrefl, if_false]
    · simp (disch := omega) [fX11_year, fndC, e0, ruld_iN, rust_iN, rs_1, upd_at, n2, li5, iN_inj]
theorem op_question {W : ruWy} {A : ruA} (hI : Inv W A) (x1 x2 x3 : Int32) : Op2 W (fX10_question x1 x2 x3) (fX11_question x1 x2 x3) A := by
  obtain ⟨⟨hn, hq, hc, hs, hb, hr, hh, hf, hw⟩, hK, hMf, hMt, hMs⟩ := id hI
  obtain ⟨m0, m1, m2, m3, m4, m5⟩ := id hn
  have q0 : A.1 2 0 = A.1 84 0 := m0.1
  have q1 : A.1 2 1 = A.1 84 1 := m1.1
  have q2 : A.1 2 2 = A.1 84 2 := m2.1
  have q3 : A.1 14 0 = A.1 84 3 := m3.1
  have q4 : A.1 23 0 = A.1 84 4 := m4.1
  have q5 : A.1 29 0 = A.1 84 5 := m5.1
  by_cases h1 : 0 ≤ x1 ∧ x1 ≤ 11
  · by_cases h2 : 0 ≤ x2 ∧ x2 ≤ 1
    · obtain ⟨q, hq1, rfl⟩ := iN_of (m := 11) h1.1 (by decide) h1.2
      have e3 : rudI 3 = some 12 := rfl
      have e4 : rudI 4 = some 12 := rfl
      rcases two_of h2 with rfl | rfl
      · by_cases h3 : 0 ≤ x3 ∧ x3 ≤ 3
        · have hf1 : fX10_question (iN q) 0 x3 A = some (A.1 3 q, ruset A 3 q x3) := by
            simp (disch := omega) only [fX10_question, e10_isWithin, e10_isQuestion, e10_isYear, e10_isKind, e10_isSlip, e10_isRoom, e10_isChild, e10_isWay, e10_areHours, q1, q2, q3, Option.bind_some, b2_pos h1, b2_pos h2, ite10, if_true, if_false, b2_pos h3, e3, ruld_iN, rust_iN]
          have hg1 : fX11_question (iN q) 0 x3 (ruset A 3 q x3) = some (A.1 84 (8 + q), ruset (ruset A 3 q x3) 84 (8 + q) x3) := by
            simp (disch := omega) only [fX11_question, e11_within, e11_isQuestion, e11_isYear, e11_isSlip, e11_is1, e11_is2, e11_is3, e11_is1N, e11_is2N, e11_is3N, e11_areHours, fndC_84, fndC_83, fndC_88, fndC_89, fndC_90, Option.bind_some, b2_pos h1, b2_pos h2, ite10, if_true, if_false, b2_pos h3, li8, iN_add, ruld_iN, rust_iN, rs_1, if_neg]
          have eK : ∀ k, k ≠ 3 ∧ k ≠ 84 → (ruset (ruset A 3 q x3) 84 (8 + q) x3).1 k = A.1 k := by
            intro k hk
            simp (disch := omega) only [rs_eq, rs_ne, upd_same, upd_ne, Nat.reduceAdd]
          have eN : ∀ i, i ≠ 8 + q → (ruset (ruset A 3 q x3) 84 (8 + q) x3).1 84 i = A.1 84 i := by
            intro i hi
            simp (disch := omega) only [rs_eq, rs_ne, upd_same, upd_ne, Nat.reduceAdd]
          refine ⟨_, _, _, hf1, (by rw [hg1, show A.1 3 q = A.1 84 (8 + q) from (hq q (by omega)).1]), hI.now ?_ ?_⟩
          · refine ⟨fun k hk => eK k (by omega), ⟨rfl, rfl, rfl⟩, ⟨rfl, rfl, rfl⟩⟩
          · refine ⟨hn.congr ⟨rfl, rfl, rfl, rfl⟩ fun i h1 => eN _ (by omega), fun i hi => ?_, hc.congr ⟨rfl, rfl, rfl, rfl⟩ (eN _ (by omega)) fun i h1 h2 => eN _ (by omega), hs.congr rfl (eN _ (by omega)) fun i h1 => eN _ (by omega), hb.congr ⟨rfl, rfl⟩ fun i h1 j h2 => eN _ (by omega), hr.congr rfl fun i h1 j h2 => eN _ (by omega), hh.congr ⟨rfl, rfl, rfl, rfl⟩ (eN _ (by omega)) m4.2.2 fun i h1 h2 => eN _ (by omega), hf.congr ⟨rfl, rfl⟩ (eN _ (by omega)) m5.2.2 fun i h1 h2 => eN _ (by omega), hw.congr (fun k h1 h2 => eK _ (by omega)) (eN _ (by omega)) m3.2.2 fun i h1 h2 => eN _ (by omega)⟩
            have h9 := hq i hi
            by_cases e : i = q
            · subst e
              refine ⟨?_, ?_, ?_⟩
              · simp (disch := omega) only [rs_eq, rs_ne, upd_same, upd_ne, Nat.reduceAdd]
              · simp (disch := omega) only [rs_eq, rs_ne, upd_same, upd_ne, Nat.reduceAdd]; exact h3
              · simp (disch := omega) only [rs_eq, rs_ne, upd_same, upd_ne, Nat.reduceAdd]; exact h9.2.2
            · refine ⟨?_, ?_, ?_⟩
              · simp (disch := omega) only [rs_eq, rs_ne, upd_same, upd_ne, Nat.reduceAdd]; exact h9.1
              · simp (disch := omega) only [rs_eq, rs_ne, upd_same, upd_ne, Nat.reduceAdd]; exact h9.2.1
              · simp (disch := omega) only [rs_eq, rs_ne, upd_same, upd_ne, Nat.reduceAdd]; exact h9.2.2
        · refine Op_find hI (-1000001) 0 (by decide) (by decide) ?_ ?_
          · simp only [fX10_question, e10_isWithin, e10_isQuestion, e10_isYear, e10_isKind, e10_isSlip, e10_isRoom, e10_isChild, e10_isWay, e10_areHours, q1, q2, q3, Option.bind_some, b2_pos h1, b2_pos h2, b2_neg h3, ite00, ite10, if_true, if_false]
          · simp only [fX11_question, e11_within, e11_isQuestion, e11_isYear, e11_isSlip, e11_is1f, e11_is2f, e11_is3f, e11_areHours, fndC_84, fndC_83, fndC_88, fndC_89, fndC_90, Option.bind_some, b2_pos h1, b2_pos h2, b2_neg h3, ite00, ite10, if_true, if_false]
      · by_cases h3 : 0 ≤ x3 ∧ x3 ≤ 9
        · have hf1 : fX10_question (iN q) 1 x3 A = some (A.1 4 q, ruset A 4 q x3) := by
            simp (disch := omega) only [fX10_question, e10_isWithin, e10_isQuestion, e10_isYear, e10_isKind, e10_isSlip, e10_isRoom, e10_isChild, e10_isWay, e10_areHours, q1, q2, q3, Option.bind_some, b2_pos h1, b2_pos h2, ite10, if_true, if_false, b2_pos h3, e4, ruld_iN, rust_iN]
          have hg1 : fX11_question (iN q) 1 x3 (ruset A 4 q x3) = some (A.1 84 (20 + q), ruset (ruset A 4 q x3) 84 (20 + q) x3) := by
            simp (disch := omega) only [fX11_question, e11_within, e11_isQuestion, e11_isYear, e11_isSlip, e11_is1, e11_is2, e11_is3, e11_is1N, e11_is2N, e11_is3N, e11_areHours, fndC_84, fndC_83, fndC_88, fndC_89, fndC_90, Option.bind_some, b2_pos h1, b2_pos h2, ite10, if_true, if_false, b2_pos h3, li20, iN_add, ruld_iN, rust_iN, rs_1, if_neg]
          have eK : ∀ k, k ≠ 4 ∧ k ≠ 84 → (ruset (ruset A 4 q x3) 84 (20 + q) x3).1 k = A.1 k := by
            intro k hk
            simp (disch := omega) only [rs_eq, rs_ne, upd_same, upd_ne, Nat.reduceAdd]
          have eN : ∀ i, i ≠ 20 + q → (ruset (ruset A 4 q x3) 84 (20 + q) x3).1 84 i = A.1 84 i := by
            intro i hi
            simp (disch := omega) only [rs_eq, rs_ne, upd_same, upd_ne, Nat.reduceAdd]
          refine ⟨_, _, _, hf1, (by rw [hg1, show A.1 4 q = A.1 84 (20 + q) from (hq q (by omega)).2.2]), hI.now ?_ ?_⟩
          · refine ⟨fun k hk => eK k (by omega), ⟨rfl, rfl, rfl⟩, ⟨rfl, rfl, rfl⟩⟩
          · refine ⟨hn.congr ⟨rfl, rfl, rfl, rfl⟩ fun i h1 => eN _ (by omega), fun i hi => ?_, hc.congr ⟨rfl, rfl, rfl, rfl⟩ (eN _ (by omega)) fun i h1 h2 => eN _ (by omega), hs.congr rfl (eN _ (by omega)) fun i h1 => eN _ (by omega), hb.congr ⟨rfl, rfl⟩ fun i h1 j h2 => eN _ (by omega), hr.congr rfl fun i h1 j h2 => eN _ (by omega), hh.congr ⟨rfl, rfl, rfl, rfl⟩ (eN _ (by omega)) m4.2.2 fun i h1 h2 => eN _ (by omega), hf.congr ⟨rfl, rfl⟩ (eN _ (by omega)) m5.2.2 fun i h1 h2 => eN _ (by omega), hw.congr (fun k h1 h2 => eK _ (by omega)) (eN _ (by omega)) m3.2.2 fun i h1 h2 => eN _ (by omega)⟩
            have h9 := hq i hi
            by_cases e : i = q
            · subst e
              refine ⟨?_, ?_, ?_⟩
              · simp (disch := omega) only [rs_eq, rs_ne, upd_same, upd_ne, Nat.reduceAdd]; exact h9.1
              · simp (disch := omega) only [rs_eq, rs_ne, upd_same, upd_ne, Nat.reduceAdd]; exact h9.2.1
              · simp (disch := omega) only [rs_eq, rs_ne, upd_same, upd_ne, Nat.reduceAdd]
            · refine ⟨?_, ?_, ?_⟩
              · simp (disch := omega) only [rs_eq, rs_ne, upd_same, upd_ne, Nat.reduceAdd]; exact h9.1
              · simp (disch := omega) only [rs_eq, rs_ne, upd_same, upd_ne, Nat.reduceAdd]; exact h9.2.1
              · simp (disch := omega) only [rs_eq, rs_ne, upd_same, upd_ne, Nat.reduceAdd]; exact h9.2.2
        · refine Op_find hI (-1000001) 0 (by decide) (by decide) ?_ ?_
          · simp only [fX10_question, e10_isWithin, e10_isQuestion, e10_isYear, e10_isKind, e10_isSlip, e10_isRoom, e10_isChild, e10_isWay, e10_areHours, q1, q2, q3, Option.bind_some, b2_pos h1, b2_pos h2, b2_neg h3, ite00, ite10, if_true, if_false]
          · simp only [fX11_question, e11_within, e11_isQuestion, e11_isYear, e11_isSlip, e11_is1f, e11_is2f, e11_is3f, e11_areHours, fndC_84, fndC_83, fndC_88, fndC_89, fndC_90, Option.bind_some, b2_pos h1, b2_pos h2, b2_neg h3, ite00, ite10, if_true, if_false]
    · refine Op_find hI (-1000001) 0 (by decide) (by decide) ?_ ?_
      · simp only [fX10_question, e10_isWithin, e10_isQuestion, e10_isYear, e10_isKind, e10_isSlip, e10_isRoom, e10_isChild, e10_isWay, e10_areHours, q1, q2, q3, Option.bind_some, b2_pos h1, b2_neg h2, ite00, ite10, if_true, if_false]
      · simp only [fX11_question, e11_within, e11_isQuestion, e11_isYear, e11_isSlip, e11_is1f, e11_is2f, e11_is3f, e11_areHours, fndC_84, fndC_83, fndC_88, fndC_89, fndC_90, Option.bind_some, b2_pos h1, b2_neg h2, ite00, ite10, if_true, if_false]
  · refine Op_find hI (-1000001) 0 (by decide) (by decide) ?_ ?_
    · simp only [fX10_question, e10_isWithin, e10_isQuestion, e10_isYear, e10_isKind, e10_isSlip, e10_isRoom, e10_isChild, e10_isWay, e10_areHours, q1, q2, q3, Option.bind_some, b2_neg h1, ite00, ite10, if_true, if_false]
    · simp only [fX11_question, e11_within, e11_isQuestion, e11_isYear, e11_isSlip, e11_is1f, e11_is2f, e11_is3f, e11_areHours, fndC_84, fndC_83, fndC_88, fndC_89, fndC_90, Option.bind_some, b2_neg h1, ite00, ite10, if_true, if_false]
theorem op_wipe {W : ruWy} {A : ruA} (hI : Inv W A) : Op2 W fX10_wipe fX11_wipe A := by
  obtain ⟨h1, h2, h3, h4, h5⟩ := id hI
  have e9 : cn ((ruset (ruset A 0 9 0) 83 6 0).1 83) 6 = 0 := cn_iN (n := 0) rfl (by omega)
  refine ⟨A.1 0 9, ruset A 0 9 0, ruset (ruset A 0 9 0) 83 6 0, rfl, ?_, ?_, ?_, ?_, ?_, ?_⟩
  · show some (A.1 83 6, _) = _
    rw [h4.1.1]
  · exact h1.congr fun k q1 q2 => by simp (disch := omega) only [rs_eq, rs_ne, upd_same, upd_ne, Nat.reduceAdd]
  · exact h2.congr fun k q1 q2 => by simp (disch := omega) only [rs_eq, rs_ne, upd_same, upd_ne, Nat.reduceAdd]
  · exact h3.congr ⟨rfl, rfl⟩ ⟨rfl, rfl⟩ ⟨rfl, rfl⟩
  · refine ⟨⟨rfl, by rw [e9]; rfl, by rw [e9]; omega⟩, fun i hi => ?_⟩
    rw [e9] at hi
    omega
  · exact h5.congr fun k hk => by simp (disch := omega) only [rs_eq, rs_ne, upd_same, upd_ne, Nat.reduceAdd]
theorem op_tear {W : ruWy} {A : ruA} (hI : Inv W A) : Op2 W fX10_tear fX11_tear A := by
  obtain ⟨h1, h2, h3, h4, h5⟩ := id hI
  refine ⟨if A.1 83 2 = 0 then 0 else 1, ruset A 0 2 0, ruset (ruset A 0 2 0) 83 2 0, ?_, ?_, ?_, ?_, ?_, ?_, ?_⟩
  · simp only [fX10_tear, Option.bind_some, h3.2.2.1]
    split <;> rfl
  · show ((if A.1 83 2 = 0 then some 0 else some 1).bind fun v1 => some (v1, ruset (ruset A 0 2 0) 83 2 0)) = _
    split <;> rfl
  · exact h1.congr fun k q1 q2 => by simp (disch := omega) only [rs_eq, rs_ne, upd_same, upd_ne, Nat.reduceAdd]
  · exact h2.congr fun k q1 q2 => by simp (disch := omega) only [rs_eq, rs_ne, upd_same, upd_ne, Nat.reduceAdd]
  · exact ⟨h3.1, h3.2.1, rfl, Or.inl rfl⟩
  · exact h4.congr ⟨rfl, rfl⟩ rfl rfl
  · exact h5.congr fun k hk => by simp (disch := omega) only [rs_eq, rs_ne, upd_same, upd_ne, Nat.reduceAdd]
theorem op_looked {W : ruWy} {A : ruA} (hI : Inv W A) : ∃ r, fX10_looked A = some r ∧ fX11_looked A = some r := ⟨A.1 83 3, congrArg some hI.2.2.1.2.1, rfl⟩
