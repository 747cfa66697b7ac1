/-! LEVEL 2: childIs, status, holds, forms, the tape -/
theorem there_01 {x : Int32} (h : x = 0 ∨ x = 1) : (if x = 0 then (0 : Int32) else 1) = x := by
  rcases h with rfl | rfl <;> rfl
theorem f10_howManyOf (A : ruA) {c : Nat} (hc : c < 24) : fX6_howManyOf (iN c) A = some (sumI (fun y => if A.1 10 (6 * c + y) = 0 then 0 else 1) 6) := by
  unfold fX6_howManyOf
  refine loop_sum (fun n q s => fX6_howManyOf_l4 (iN c) A (fun v4 => some v4) n s (iN q)) 6 (fun y => if A.1 10 (6 * c + y) = 0 then 0 else 1) (fun v => some v) ?_ ?_ ruF (by decide)
  · intro n s
    rw [fX6_howManyOf_l4]
    rfl
  · intro n q s hq
    simp (disch := omega) only [fX6_howManyOf_l4, li6, iN_le, e10_place, Option.bind_some, ruld_iN, iN_add1]
    rw [if_neg (by omega)]
    split <;> simp
theorem f11_hasSheet (A : ruA) {c y : Nat} (hc : c < 24) (hy : y < 6) : fX11_hasSheet (iN c) (iN y) A = some (b2 (A.1 84 (128 + 28 * (6 * c + y)) = 1)) := by
  simp (disch := omega) only [fX11_hasSheet, e11_sheetAt, Option.bind_some, ruld_iN]
  unfold b2
  split <;> rfl
theorem f11_childIs_l42 (A : ruA) {c : Nat} (hc : c < 24) (k : Int32 → Option (Int32 × ruA)) : fX11_childIs_l42 (iN c) A k ruF 0 0 = k (sumI (fun y => if A.1 84 (128 + 28 * (6 * c + y)) = 1 then 1 else 0) 6) := by
  refine loop_sum (fun n q s => fX11_childIs_l42 (iN c) A k n s (iN q)) 6 (fun y => if A.1 84 (128 + 28 * (6 * c + y)) = 1 then 1 else 0) k ?_ ?_ ruF (by decide)
  · intro n s
    rw [fX11_childIs_l42]
    rfl
  · intro n q s hq
    simp (disch := omega) only [fX11_childIs_l42, li6, iN_le, f11_hasSheet, Option.bind_some, iN_add1, b2_ne]
    rw [if_neg (by omega)]
    split <;> simp
theorem four_of {x : Int32} (h : 0 ≤ x ∧ x ≤ 4) : x = 0 ∨ x = 1 ∨ x = 2 ∨ x = 3 ∨ x = 4 := by
  obtain ⟨t, ht, rfl⟩ := iN_of (m := 4) h.1 (by decide) h.2
  have : t = 0 ∨ t = 1 ∨ t = 2 ∨ t = 3 ∨ t = 4 := by omega
  rcases this with rfl | rfl | rfl | rfl | rfl
  · exact Or.inl rfl
  · exact Or.inr (Or.inl rfl)
  · exact Or.inr (Or.inr (Or.inl rfl))
  · exact Or.inr (Or.inr (Or.inr (Or.inl rfl)))
  · exact Or.inr (Or.inr (Or.inr (Or.inr rfl)))
theorem f11_childOf (A : ruA) {c j : Nat} (hc : c < 24) (hj : j < 4) : fX11_childOf (iN c) (iN j) A = some (A.1 84 (32 + 4 * c + j)) := by
  simp (disch := omega) only [fX11_childOf, li32, li4, iN_mul, iN_add, ruld_iN, Option.bind_some]
theorem op_childIs {W : ruWy} {A : ruA} (hI : Inv W A) (x1 x2 : Int32) : Op2 W (fX10_childIs x1 x2) (fX11_childIs x1 x2) A := by
  obtain ⟨⟨hn, hq, hc, hs, hb, hr, hh, hf, hw⟩, hK, hMf, hMt, hMs⟩ := id hI
  obtain ⟨m0, m1, m2, m3, m4, m5⟩ := id hn
  have q0 : A.1 2 0 = A.1 84 0 := m0.1
  have q1 : A.1 2 1 = A.1 84 1 := m1.1
  have q2 : A.1 2 2 = A.1 84 2 := m2.1
  have q3 : A.1 14 0 = A.1 84 3 := m3.1
  have q4 : A.1 23 0 = A.1 84 4 := m4.1
  have q5 : A.1 29 0 = A.1 84 5 := m5.1
  by_cases h1 : 0 ≤ x1 ∧ x1 ≤ A.1 84 2 - 1
  · by_cases h2 : 0 ≤ x2 ∧ x2 ≤ 4
    · obtain ⟨c, hc1, rfl⟩ := ch_of m2.2.1 (by omega) h1
      have h9 := hc c (by omega)
      have f0 := f11_childOf A (c := c) (j := 0) (by omega) (by decide)
      have f1 := f11_childOf A (c := c) (j := 1) (by omega) (by decide)
      have f2 := f11_childOf A (c := c) (j := 2) (by omega) (by decide)
      have f3 := f11_childOf A (c := c) (j := 3) (by omega) (by decide)
      rcases four_of h2 with rfl | rfl | rfl | rfl | rfl
      · refine ⟨A.1 84 (32 + 4 * c), A, A, ?_, ?_, hI⟩
        · simp (disch := omega) only [fX10_childIs, e10_isWithin, e10_isQuestion, e10_isYear, e10_isKind, e10_isSlip, e10_isRoom, e10_isChild, e10_isWay, e10_areHours, q1, q2, q3, Option.bind_some, b2_pos h1, b2_pos h2, ite10, if_true, ruld_iN, show A.1 5 c = A.1 84 (32 + 4 * c) from h9.1]
        · simp only [fX11_childIs, e11_is2, e11_within, Option.bind_some, b2_pos h1, b2_pos h2, ite10, if_neg (show ¬ (4 : Int32) ≤ 0 by decide), show fX11_childOf (iN c) 0 A = _ from f0]
          rfl
      · refine ⟨A.1 84 (33 + 4 * c), A, A, ?_, ?_, hI⟩
        · simp (disch := omega) only [fX10_childIs, e10_isWithin, e10_isQuestion, e10_isYear, e10_isKind, e10_isSlip, e10_isRoom, e10_isChild, e10_isWay, e10_areHours, q1, q2, q3, Option.bind_some, b2_pos h1, b2_pos h2, ite10, if_true, if_neg (show ¬ (1 : Int32) = 0 by decide), ruld_iN, show A.1 6 c = A.1 84 (33 + 4 * c) from h9.2.1]
        · simp only [fX11_childIs, e11_is2, e11_within, Option.bind_some, b2_pos h1, b2_pos h2, ite10, if_neg (show ¬ (4 : Int32) ≤ 1 by decide), show fX11_childOf (iN c) 1 A = _ from f1, show 32 + 4 * c + 1 = 33 + 4 * c by omega]
      · refine ⟨A.1 84 (34 + 4 * c), A, A, ?_, ?_, hI⟩
        · simp (disch := omega) only [fX10_childIs, e10_isWithin, e10_isQuestion, e10_isYear, e10_isKind, e10_isSlip, e10_isRoom, e10_isChild, e10_isWay, e10_areHours, q1, q2, q3, Option.bind_some, b2_pos h1, b2_pos h2, ite10, if_true, if_neg (show ¬ (2 : Int32) = 0 by decide), if_neg (show ¬ (2 : Int32) = 1 by decide), ruld_iN, show A.1 7 c = A.1 84 (34 + 4 * c) from h9.2.2.1]
        · simp only [fX11_childIs, e11_is2, e11_within, Option.bind_some, b2_pos h1, b2_pos h2, ite10, if_neg (show ¬ (4 : Int32) ≤ 2 by decide), show fX11_childOf (iN c) 2 A = _ from f2, show 32 + 4 * c + 2 = 34 + 4 * c by omega]
      · refine ⟨A.1 84 (35 + 4 * c), A, A, ?_, ?_, hI⟩
        · simp (disch := omega) only [fX10_childIs, e10_isWithin, e10_isQuestion, e10_isYear, e10_isKind, e10_isSlip, e10_isRoom, e10_isChild, e10_isWay, e10_areHours, q1, q2, q3, Option.bind_some, b2_pos h1, b2_pos h2, ite10, if_true, if_neg (show ¬ (3 : Int32) = 0 by decide), if_neg (show ¬ (3 : Int32) = 1 by decide), if_neg (show ¬ (3 : Int32) = 2 by decide), ruld_iN, show A.1 8 c = A.1 84 (35 + 4 * c) from h9.2.2.2.1]
        · simp only [fX11_childIs, e11_is2, e11_within, Option.bind_some, b2_pos h1, b2_pos h2, ite10, if_neg (show ¬ (4 : Int32) ≤ 3 by decide), show fX11_childOf (iN c) 3 A = _ from f3, show 32 + 4 * c + 3 = 35 + 4 * c by omega]
      · refine ⟨sumI (fun y => if A.1 84 (128 + 28 * (6 * c + y)) = 1 then 1 else 0) 6, A, A, ?_, ?_, hI⟩
        · simp (disch := omega) only [fX10_childIs, e10_isWithin, e10_isQuestion, e10_isYear, e10_isKind, e10_isSlip, e10_isRoom, e10_isChild, e10_isWay, e10_areHours, q1, q2, q3, Option.bind_some, b2_pos h1, b2_pos h2, ite10, if_neg (show ¬ (4 : Int32) = 0 by decide), if_neg (show ¬ (4 : Int32) = 1 by decide), if_neg (show ¬ (4 : Int32) = 2 by decide), if_neg (show ¬ (4 : Int32) = 3 by decide), f10_howManyOf A (show c < 24 by omega)]
          congr 2
          refine sumI_congr 6 fun y hy => ?_
          have h8 := hs (6 * c + y) (by omega)
          rw [show A.1 10 (6 * c + y) = A.1 84 (128 + 28 * (6 * c + y)) from h8.1]
          rcases h8.2.1 with e | e <;> rw [e] <;> rfl
        · simp only [fX11_childIs, e11_is2, e11_within, Option.bind_some, b2_pos h1, b2_pos h2, ite10, if_pos (show (4 : Int32) ≤ 4 by decide), f11_childIs_l42 A (show c < 24 by omega)]
    · refine Op_find hI (-1000001) 0 (by decide) (by decide) ?_ ?_
      · simp only [fX10_childIs, e10_isWithin, e10_isQuestion, e10_isYear, e10_isKind, e10_isSlip, e10_isRoom, e10_isChild, e10_isWay, e10_areHours, q1, q2, q3, Option.bind_some, b2_pos h1, b2_neg h2, ite00, ite10, if_true, if_false]
      · simp only [fX11_childIs, e11_within, e11_isQuestion, e11_isYear, e11_isSlip, e11_is1f, e11_is2f, e11_is3f, e11_areHours, fndC_84, fndC_83, fndC_88, fndC_89, fndC_90, Option.bind_some, b2_pos h1, b2_neg h2, ite00, ite10, if_true, if_false]
  · refine Op_find hI (-1000001) 0 (by decide) (by decide) ?_ ?_
    · simp only [fX10_childIs, e10_isWithin, e10_isQuestion, e10_isYear, e10_isKind, e10_isSlip, e10_isRoom, e10_isChild, e10_isWay, e10_areHours, q1, q2, q3, Option.bind_some, b2_neg h1, ite00, ite10, if_true, if_false]
    · simp only [fX11_childIs, e11_within, e11_isQuestion, e11_isYear, e11_isSlip, e11_is1f, e11_is2f, e11_is3f, e11_areHours, fndC_84, fndC_83, fndC_88, fndC_89, fndC_90, Option.bind_some, b2_neg h1, ite00, ite10, if_true, if_false]
