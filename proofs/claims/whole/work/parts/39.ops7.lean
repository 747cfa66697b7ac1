/-! LEVEL 2: copies of slips -/
theorem toInt_sub_small {x y : Int32} (h1 : 0 ≤ y.toInt) (h2 : 0 ≤ x.toInt) (h3 : x.toInt ≤ 1000) : (x - y).toInt = x.toInt - y.toInt := by
  have h4 := Int32.toInt_lt y
  rw [Int32.toInt_sub]
  exact Int.bmod_eq_of_le (by omega) (by omega)
theorem le0_iff (x : Int32) : x < 0 ↔ x.toInt < 0 := by
  rw [Int32.lt_iff_toInt_lt]
  rfl
theorem f10_hasPart (A : ruA) {s : Nat} (hs : s < 4) (x n : Int32) {z : Nat} (hz : z ≤ 24) (hA : A.1 (74 + 2 * s) 1 = iN z) : fX7_hasPart (74 + 2 * s) x n A = some (b2 (0 ≤ x.toInt ∧ 0 ≤ n.toInt ∧ x.toInt + n.toInt ≤ z)) := by
  unfold fX7_hasPart
  by_cases h1 : x < 0
  · rw [if_pos h1, b2_neg]
    rw [le0_iff] at h1
    omega
  · rw [if_neg h1]
    by_cases h2 : n < 0
    · rw [if_pos h2, b2_neg]
      rw [le0_iff] at h2
      omega
    · rw [if_neg h2, sl_O hs, Option.bind_some, hA]
      rw [le0_iff] at h1 h2
      have e := toInt_sub_small (x := iN z) (y := n) (by omega) (by rw [iN_toInt (by omega)]; omega) (by rw [iN_toInt (by omega)]; omega)
      rw [iN_toInt (by omega)] at e
      by_cases h3 : iN z - n < x
      · rw [if_pos h3, b2_neg]
        rw [Int32.lt_iff_toInt_lt, e] at h3
        omega
      · rw [if_neg h3, b2_pos]
        rw [Int32.lt_iff_toInt_lt, e] at h3
        omega
theorem cmp_iff (x n : Int32) (h1 : 0 ≤ x.toInt) (h2 : 0 ≤ n.toInt) {z : Nat} (hz : z ≤ 24) : (x.toInt64 + n.toInt64 ≤ (iN z).toInt64) ↔ x.toInt + n.toInt ≤ z := by
  have h3 := Int32.toInt_lt x
  have h4 := Int32.toInt_lt n
  rw [Int64.le_iff_toInt_le, Int64.toInt_add, Int32.toInt_toInt64, Int32.toInt_toInt64, Int32.toInt_toInt64, iN_toInt (by omega)]
  rw [Int.bmod_eq_of_le (by omega) (by omega)]
/-- what copy asks -/
def cpOk (x n : Int32) (z : Nat) : Prop := 0 ≤ x.toInt ∧ 0 ≤ n.toInt ∧ x.toInt + n.toInt ≤ z
theorem f11_copy1 {β : Type} (A : ruA) {s a m : Nat} (x3 x4 : Int32) (hs : s < 4) (h : a + m ≤ 24) (k : ruA → Option β) : fX11_copy_l127 (iN s) (iN a) x3 x4 (iN m) k ruF 0 A = k (rusetA A 96 (fillF (A.1 96) 0 (fun i => A.1 90 (24 * s + a + i)) m)) := by
  refine loop_fill (fun n q B => fX11_copy_l127 (iN s) (iN a) x3 x4 (iN m) k n (iN q) B) A 96 0 m (fun i => A.1 90 (24 * s + a + i)) k ?_ ?_ ruF (by rw [ruF_eq]; omega)
  · intro n B
    rw [fX11_copy_l127, if_pos ((iN_le (by omega) (by omega)).mpr (Nat.le_refl _))]
  · intro n q hq
    simp (disch := omega) only [fX11_copy_l127, li24, iN_le, iN_mul, iN_add, rsA_ne, ruld_iN, Option.bind_some, rust_iN, iN_add1, Nat.zero_add]
    rw [if_neg (by omega)]
theorem f11_copy2 {β : Type} (A : ruA) {t b m : Nat} (ht : t < 4) (h : b + m ≤ 24) (k : ruA → Option β) : fX11_copy_l164 (iN t) (iN b) (iN m) k ruF 0 A = k (rusetA A 90 (fillF (A.1 90) (24 * t + b) (A.1 96) m)) := by
  refine loop_fill (fun n q B => fX11_copy_l164 (iN t) (iN b) (iN m) k n (iN q) B) A 90 (24 * t + b) m (A.1 96) k ?_ ?_ ruF (by rw [ruF_eq]; omega)
  · intro n B
    rw [fX11_copy_l164, if_pos ((iN_le (by omega) (by omega)).mpr (Nat.le_refl _))]
  · intro n q hq
    simp (disch := omega) only [fX11_copy_l164, li24, iN_le, iN_mul, iN_add, rsA_ne, ruld_iN, Option.bind_some, rust_iN, iN_add1]
    rw [if_neg (by omega)]
theorem iN_ofInt {x : Int32} (h : 0 ≤ x.toInt) : ∃ n : Nat, x = iN n ∧ x.toInt = n := by
  refine ⟨x.toNatClampNeg, ?_, ?_⟩
  · refine (Int32.ofNat_toNatClampNeg x ?_).symm
    rw [Int32.le_iff_toInt_le]
    exact h
  · show x.toInt = (x.toInt.toNat : Int)
    omega
theorem op_copy {W : ruWy} {A : ruA} (hI : Inv W A) (x1 x2 x3 x4 x5 : Int32) : Op2 W (fX10_copy x1 x2 x3 x4 x5) (fX11_copy x1 x2 x3 x4 x5) A := by
  obtain ⟨⟨hn, hq, hc, hs, hb, hr, hh, hf, hw⟩, hK, hMf, hMt, hMs⟩ := id hI
  obtain ⟨m0, m1, m2, m3, m4, m5⟩ := id hn
  have q0 : A.1 2 0 = A.1 84 0 := m0.1
  have q1 : A.1 2 1 = A.1 84 1 := m1.1
  have q2 : A.1 2 2 = A.1 84 2 := m2.1
  have q3 : A.1 14 0 = A.1 84 3 := m3.1
  have q4 : A.1 23 0 = A.1 84 4 := m4.1
  have q5 : A.1 29 0 = A.1 84 5 := m5.1
  by_cases h1 : 0 ≤ x1 ∧ x1 ≤ 3
  · by_cases h2 : 0 ≤ x3 ∧ x3 ≤ 3
    · obtain ⟨s, hs1, rfl⟩ := lt_of (m := 3) (by decide) h1
      obtain ⟨t, ht1, rfl⟩ := lt_of (m := 3) (by decide) h2
      have hs4 : s < 4 := by omega
      have ht4 : t < 4 := by omega
      obtain ⟨⟨s1, s2⟩, ⟨s3, s4, s5⟩, s6⟩ := hMs s hs4
      obtain ⟨⟨t1, t2⟩, ⟨t3, t4, t5⟩, t6⟩ := hMs t ht4
      have l88 : ruld (A.1 88) 4 (iN s) = some (A.1 88 s) := ruld_iN (by omega) (by decide)
      have l88t : ruld (A.1 88) 4 (iN t) = some (A.1 88 t) := ruld_iN (by omega) (by decide)
      have l89 : ruld (A.1 89) 4 (iN s) = some (A.1 89 s) := ruld_iN (by omega) (by decide)
      have l89t : ruld (A.1 89) 4 (iN t) = some (A.1 89 t) := ruld_iN (by omega) (by decide)
      by_cases h3 : A.1 88 s = 0
      · refine Op_find hI (-1000006) 5 (by decide) (by decide) ?_ ?_
        · simp only [fX10_copy, e10_isWithin, e10_isQuestion, e10_isYear, e10_isKind, e10_isSlip, e10_isRoom, e10_isChild, e10_isWay, e10_areHours, q1, q2, q3, Option.bind_some, b2_pos h1, b2_pos h2, ite00, ite10, if_true, if_false, sl_ref A hs4, sl_ref A ht4, sl_O hs4, sl_O ht4, f10_isMissing A hs4, s1, h3, b2_pos]
        · simp only [fX11_copy, e11_within, e11_isQuestion, e11_isYear, e11_isSlip, e11_is1f, e11_is2f, e11_is3f, e11_areHours, fndC_84, fndC_83, fndC_88, fndC_89, fndC_90, Option.bind_some, b2_pos h1, b2_pos h2, ite00, ite10, if_true, if_false, l88, h3]
      · by_cases h4 : A.1 88 t = 0
        · refine Op_find hI (-1000006) 5 (by decide) (by decide) ?_ ?_
          · simp only [fX10_copy, e10_isWithin, e10_isQuestion, e10_isYear, e10_isKind, e10_isSlip, e10_isRoom, e10_isChild, e10_isWay, e10_areHours, q1, q2, q3, Option.bind_some, b2_pos h1, b2_pos h2, ite00, ite10, if_true, if_false, sl_ref A hs4, sl_ref A ht4, sl_O hs4, sl_O ht4, f10_isMissing A hs4, f10_isMissing A ht4, s1, t1, b2_neg h3, b2_pos h4]
          · simp only [fX11_copy, e11_within, e11_isQuestion, e11_isYear, e11_isSlip, e11_is1f, e11_is2f, e11_is3f, e11_areHours, fndC_84, fndC_83, fndC_88, fndC_89, fndC_90, Option.bind_some, b2_pos h1, b2_pos h2, ite00, ite10, if_true, if_false, l88, l88t, h3, h4]
        · by_cases h5 : A.1 88 s = A.1 88 t
          · generalize hz : cn (A.1 89) s = z at *
            generalize hy : cn (A.1 89) t = y at *
            have p1 := f10_hasPart A hs4 x2 x5 (z := z) s5 (s3.trans s4)
            have p2 := f10_hasPart A ht4 x4 x5 (z := y) t5 (t3.trans t4)
            by_cases h6 : cpOk x2 x5 z
            · by_cases h7 : cpOk x4 x5 y
              · obtain ⟨a, ea, ia⟩ := iN_ofInt h6.1
                obtain ⟨m, em, im⟩ := iN_ofInt h6.2.1
                obtain ⟨b, eb, ib⟩ := iN_ofInt h7.1
                have ham : a + m ≤ z := by have := h6.2.2; omega
                have hbm : b + m ≤ y := by have := h7.2.2; omega
                have g1 := (cmp_iff x2 x5 h6.1 h6.2.1 (z := z) s5).mpr h6.2.2
                have g2 := (cmp_iff x4 x5 h7.1 h7.2.1 (z := y) t5).mpr h7.2.2
                have g1' : ¬ 0 < lg_cmp (x2.toInt64 + x5.toInt64) (iN z).toInt64 := by
                  rw [lg_cmp_gt]
                  exact Int64.not_lt.mpr g1
                have g2' : lg_cmp (x4.toInt64 + x5.toInt64) (iN y).toInt64 ≤ 0 := (lg_cmp_le _ _).mpr g2
                have l0 : ¬ x2 < 0 := by rw [le0_iff]; omega
                have l1 : ¬ x4 < 0 := by rw [le0_iff]; omega
                have l2 : ¬ x5 < 0 := by rw [le0_iff]; omega
                generalize hA1 : rusetA A (75 + 2 * t) (va_cpy (A.1 (75 + 2 * s)) (A.1 (75 + 2 * t)) a b m) = A1
                have e1 : ∀ k, k ≠ 75 + 2 * t → A1.1 k = A.1 k := by
                  intro k hk
                  rw [← hA1, rsA_ne _ _ hk]
                have e75 : A1.1 (75 + 2 * t) = va_cpy (A.1 (75 + 2 * s)) (A.1 (75 + 2 * t)) a b m := by
                  rw [← hA1, rsA_same]
                have hcp : rucpy A (75 + 2 * s) 24 x2 (75 + 2 * t) 24 x4 x5 = some A1 := by
                  unfold rucpy
                  rw [ea, eb, em, iN_toNat (by omega), iN_toNat (by omega), iN_toNat (by omega), if_neg, hA1]
                  rw [ea] at l0
                  rw [eb] at l1
                  rw [em] at l2
                  rintro (h | h | h | h | h)
                  · exact l0 h
                  · exact l1 h
                  · exact l2 h
                  · omega
                  · omega
                clear hA1
                have hg1 : fX11_copy (iN s) x2 (iN t) x4 x5 A1 = some (x5, rusetA (rusetA A1 96 (fillF (A1.1 96) 0 (fun i => A1.1 90 (24 * s + a + i)) m)) 90 (fillF (A1.1 90) (24 * t + b) (fillF (A1.1 96) 0 (fun i => A1.1 90 (24 * s + a + i)) m) m)) := by
                  simp only [fX11_copy, e11_isSlip, Option.bind_some, b2_pos h1, b2_pos h2, ite10, e1 88 (by omega), e1 89 (by omega), l88, l88t, if_neg h3, if_neg h4, h5, if_true, if_neg l0, if_neg l1, if_neg l2, l89, l89t, s4, t4, if_neg g1', if_pos g2']
                  rw [ea, eb, em, f11_copy1 A1 _ _ hs4 (by omega), f11_copy2 _ ht4 (by omega), rsA_same, rsA_ne _ _ (by decide)]
                refine ⟨x5, A1, _, ?_, hg1, ?_⟩
                · have h6' := h6
                  have h7' := h7
                  unfold cpOk at h6' h7'
                  simp only [fX10_copy, e10_isSlip, Option.bind_some, b2_pos h1, b2_pos h2, ite10, sl_ref A hs4, sl_ref A ht4, sl_O hs4, sl_O ht4, f10_isMissing A hs4, f10_isMissing A ht4, s1, t1, b2_neg h3, b2_neg h4, ite00, h5, if_true, p1, p2, b2_pos h6', b2_pos h7', sl_num A hs4, sl_num A ht4, sl_I hs4, sl_I ht4, hcp]
                · clear hg1 hcp
                  generalize hA2 : rusetA (rusetA A1 96 (fillF (A1.1 96) 0 (fun i => A1.1 90 (24 * s + a + i)) m)) 90 (fillF (A1.1 90) (24 * t + b) (fillF (A1.1 96) 0 (fun i => A1.1 90 (24 * s + a + i)) m) m) = A2
                  have e2 : ∀ k, k ≠ 90 ∧ k ≠ 96 ∧ k ≠ 75 + 2 * t → A2.1 k = A.1 k := by
                    intro k hk
                    rw [← hA2, rsA_ne _ _ (by omega), rsA_ne _ _ (by omega), e1 k (by omega)]
                  have e90 : A2.1 90 = fillF (A.1 90) (24 * t + b) (fillF (A1.1 96) 0 (fun i => A.1 90 (24 * s + a + i)) m) m := by
                    rw [← hA2, rsA_same, e1 90 (by omega)]
                  have e75' : A2.1 (75 + 2 * t) = va_cpy (A.1 (75 + 2 * s)) (A.1 (75 + 2 * t)) a b m := by
                    rw [← hA2, rsA_ne _ _ (by omega), rsA_ne _ _ (by omega), e75]
                  clear hA2
                  refine hI.slips (fun k hk => e2 k (by omega)) ?_
                  intro r hr
                  obtain ⟨g1, g2, g3⟩ := hMs r hr
                  rw [e2 (74 + 2 * r) (by omega), e2 88 (by omega), e2 89 (by omega)]
                  refine ⟨g1, g2, fun j hj => ?_⟩
                  rw [e90]
                  by_cases e : r = t
                  · subst e
                    rw [e75']
                    unfold va_cpy
                    by_cases hin : b ≤ j ∧ j < b + m
                    · obtain ⟨i, rfl⟩ : ∃ i, j = b + i := ⟨j - b, by omega⟩
                      rw [if_pos hin, Nat.add_sub_cancel_left, ← Nat.add_assoc, fillF_in (by omega), fillF_in0 (by omega), s6 (a + i) (by omega), Nat.add_assoc]
                    · rw [if_neg hin, fillF_out (by omega)]
                      exact g3 j hj
                  · rw [e2 (75 + 2 * r) (by omega), fillF_out (by omega)]
                    exact g3 j hj
              · have h6' := h6
                have h7' := h7
                unfold cpOk at h6' h7'
                refine Op_find hI (-1000001) 0 (by decide) (by decide) ?_ ?_
                · simp only [fX10_copy, e10_isSlip, Option.bind_some, b2_pos h1, b2_pos h2, ite10, sl_ref A hs4, sl_ref A ht4, sl_O hs4, sl_O ht4, f10_isMissing A hs4, f10_isMissing A ht4, s1, t1, b2_neg h3, b2_neg h4, ite00, h5, if_true, p1, p2, b2_pos h6', b2_neg h7']
                · simp only [fX11_copy, e11_isSlip, fndC_88, fndC_89, Option.bind_some, b2_pos h1, b2_pos h2, ite10, l88, l88t, if_neg h3, if_neg h4, h5, if_true, l89, l89t, s4, t4]
                  by_cases c1 : x2 < 0
                  · rw [if_pos c1]
                  · rw [if_neg c1]
                    by_cases c2 : x4 < 0
                    · rw [if_pos c2]
                    · rw [if_neg c2]
                      by_cases c3 : x5 < 0
                      · rw [if_pos c3]
                      · rw [if_neg c3]
                        by_cases c4 : 0 < lg_cmp (x2.toInt64 + x5.toInt64) (iN z).toInt64
                        · rw [if_pos c4]
                        · rw [if_neg c4, if_neg]
                          rw [lg_cmp_le, cmp_iff x4 x5 (by rw [le0_iff] at c2; omega) (by rw [le0_iff] at c3; omega) t5]
                          rw [le0_iff] at c2 c3
                          intro c5
                          exact h7' ⟨by omega, by omega, c5⟩
            · have h6' := h6
              unfold cpOk at h6'
              refine Op_find hI (-1000001) 0 (by decide) (by decide) ?_ ?_
              · simp only [fX10_copy, e10_isSlip, Option.bind_some, b2_pos h1, b2_pos h2, ite10, sl_ref A hs4, sl_ref A ht4, sl_O hs4, sl_O ht4, f10_isMissing A hs4, f10_isMissing A ht4, s1, t1, b2_neg h3, b2_neg h4, ite00, h5, if_true, p1, b2_neg h6']
              · simp only [fX11_copy, e11_isSlip, fndC_88, fndC_89, Option.bind_some, b2_pos h1, b2_pos h2, ite10, l88, l88t, if_neg h3, if_neg h4, h5, if_true, l89, l89t, s4, t4]
                by_cases c1 : x2 < 0
                · rw [if_pos c1]
                · rw [if_neg c1]
                  by_cases c2 : x4 < 0
                  · rw [if_pos c2]
                  · rw [if_neg c2]
                    by_cases c3 : x5 < 0
                    · rw [if_pos c3]
                    · rw [if_neg c3, if_pos]
                      rw [lg_cmp_gt, ← Int64.not_le, cmp_iff x2 x5 (by rw [le0_iff] at c1; omega) (by rw [le0_iff] at c3; omega) s5]
                      rw [le0_iff] at c1 c3
                      intro c5
                      exact h6' ⟨by omega, by omega, c5⟩
          · refine Op_find hI (-1000003) 2 (by decide) (by decide) ?_ ?_
            · simp only [fX10_copy, e10_isWithin, e10_isQuestion, e10_isYear, e10_isKind, e10_isSlip, e10_isRoom, e10_isChild, e10_isWay, e10_areHours, q1, q2, q3, Option.bind_some, b2_pos h1, b2_pos h2, ite00, ite10, if_true, if_false, sl_ref A hs4, sl_ref A ht4, sl_O hs4, sl_O ht4, f10_isMissing A hs4, f10_isMissing A ht4, s1, t1, b2_neg h3, b2_neg h4, h5]
            · simp only [fX11_copy, e11_within, e11_isQuestion, e11_isYear, e11_isSlip, e11_is1f, e11_is2f, e11_is3f, e11_areHours, fndC_84, fndC_83, fndC_88, fndC_89, fndC_90, Option.bind_some, b2_pos h1, b2_pos h2, ite00, ite10, if_true, if_false, l88, l88t, h3, h4, h5]
    · refine Op_find hI (-1000001) 0 (by decide) (by decide) ?_ ?_
      · simp only [fX10_copy, e10_isWithin, e10_isQuestion, e10_isYear, e10_isKind, e10_isSlip, e10_isRoom, e10_isChild, e10_isWay, e10_areHours, q1, q2, q3, Option.bind_some, b2_pos h1, b2_neg h2, ite00, ite10, if_true, if_false]
      · simp only [fX11_copy, e11_within, e11_isQuestion, e11_isYear, e11_isSlip, e11_is1f, e11_is2f, e11_is3f, e11_areHours, fndC_84, fndC_83, fndC_88, fndC_89, fndC_90, Option.bind_some, b2_pos h1, b2_neg h2, ite00, ite10, if_true, if_false]
  · refine Op_find hI (-1000001) 0 (by decide) (by decide) ?_ ?_
    · simp only [fX10_copy, e10_isWithin, e10_isQuestion, e10_isYear, e10_isKind, e10_isSlip, e10_isRoom, e10_isChild, e10_isWay, e10_areHours, q1, q2, q3, Option.bind_some, b2_neg h1, ite00, ite10, if_true, if_false]
    · simp only [fX11_copy, e11_within, e11_isQuestion, e11_isYear, e11_isSlip, e11_is1f, e11_is2f, e11_is3f, e11_areHours, fndC_84, fndC_83, fndC_88, fndC_89, fndC_90, Option.bind_some, b2_neg h1, ite00, ite10, if_true, if_false]
