/-! LEVEL 2: what children know; keys, forms, status, the tape -/
theorem op_forget {W : ruWy} {A : ruA} (hI : Inv W A) (x1 x2 : Int32) : Op2 W (fX10_forget x1 x2) (fX11_forget x1 x2) A := by
  obtain ⟨⟨hn, hq, hc, hs, hb, hr, hh, hf, hw⟩, hK, hMf, hMt, hMs⟩ := id hI
  obtain ⟨m0, m1, m2, m3, m4, m5⟩ := id hn
  have q0 : A.1 2 0 = A.1 84 0 := m0.1
  have q1 : A.1 2 1 = A.1 84 1 := m1.1
  have q2 : A.1 2 2 = A.1 84 2 := m2.1
  have q3 : A.1 14 0 = A.1 84 3 := m3.1
  have q4 : A.1 23 0 = A.1 84 4 := m4.1
  have q5 : A.1 29 0 = A.1 84 5 := m5.1
  by_cases h1 : 0 ≤ x1 ∧ x1 ≤ A.1 84 2 - 1
  · by_cases h2 : 0 ≤ x2 ∧ x2 ≤ 11
    · obtain ⟨q, hq1, rfl⟩ := iN_of (m := 11) h2.1 (by decide) h2.2
      rw [m2.2.1] at h1
      obtain ⟨c, hc1, rfl⟩ := iN_of_pred h1.1 (by omega) h1.2
      rw [← m2.2.1] at h1
      have hc9 := hc c (by omega)
      have k7 : A.1 7 c = A.1 84 (34 + 4 * c) := hc9.2.2.1
      have k8 : A.1 8 c = A.1 84 (35 + 4 * c) := hc9.2.2.2.1
      have a2 : 32 + 4 * c + 2 = 34 + 4 * c := by omega
      have a3 : 32 + 4 * c + 3 = 35 + 4 * c := by omega
      generalize hm : ((1 : Int32) <<< (iN q &&& 31)) ^^^ (-1 : Int32) = mk
      have hf1 : fX10_forget (iN c) (iN q) A = some (b2 (bt (A.1 84 (34 + 4 * c)) q = true), ruset (ruset A 7 c (A.1 84 (34 + 4 * c) &&& mk)) 8 c (A.1 84 (35 + 4 * c) &&& mk)) := by
        simp (disch := omega) only [fX10_forget, fX5_forgets, hm, k7, k8, e10_isWithin, e10_isQuestion, e10_isYear, e10_isKind, e10_isSlip, e10_isRoom, e10_isChild, e10_isWay, e10_areHours, q1, q2, q3, Option.bind_some, b2_pos h1, b2_pos h2, ite10, ruld_iN, rust_iN, e10_has, rubz_b2, ruB2_some, rs_1, if_pos, if_neg, if_true, if_false]
        unfold b2
        split <;> rfl
      have hg1 : fX11_forget (iN c) (iN q) (ruset (ruset A 7 c (A.1 84 (34 + 4 * c) &&& mk)) 8 c (A.1 84 (35 + 4 * c) &&& mk)) = some (b2 (bt (A.1 84 (34 + 4 * c)) q = true), ruset (ruset (ruset (ruset A 7 c (A.1 84 (34 + 4 * c) &&& mk)) 8 c (A.1 84 (35 + 4 * c) &&& mk)) 84 (34 + 4 * c) (A.1 84 (34 + 4 * c) &&& mk)) 84 (35 + 4 * c) (A.1 84 (35 + 4 * c) &&& mk)) := by
        simp (disch := omega) only [fX11_forget, hm, e11_within, e11_isQuestion, e11_isYear, e11_isSlip, e11_is1, e11_is2, e11_is3, e11_is1N, e11_is2N, e11_is3N, e11_areHours, fndC_84, fndC_83, fndC_88, fndC_89, fndC_90, Option.bind_some, rs_1, upd_at, if_neg, if_pos, if_true, if_false, b2_pos h1, b2_pos h2, ite10, li32, li4, li2, li3, iN_mul, iN_add, a2, a3, ruld_iN, rust_iN, e11_has]
        unfold b2
        split <;> rfl
      refine ⟨_, _, _, hf1, hg1, hI.now ?_ ?_⟩
      · refine ⟨fun k hk => by simp (disch := omega) only [rs_1, upd_at, if_pos, if_neg, if_true, if_false], ⟨rfl, rfl, rfl⟩, ⟨rfl, rfl, rfl⟩⟩
      · refine ⟨hn.congr ⟨rfl, rfl, rfl, rfl⟩ fun i h1 => (by simp (disch := omega) only [rs_1, upd_at, if_pos, if_neg, if_true, if_false]), hq.congr ⟨rfl, rfl⟩ fun i h1 h2 => (by simp (disch := omega) only [rs_1, upd_at, if_pos, if_neg, if_true, if_false]), fun i hi => ?_, hs.congr rfl (by simp (disch := omega) only [rs_1, upd_at, if_pos, if_neg, if_true, if_false]) fun i h1 => (by simp (disch := omega) only [rs_1, upd_at, if_pos, if_neg, if_true, if_false]), hb.congr ⟨rfl, rfl⟩ fun i h1 j h2 => (by simp (disch := omega) only [rs_1, upd_at, if_pos, if_neg, if_true, if_false]), hr.congr rfl fun i h1 j h2 => (by simp (disch := omega) only [rs_1, upd_at, if_pos, if_neg, if_true, if_false]), hh.congr ⟨rfl, rfl, rfl, rfl⟩ (by simp (disch := omega) only [rs_1, upd_at, if_pos, if_neg, if_true, if_false]) m4.2.2 fun i h1 h2 => (by simp (disch := omega) only [rs_1, upd_at, if_pos, if_neg, if_true, if_false]), hf.congr ⟨rfl, rfl⟩ (by simp (disch := omega) only [rs_1, upd_at, if_pos, if_neg, if_true, if_false]) m5.2.2 fun i h1 h2 => (by simp (disch := omega) only [rs_1, upd_at, if_pos, if_neg, if_true, if_false]), hw.congr (fun k h1 h2 => (by simp (disch := omega) only [rs_1, upd_at, if_pos, if_neg, if_true, if_false])) (by simp (disch := omega) only [rs_1, upd_at, if_pos, if_neg, if_true, if_false]) m3.2.2 fun i h1 h2 => (by simp (disch := omega) only [rs_1, upd_at, if_pos, if_neg, if_true, if_false])⟩
        have h9 := hc i hi
        by_cases e : i = c
        · subst e
          refine ⟨?_, ?_, ?_, ?_, ?_⟩
          · simp (disch := omega) only [rs_1, upd_at, if_pos, if_neg, if_true, if_false]; exact h9.1
          · simp (disch := omega) only [rs_1, upd_at, if_pos, if_neg, if_true, if_false]; exact h9.2.1
          · simp (disch := omega) only [rs_1, upd_at, if_pos, if_neg, if_true, if_false]
          · simp (disch := omega) only [rs_1, upd_at, if_pos, if_neg, if_true, if_false]
          · rw [cn_congr (N := A.1 84) (by simp (disch := omega) only [rs_1, upd_at, if_pos, if_neg, if_true, if_false])]; omega
        · refine ⟨?_, ?_, ?_, ?_, ?_⟩
          · simp (disch := omega) only [rs_1, upd_at, if_pos, if_neg, if_true, if_false]; exact h9.1
          · simp (disch := omega) only [rs_1, upd_at, if_pos, if_neg, if_true, if_false]; exact h9.2.1
          · simp (disch := omega) only [rs_1, upd_at, if_pos, if_neg, if_true, if_false]; exact h9.2.2.1
          · simp (disch := omega) only [rs_1, upd_at, if_pos, if_neg, if_true, if_false]; exact h9.2.2.2.1
          · rw [cn_congr (N := A.1 84) (by simp (disch := omega) only [rs_1, upd_at, if_pos, if_neg, if_true, if_false])]; intro h8; simp (disch := omega) only [rs_1, upd_at, if_pos, if_neg, if_true, if_false]; exact h9.2.2.2.2 h8
    · refine Op_find hI (-1000001) 0 (by decide) (by decide) ?_ ?_
      · simp only [fX10_forget, e10_isWithin, e10_isQuestion, e10_isYear, e10_isKind, e10_isSlip, e10_isRoom, e10_isChild, e10_isWay, e10_areHours, q1, q2, q3, Option.bind_some, b2_pos h1, b2_neg h2, ite00, ite10, if_true, if_false]
      · simp only [fX11_forget, e11_within, e11_isQuestion, e11_isYear, e11_isSlip, e11_is1f, e11_is2f, e11_is3f, e11_areHours, fndC_84, fndC_83, fndC_88, fndC_89, fndC_90, Option.bind_some, b2_pos h1, b2_neg h2, ite00, ite10, if_true, if_false]
  · refine Op_find hI (-1000001) 0 (by decide) (by decide) ?_ ?_
    · simp only [fX10_forget, e10_isWithin, e10_isQuestion, e10_isYear, e10_isKind, e10_isSlip, e10_isRoom, e10_isChild, e10_isWay, e10_areHours, q1, q2, q3, Option.bind_some, b2_neg h1, ite00, ite10, if_true, if_false]
    · simp only [fX11_forget, e11_within, e11_isQuestion, e11_isYear, e11_isSlip, e11_is1f, e11_is2f, e11_is3f, e11_areHours, fndC_84, fndC_83, fndC_88, fndC_89, fndC_90, Option.bind_some, b2_neg h1, ite00, ite10, if_true, if_false]
