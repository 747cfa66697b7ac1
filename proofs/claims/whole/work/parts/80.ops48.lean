/-! LEVEL 2: line, the call -/
theorem op_line {W : ruWy} {A : ruA} (hI : Inv W A) (x1 x2 x3 : Int32) : Op2 W (fX10_line x1 x2 x3) (fX11_line x1 x2 x3) A := by
  obtain ⟨⟨hn, hq, hc, hs, hb, hr, hh, hf, hw⟩, hK, hMf, hMt, hMs⟩ := id hI
  obtain ⟨m0, m1, m2, m3, m4, m5⟩ := id hn
  have q0 : A.1 2 0 = A.1 84 0 := m0.1
  have q1 : A.1 2 1 = A.1 84 1 := m1.1
  have q2 : A.1 2 2 = A.1 84 2 := m2.1
  have q3 : A.1 14 0 = A.1 84 3 := m3.1
  have q4 : A.1 23 0 = A.1 84 4 := m4.1
  have q5 : A.1 29 0 = A.1 84 5 := m5.1
  have sh : shC A (A.1 84) := ⟨hq, hs, hb, hr⟩
  have ro : roC A (A.1 84) (cn (A.1 84) 2) := ⟨sh, fun c h => (hc c h).1, q2.trans m2.2.1, m2.2.2⟩
  have hkd : ∀ s, s < 144 → ∀ q, q < 12 → 0 ≤ A.1 84 (141 + 28 * s + q) ∧ A.1 84 (141 + 28 * s + q) ≤ 7 := fun s hs9 q hq9 => (hb s hs9 q hq9).2.2.2
  by_cases h1 : 0 ≤ x1 ∧ x1 ≤ 5
  · by_cases h2 : 0 ≤ x2 ∧ x2 ≤ 5
    · by_cases h3 : 0 ≤ x3 ∧ x3 ≤ 2
      · obtain ⟨y, hy, rfl⟩ := yr_of h2
        obtain ⟨k, hk5, rfl⟩ := yr_of h1
        have hk : k < 7 := by omega
        obtain ⟨-, e1, hR6⟩ := m1
        obtain ⟨-, e2, hm24⟩ := m2
        generalize cn (A.1 84) 1 = R at *
        generalize cn (A.1 84) 2 = m at *
        generalize hN : A.1 84 = N at *
        have g3 := c_rooms ro hR6 (q1.trans e1) hy
        have hleR := cN_le (p := fun r => hsP N y m r) R
        by_cases hz : cN (fun r => hsP N y m r) R = 0
        · have hz2 : sB (fun r => hsP N y m r) R = 0 := (sB_zero (by omega)).mpr hz
          have hb9 := r_build (β := Int32 × ruA) (B := fndC A 3) hm24 hR6 ((fndC_84 A 3).trans hN) e2 e1 hkd hy hk x3 (fun v19 A20 => (if v19 = 0 then ruB2 (fX11_finding (-1000004 : Int32) A20) fun v35 A36 => some (v35, A36) else fX11_line_l131 x3 v19 A20 (fun v32 v33 v34 => (if x3 = 0 then some (v32, A20) else (if x3 = (1 : Int32) then some (v33, A20) else some (v34, A20)))) ruF (-1 : Int32) (0 : Int32) (0 : Int32) (0 : Int32)))
          obtain ⟨C, -, -, c3, c4⟩ := hb9
          rw [hz, c3 hz] at c4
          refine Op_find hI (-1000004) 3 (by decide) (by decide) ?_ ?_
          · simp only [fX10_line, e10_isWithin, e10_isQuestion, e10_isYear, e10_isKind, e10_isSlip, e10_isRoom, e10_isChild, e10_isWay, e10_areHours, q1, q2, q3, Option.bind_some, ite10, ite00, if_true, b2_pos h1, b2_pos h2, b2_pos h3, g3, hz2]
          · have c4' := c4.trans (if_pos (show iN 0 = 0 from rfl))
            simp only [fX11_line, e11_within, e11_isYear, Option.bind_some, ite10, b2_pos h1, b2_pos h2, b2_pos h3]
            exact c4'
        · have hz2 : ¬ sB (fun r => hsP N y m r) R = 0 := fun h => hz ((sB_zero (by omega)).mp h)
          obtain ⟨B, b1, bW, b64⟩ := c_work ro hy (k := k) hk (sB (fun r => hsP N y m r) R)
          have wo : woC B N k y m R := ⟨hR6, fun e he hpe => by rw [b64 e (by omega), if_pos ((bt_sB_iff (by omega)).mpr ⟨he, hpe⟩)]⟩
          have g4 := c_puts (roC_lkW ro bW) hR6 (by rw [bW 2 (by decide)]; exact q1.trans e1) hy
          obtain ⟨b, hb1, hb2, g5⟩ := c_best wo
          have hb9 := r_build (β := Int32 × ruA) (B := B) hm24 hR6 ((bW 84 (by decide)).trans hN) e2 e1 hkd hy hk x3 (fun v19 A20 => (if v19 = 0 then ruB2 (fX11_finding (-1000004 : Int32) A20) fun v35 A36 => some (v35, A36) else fX11_line_l131 x3 v19 A20 (fun v32 v33 v34 => (if x3 = 0 then some (v32, A20) else (if x3 = (1 : Int32) then some (v33, A20) else some (v34, A20)))) ruF (-1 : Int32) (0 : Int32) (0 : Int32) (0 : Int32)))
          obtain ⟨C, cL, c2, -, c4⟩ := hb9
          have hin : ∀ l, l < 10000 → ∀ (a b c : Int32) (K2 : Int32 → Int32 → Option (Int32 × ruA)), fX11_line_l148 x3 (iN (cN (fun r => hsP N y m r) R)) a b c (iN l) C K2 ruF 0 0 0 = K2 (iN (wrL N k y m R (iN l))) (iN (miL N k y m R (iN l))) := by
            intro l hl a b c K2
            rw [r_inner C (by omega)]
            have p1 : cN (fun j => ¬ C.1 94 j < iN l ∧ C.1 95 j = 0) (cN (fun r => hsP N y m r) R) = wrL N k y m R (iN l) := by
              unfold wrL
              refine cN_pack (h := fun r => ¬ vM N k (iN r) y m < iN l ∧ ¬ quP N y m r) R fun e he hp => ?_
              rw [(c2 e he hp).1, (c2 e he hp).2, b2_eq_zero]
            have p2 : cN (fun j => C.1 94 j < iN l ∧ ¬ C.1 95 j = 0) (cN (fun r => hsP N y m r) R) = miL N k y m R (iN l) := by
              unfold miL
              refine cN_pack (h := fun r => vM N k (iN r) y m < iN l ∧ quP N y m r) R fun e he hp => ?_
              rw [(c2 e he hp).1, (c2 e he hp).2, b2_eq_zero]
              exact ⟨fun h => ⟨h.1, Classical.not_not.mp h.2⟩, fun h => ⟨h.1, fun z => z h.2⟩⟩
            rw [p1, p2]
          obtain ⟨b', hb1', hb2', c5⟩ := r_scan C x3 (fun l => wrL N k y m R (iN l)) (fun l => miL N k y m R (iN l)) (fun l => wr_le hR6 _) (fun l => mi_le hR6 _) (fun v32 v33 v34 => (if x3 = 0 then some (v32, C) else (if x3 = (1 : Int32) then some (v33, C) else some (v34, C)))) hin
          have ebb : b' = b := lex_eq (hb2 b' (line_in hR6 hb1' hb2')) (hb2' b hb1)
          subst ebb
          refine ⟨if x3 = 0 then iN b' else if x3 = 1 then iN (wrL N k y m R (iN b')) else iN (miL N k y m R (iN b')), B, C, ?_, ?_, hI.looksL bW cL⟩
          · simp only [fX10_line, e10_isWithin, e10_isQuestion, e10_isYear, e10_isKind, e10_isSlip, e10_isRoom, e10_isChild, e10_isWay, e10_areHours, q1, q2, q3, Option.bind_some, ite10, b2_pos h1, b2_pos h2, b2_pos h3, g3, if_neg hz2, b1, g4, ruB2_some, g5, c_from]
            by_cases d0 : x3 = 0
            · rw [if_pos d0, if_pos d0]
            · rw [if_neg d0, if_neg d0]
              by_cases d1 : x3 = 1
              · rw [if_pos d1, if_pos d1, Option.bind_some, c_wr wo, Option.bind_some]
              · rw [if_neg d1, if_neg d1, Option.bind_some, c_mi wo, Option.bind_some]
          · have hnz : ¬ iN (cN (fun r => hsP N y m r) R) = 0 := by rw [eq0_iN (by omega)]; exact hz
            have c4' := c4.trans (if_neg hnz)
            simp only [fX11_line, e11_within, e11_isYear, Option.bind_some, ite10, b2_pos h1, b2_pos h2, b2_pos h3]
            refine c4'.trans (c5.trans ?_)
            show (if x3 = 0 then some (iN b', C) else (if x3 = 1 then some (iN (wrL N k y m R (iN b')), C) else some (iN (miL N k y m R (iN b')), C))) = _
            split
            · rfl
            · split <;> rfl
      · refine Op_find hI (-1000001) 0 (by decide) (by decide) ?_ ?_
        · simp only [fX10_line, e10_isWithin, e10_isQuestion, e10_isYear, e10_isKind, e10_isSlip, e10_isRoom, e10_isChild, e10_isWay, e10_areHours, q1, q2, q3, Option.bind_some, b2_pos h1, b2_pos h2, b2_neg h3, ite00, ite10, if_true, if_false]
        · simp only [fX11_line, e11_within, e11_isQuestion, e11_isYear, e11_isSlip, e11_is1f, e11_is2f, e11_is3f, e11_areHours, fndC_84, fndC_83, fndC_88, fndC_89, fndC_90, Option.bind_some, b2_pos h1, b2_pos h2, b2_neg h3, ite00, ite10, if_true, if_false]
    · refine Op_find hI (-1000001) 0 (by decide) (by decide) ?_ ?_
      · simp only [fX10_line, e10_isWithin, e10_isQuestion, e10_isYear, e10_isKind, e10_isSlip, e10_isRoom, e10_isChild, e10_isWay, e10_areHours, q1, q2, q3, Option.bind_some, b2_pos h1, b2_neg h2, ite00, ite10, if_true, if_false]
      · simp only [fX11_line, e11_within, e11_isQuestion, e11_isYear, e11_isSlip, e11_is1f, e11_is2f, e11_is3f, e11_areHours, fndC_84, fndC_83, fndC_88, fndC_89, fndC_90, Option.bind_some, b2_pos h1, b2_neg h2, ite00, ite10, if_true, if_false]
  · refine Op_find hI (-1000001) 0 (by decide) (by decide) ?_ ?_
    · simp only [fX10_line, e10_isWithin, e10_isQuestion, e10_isYear, e10_isKind, e10_isSlip, e10_isRoom, e10_isChild, e10_isWay, e10_areHours, q1, q2, q3, Option.bind_some, b2_neg h1, ite00, ite10, if_true, if_false]
    · simp only [fX11_line, e11_within, e11_isQuestion, e11_isYear, e11_isSlip, e11_is1f, e11_is2f, e11_is3f, e11_areHours, fndC_84, fndC_83, fndC_88, fndC_89, fndC_90, Option.bind_some, b2_neg h1, ite00, ite10, if_true, if_false]
