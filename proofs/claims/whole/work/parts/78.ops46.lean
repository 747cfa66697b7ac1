/-! LEVEL 2: check -/
def ckS (d : Nat → Int32) (N : Nat → Int32) (x : Int32) (y m L i : Nat) : Prop := i ≤ min L 7 ∧ (∀ j, j < i → d j = vM N j x y m) ∧ (i < min L 7 → ¬ d i = vM N i x y m)
theorem ckS_uniq {d : Nat → Int32} {N : Nat → Int32} {x : Int32} {y m L i j : Nat} (h : ckS d N x y m L i) (h2 : ckS d N x y m L j) : i = j := by
  obtain ⟨a1, a2, a3⟩ := h
  obtain ⟨b1, b2, b3⟩ := h2
  by_cases c : i < j
  · exact absurd (b2 i c) (a3 (by omega))
  · by_cases c2 : j < i
    · exact absurd (a2 j c2) (b3 (by omega))
    · omega
theorem c_check {A : ruA} {N : Nat → Int32} {m : Nat} (h : roC A N m) {y s L : Nat} (hy : y < 6) (hs : s < 4) (hL : L ≤ 24) (eL : A.1 (74 + 2 * s) 1 = iN L) (x : Int32) : ∃ i B, ckS (A.1 (75 + 2 * s)) N x y m L i ∧ lkC A B ∧ fX10_check_l74 x (iN y) (74 + 2 * s) (fun v18 A19 => some (v18, A19)) (fun A20 => some (A20.1 (74 + 2 * s) 1, A20)) ruF 0 A = some (iN i, B) := by
  refine loop_gen (fun n i (B : ruA) => fX10_check_l74 x (iN y) (74 + 2 * s) (fun v18 A19 => some (v18, A19)) (fun A20 => some (A20.1 (74 + 2 * s) 1, A20)) n (iN i) B) (min L 7) (fun i B => lkC A B ∧ ∀ j, j < i → A.1 (75 + 2 * s) j = vM N j x y m) (fun o => ∃ i B, ckS (A.1 (75 + 2 * s)) N x y m L i ∧ lkC A B ∧ o = some (iN i, B)) ?_ ?_ ruF 0 A (Nat.zero_le _) (by rw [ruF_eq]; omega) ⟨lkC_refl A, fun j hj => by omega⟩
  · rintro n B ⟨h1, h2⟩
    have e4 : B.1 (74 + 2 * s) 1 = iN L := by rw [h1 _ (by omega)]; exact eL
    refine ⟨min L 7, B, ⟨Nat.le_refl _, h2, fun h9 => by omega⟩, h1, ?_⟩
    rw [fX10_check_l74, sl_O hs, Option.bind_some, e4, li7]
    by_cases c : L ≤ min L 7
    · rw [if_pos ((iN_le (by omega) (by omega)).mpr c), show min L 7 = L by omega]
    · rw [if_neg (by rw [iN_le (by omega) (by omega)]; exact c), if_pos ((iN_le (by omega) (by omega)).mpr (by omega))]
  · rintro n i B hi ⟨h1, h2⟩
    have e4 : B.1 (74 + 2 * s) 1 = iN L := by rw [h1 _ (by omega)]; exact eL
    have e5 : B.1 (75 + 2 * s) = A.1 (75 + 2 * s) := h1 _ (by omega)
    obtain ⟨C, c1, c2⟩ := c_of (roC_lk h h1) hy (k := i) (by omega) x
    have hstep : fX10_check_l74 x (iN y) (74 + 2 * s) (fun v18 A19 => some (v18, A19)) (fun A20 => some (A20.1 (74 + 2 * s) 1, A20)) (n + 1) (iN i) B = if A.1 (75 + 2 * s) i = vM N i x y m then fX10_check_l74 x (iN y) (74 + 2 * s) (fun v18 A19 => some (v18, A19)) (fun A20 => some (A20.1 (74 + 2 * s) 1, A20)) n (iN (i + 1)) C else some (iN i, C) := by
      rw [fX10_check_l74, sl_O hs, Option.bind_some, e4, li7, if_neg (by rw [iN_le (by omega) (by omega)]; omega), if_neg (by rw [iN_le (by omega) (by omega)]; omega), sl_num B hs, Option.bind_some, sl_I hs, Option.bind_some, ruld_iN (by omega) (by decide), Option.bind_some, c1, ruB2_some, e5, iN_add1]
    by_cases c3 : A.1 (75 + 2 * s) i = vM N i x y m
    · right
      refine ⟨C, ?_, lkC_trans h1 c2, fun j hj => ?_⟩
      · rw [hstep, if_pos c3]
      · by_cases e : j = i
        · rw [e]
          exact c3
        · exact h2 j (by omega)
    · left
      refine ⟨i, C, ⟨by omega, h2, fun _ => c3⟩, lkC_trans h1 c2, ?_⟩
      rw [hstep, if_neg c3]
theorem r_check {A : ruA} {N : Nat → Int32} {m : Nat} (hm : m ≤ 24) (e84 : A.1 84 = N) (e2 : N 2 = iN m) (hkd : ∀ s, s < 144 → ∀ q, q < 12 → 0 ≤ N (141 + 28 * s + q) ∧ N (141 + 28 * s + q) ≤ 7) {y s L : Nat} (hy : y < 6) (hs : s < 4) (hL : L ≤ 24) (eL : A.1 89 s = iN L) (x : Int32) : ∃ i B, ckS (fun i => A.1 90 (24 * s + i)) N x y m L i ∧ lkR A B ∧ fX11_check_l65 x (iN y) (iN s) (fun v14 A15 => some (v14, A15)) ruF 0 A = some (iN i, B) := by
  refine loop_gen (fun n i (B : ruA) => fX11_check_l65 x (iN y) (iN s) (fun v14 A15 => some (v14, A15)) n (iN i) B) (min L 7) (fun i B => lkR A B ∧ ∀ j, j < i → A.1 90 (24 * s + j) = vM N j x y m) (fun o => ∃ i B, ckS (fun i => A.1 90 (24 * s + i)) N x y m L i ∧ lkR A B ∧ o = some (iN i, B)) ?_ ?_ ruF 0 A (Nat.zero_le _) (by rw [ruF_eq]; omega) ⟨lkR_refl A, fun j hj => by omega⟩
  · rintro n B ⟨h1, h2⟩
    refine ⟨min L 7, B, ⟨Nat.le_refl _, h2, fun h9 => by omega⟩, h1, ?_⟩
    rw [fX11_check_l65, h1.1 89 (by decide), ruld_iN hs (by decide), Option.bind_some, eL, li7]
    by_cases c : L ≤ min L 7
    · rw [if_pos ((iN_le (by omega) (by omega)).mpr c)]
    · rw [if_neg (by rw [iN_le (by omega) (by omega)]; exact c), if_pos ((iN_le (by omega) (by omega)).mpr (by omega))]
  · rintro n i B hi ⟨h1, h2⟩
    have e84s : B.1 84 = N := (lkR_84 h1).trans e84
    obtain ⟨C, c1, c2⟩ := r_of (A := B) hm (by rw [e84s]; exact e2) (by rw [e84s]; exact hkd) hy (k := i) (by omega) x
    rw [e84s] at c1
    have hstep : fX11_check_l65 x (iN y) (iN s) (fun v14 A15 => some (v14, A15)) (n + 1) (iN i) B = if A.1 90 (24 * s + i) = vM N i x y m then fX11_check_l65 x (iN y) (iN s) (fun v14 A15 => some (v14, A15)) n (iN (i + 1)) C else some (iN i, C) := by
      rw [fX11_check_l65, h1.1 89 (by decide), ruld_iN hs (by decide), Option.bind_some, eL, li7, if_neg (by rw [iN_le (by omega) (by omega)]; omega), if_neg (by rw [iN_le (by omega) (by omega)]; omega), h1.1 90 (by decide), li24, iN_mul, iN_add, ruld_iN (by omega) (by decide), Option.bind_some, c1, ruB2_some, iN_add1]
    by_cases c3 : A.1 90 (24 * s + i) = vM N i x y m
    · right
      refine ⟨C, ?_, lkR_trans h1 c2, fun j hj => ?_⟩
      · rw [hstep, if_pos c3]
      · by_cases e : j = i
        · rw [e]
          exact c3
        · exact h2 j (by omega)
    · left
      refine ⟨i, C, ⟨by omega, h2, fun _ => c3⟩, lkR_trans h1 c2, ?_⟩
      rw [hstep, if_neg c3]
theorem op_check {W : ruWy} {A : ruA} (hI : Inv W A) (x1 x2 x3 : Int32) : Op2 W (fX10_check x1 x2 x3) (fX11_check x1 x2 x3) A := by
  obtain ⟨⟨hn, hq, hc, hs, hb, hr, hh, hf, hw⟩, hK, hMf, hMt, hMs⟩ := id hI
  obtain ⟨m0, m1, m2, m3, m4, m5⟩ := id hn
  have q0 : A.1 2 0 = A.1 84 0 := m0.1
  have q1 : A.1 2 1 = A.1 84 1 := m1.1
  have q2 : A.1 2 2 = A.1 84 2 := m2.1
  have q3 : A.1 14 0 = A.1 84 3 := m3.1
  have q4 : A.1 23 0 = A.1 84 4 := m4.1
  have q5 : A.1 29 0 = A.1 84 5 := m5.1
  have sh : shC A (A.1 84) := ⟨hq, hs, hb, hr⟩
  have ro : roC A (A.1 84) (cn (A.1 84) 2) := ⟨sh, fun c h => (hc c h).1, q2.trans m2.2.1, m2.2.2⟩
  have hkd : ∀ s, s < 144 → ∀ q, q < 12 → 0 ≤ A.1 84 (141 + 28 * s + q) ∧ A.1 84 (141 + 28 * s + q) ≤ 7 := fun s hs9 q hq9 => (hb s hs9 q hq9).2.2.2
  by_cases h1 : 0 ≤ x1 ∧ x1 ≤ A.1 84 1 - 1
  · by_cases h2 : 0 ≤ x2 ∧ x2 ≤ 5
    · by_cases h3 : 0 ≤ x3 ∧ x3 ≤ 3
      · obtain ⟨r, hr9, rfl⟩ := ch_of m1.2.1 (by omega) h1
        obtain ⟨y, hy, rfl⟩ := yr_of h2
        obtain ⟨s, hs1, rfl⟩ := lt_of (m := 3) (by decide) h3
        have hs4 : s < 4 := by omega
        obtain ⟨⟨s1, s2⟩, ⟨s3, s4, s5⟩, s6⟩ := hMs s (by omega)
        have l88 : ruld (A.1 88) 4 (iN s) = some (A.1 88 s) := ruld_iN (by omega) (by decide)
        have hle := cN_le (p := fun c => inR (A.1 84) (iN r) y c) (cn (A.1 84) 2)
        have hm24 := m2.2.2
        by_cases h5 : A.1 88 s = 0
        · refine Op_find hI (-1000006) 5 (by decide) (by decide) ?_ ?_
          · simp only [fX10_check, e10_isWithin, e10_isQuestion, e10_isYear, e10_isKind, e10_isSlip, e10_isRoom, e10_isChild, e10_isWay, e10_areHours, q1, q2, q3, Option.bind_some, ite00, ite10, if_true, if_false, b2_pos h1, b2_pos h2, b2_pos h3, sl_ref A hs4, sl_O hs4, f10_isMissing A hs4, s1, h5, b2_pos]
          · simp only [fX11_check, e11_within, e11_isQuestion, e11_isYear, e11_isSlip, e11_is1f, e11_is2f, e11_is3f, e11_areHours, fndC_84, fndC_83, fndC_88, fndC_89, fndC_90, Option.bind_some, ite00, ite10, if_true, if_false, b2_pos h1, b2_pos h2, b2_pos h3, l88, h5]
        · have g1 := c_has ro hy r
          by_cases hp : hsP (A.1 84) y (cn (A.1 84) 2) r
          · obtain ⟨i, B, b1, bC, b3⟩ := c_check ro hy hs4 s5 (by rw [s3]; exact s4) (iN r)
            have e84 : B.1 84 = A.1 84 := bC 84 (by decide)
            have hr5 := r_check (A := B) (N := A.1 84) hm24 e84 m2.2.1 hkd hy hs4 s5 (by rw [bC 89 (by decide)]; exact s4) (iN r)
            obtain ⟨j, C, c1, cR, c3⟩ := hr5
            have hij : i = j := by
              refine ckS_uniq b1 ?_
              obtain ⟨c4, c5, c6⟩ := c1
              refine ⟨c4, fun u hu => ?_, fun hu => ?_⟩
              · have := c5 u hu
                rw [bC 90 (by decide)] at this
                rw [s6 u (by omega)]
                exact this
              · have := c6 hu
                rw [bC 90 (by decide)] at this
                rw [s6 j (by omega)]
                exact this
            subst hij
            have hI2 : fX11_is (iN r) 1 B = some (b2 (0 ≤ iN r ∧ iN r ≤ A.1 84 1 - 1)) := by rw [e11_is1, e84]
            have l88B : ruld (B.1 88) 4 (iN s) = some (A.1 88 s) := by rw [bC 88 (by decide)]; exact l88
            refine ⟨_, B, C, (show _ = some (iN i, B) from ?_), ?_, hI.looks bC cR⟩
            · simp only [fX10_check, e10_isWithin, e10_isQuestion, e10_isYear, e10_isKind, e10_isSlip, e10_isRoom, e10_isChild, e10_isWay, e10_areHours, q1, q2, q3, Option.bind_some, ite10, ite00, if_true, b2_pos h1, b2_pos h2, b2_pos h3, sl_ref A hs4, sl_O hs4, f10_isMissing A hs4, s1, b2_neg h5, g1, b2_pos hp, b3]
            · simp only [fX11_check, hI2, e11_within, e11_isYear, e11_isSlip, Option.bind_some, ite10, b2_pos h1, b2_pos h2, b2_pos h3, l88B, if_neg h5, r_has hm24 e84 m2.2.1 hy, if_neg (show ¬ iN (cN (fun c => inR (A.1 84) (iN r) y c) (cn (A.1 84) 2)) = 0 by rw [eq0_iN (by omega)]; omega), c3]
          · have g2 : fX11_sheetsOf (iN r) (iN y) (fndC A 3) = some 0 := by
              rw [r_has hm24 (fndC_84 A 3) m2.2.1 hy, show cN (fun c => inR (A.1 84) (iN r) y c) (cn (A.1 84) 2) = 0 by omega]
              rfl
            refine Op_find hI (-1000004) 3 (by decide) (by decide) ?_ ?_
            · simp only [fX10_check, e10_isWithin, e10_isQuestion, e10_isYear, e10_isKind, e10_isSlip, e10_isRoom, e10_isChild, e10_isWay, e10_areHours, q1, q2, q3, Option.bind_some, ite00, ite10, if_true, if_false, b2_pos h1, b2_pos h2, b2_pos h3, sl_ref A hs4, sl_O hs4, f10_isMissing A hs4, s1, b2_neg h5, g1, b2_neg hp]
            · simp only [fX11_check, e11_within, e11_isQuestion, e11_isYear, e11_isSlip, e11_is1f, e11_is2f, e11_is3f, e11_areHours, fndC_84, fndC_83, fndC_88, fndC_89, fndC_90, Option.bind_some, ite00, ite10, if_true, if_false, b2_pos h1, b2_pos h2, b2_pos h3, l88, if_neg h5, g2]
      · refine Op_find hI (-1000001) 0 (by decide) (by decide) ?_ ?_
        · simp only [fX10_check, e10_isWithin, e10_isQuestion, e10_isYear, e10_isKind, e10_isSlip, e10_isRoom, e10_isChild, e10_isWay, e10_areHours, q1, q2, q3, Option.bind_some, b2_pos h1, b2_pos h2, b2_neg h3, ite00, ite10, if_true, if_false]
        · simp only [fX11_check, e11_within, e11_isQuestion, e11_isYear, e11_isSlip, e11_is1f, e11_is2f, e11_is3f, e11_areHours, fndC_84, fndC_83, fndC_88, fndC_89, fndC_90, Option.bind_some, b2_pos h1, b2_pos h2, b2_neg h3, ite00, ite10, if_true, if_false]
    · refine Op_find hI (-1000001) 0 (by decide) (by decide) ?_ ?_
      · simp only [fX10_check, e10_isWithin, e10_isQuestion, e10_isYear, e10_isKind, e10_isSlip, e10_isRoom, e10_isChild, e10_isWay, e10_areHours, q1, q2, q3, Option.bind_some, b2_pos h1, b2_neg h2, ite00, ite10, if_true, if_false]
      · simp only [fX11_check, e11_within, e11_isQuestion, e11_isYear, e11_isSlip, e11_is1f, e11_is2f, e11_is3f, e11_areHours, fndC_84, fndC_83, fndC_88, fndC_89, fndC_90, Option.bind_some, b2_pos h1, b2_neg h2, ite00, ite10, if_true, if_false]
  · refine Op_find hI (-1000001) 0 (by decide) (by decide) ?_ ?_
    · simp only [fX10_check, e10_isWithin, e10_isQuestion, e10_isYear, e10_isKind, e10_isSlip, e10_isRoom, e10_isChild, e10_isWay, e10_areHours, q1, q2, q3, Option.bind_some, b2_neg h1, ite00, ite10, if_true, if_false]
    · simp only [fX11_check, e11_within, e11_isQuestion, e11_isYear, e11_isSlip, e11_is1f, e11_is2f, e11_is3f, e11_areHours, fndC_84, fndC_83, fndC_88, fndC_89, fndC_90, Option.bind_some, b2_neg h1, ite00, ite10, if_true, if_false]
