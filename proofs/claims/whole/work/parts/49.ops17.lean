/-! LEVEL 2: read -/
abbrev okC (v : Int32) : Prop := -1 ≤ v ∧ v ≤ 3
theorem f10_areWithin (A : ruA) {s m : Nat} (hs : s < 4) (hm : m ≤ 24) (e : A.1 (74 + 2 * s) 1 = iN m) : (∀ q, q < m → ¬ ¬ okC (A.1 (75 + 2 * s) q)) ∧ fX7_areWithin (74 + 2 * s) (-1) 3 A = some 1 ∨ (∃ q, q < m ∧ ¬ okC (A.1 (75 + 2 * s) q)) ∧ fX7_areWithin (74 + 2 * s) (-1) 3 A = some 0 := by
  unfold fX7_areWithin
  refine loop_find (fun n q => fX7_areWithin_l2 (74 + 2 * s) (-1) 3 A (some 0) (some 1) n (iN q)) m (fun q => ¬ okC (A.1 (75 + 2 * s) q)) (some 1) (some 0) ?_ ?_ ?_ ruF (by rw [ruF_eq]; omega)
  · intro n
    rw [fX7_areWithin_l2, sl_O hs, Option.bind_some, e, if_pos ((iN_le (by omega) (by omega)).mpr (Nat.le_refl _))]
  · intro n q hq hp
    rw [fX7_areWithin_l2, sl_O hs, Option.bind_some, e, if_neg (by rw [iN_le (by omega) (by omega)]; omega), sl_num A hs, Option.bind_some, sl_I hs, Option.bind_some, ruld_iN (by omega) (by decide), Option.bind_some, e10_isWithin, Option.bind_some, b2_ne, if_neg hp]
  · intro n q hq hp
    rw [fX7_areWithin_l2, sl_O hs, Option.bind_some, e, if_neg (by rw [iN_le (by omega) (by omega)]; omega), sl_num A hs, Option.bind_some, sl_I hs, Option.bind_some, ruld_iN (by omega) (by decide), Option.bind_some, e10_isWithin, Option.bind_some, b2_ne, if_pos (Decidable.of_not_not hp), iN_add1]
theorem f11_rdl {β : Type} (A : ruA) {s : Nat} (hs : s < 4) (x1 : Int32) (k84 k97 : Option β) : (∀ q, q < 12 → ¬ ¬ okC (A.1 90 (24 * s + q))) ∧ fX11_read_l59 x1 (iN s) A k84 k97 ruF 0 = k97 ∨ (∃ q, q < 12 ∧ ¬ okC (A.1 90 (24 * s + q))) ∧ fX11_read_l59 x1 (iN s) A k84 k97 ruF 0 = k84 := by
  refine loop_find (fun n q => fX11_read_l59 x1 (iN s) A k84 k97 n (iN q)) 12 (fun q => ¬ okC (A.1 90 (24 * s + q))) k97 k84 ?_ ?_ ?_ ruF (by decide)
  · intro n
    rw [fX11_read_l59, if_pos (by decide)]
  · intro n q hq hp
    rw [fX11_read_l59, li12, if_neg (by rw [iN_le (by omega) (by omega)]; omega), li24, iN_mul, iN_add, ruld_iN (by omega) (by decide), Option.bind_some, e11_within, Option.bind_some, b2_ne, if_neg hp]
  · intro n q hq hp
    rw [fX11_read_l59, li12, if_neg (by rw [iN_le (by omega) (by omega)]; omega), li24, iN_mul, iN_add, ruld_iN (by omega) (by decide), Option.bind_some, e11_within, Option.bind_some, b2_ne, if_pos (Decidable.of_not_not hp), iN_add1]
def rdS (g : Nat → Int32) (s : Nat) (N : Nat → Int32) : Nat → (Nat → Int32)
  | 0 => N
  | q + 1 => nPut (rdS g s N q) s q 0 (g q)
theorem rdS_later {g : Nat → Int32} {s : Nat} {N : Nat → Int32} (hs : s < 144) : ∀ q, q ≤ 12 → ∀ j, q ≤ j → j < 12 → rdS g s N q (129 + 28 * s + j) = N (129 + 28 * s + j) ∧ rdS g s N q (141 + 28 * s + j) = N (141 + 28 * s + j)
  | 0, _, _, _, _ => ⟨rfl, rfl⟩
  | q + 1, h, j, hj, hj2 => by
    have ih := rdS_later (g := g) (N := N) hs q (by omega) j (by omega) hj2
    constructor
    · show nPut (rdS g s N q) s q 0 (g q) _ = _
      unfold nPut
      rw [upd_ne _ _ (by omega), upd_ne _ _ (by omega), ih.1]
    · show nPut (rdS g s N q) s q 0 (g q) _ = _
      unfold nPut
      rw [upd_ne _ _ (by omega), upd_ne _ _ (by omega), ih.2]
theorem mark_put0 {M : Nat → Int32} {s q : Nat} {v : Int32} (h1 : M (129 + 28 * s + q) = -1) (h2 : M (141 + 28 * s + q) = 0) : nMark M s q 0 v = nPut M s q 0 v := by
  by_cases e : v = -1
  · subst e
    unfold nMark
    rw [if_pos h1]
    unfold nPut
    funext i
    by_cases c1 : i = 141 + 28 * s + q
    · rw [c1, upd_same, h2]
    · rw [upd_ne _ _ c1]
      by_cases c2 : i = 129 + 28 * s + q
      · rw [c2, upd_same, h1]
      · rw [upd_ne _ _ c2]
  · exact mark_blank h1 e
theorem f10_read_l {β : Type} {A0 A : ruA} {N0 N : Nat → Int32} (h : coup A0 A N0 N) {s t : Nat} (hs : s < 144) (ht : t < 4) {g : Nat → Int32} (hg : ∀ j, j < 12 → A0.1 (75 + 2 * t) j = g j ∧ okC (g j)) (hbl : ∀ j, j < 12 → N (129 + 28 * s + j) = -1 ∧ N (141 + 28 * s + j) = 0) (k : ruA → Option β) : ∃ B, fX10_read_l114 (74 + 2 * t) (iN s) k ruF 0 A = k B ∧ coup A0 B N0 (rdS g s N 12) := by
  refine loop_gen (fun n q B => fX10_read_l114 (74 + 2 * t) (iN s) k n (iN q) B) 12 (fun q B => coup A0 B N0 (rdS g s N q)) (fun r => ∃ B, r = k B ∧ coup A0 B N0 (rdS g s N 12)) ?_ ?_ ruF 0 A (by decide) (by decide) h
  · intro n B hB
    refine ⟨B, ?_, hB⟩
    show fX10_read_l114 (74 + 2 * t) (iN s) k (n + 1) (iN 12) B = _
    rw [fX10_read_l114, if_pos (by decide)]
  · intro n q B hq hB
    right
    have hv := hg q hq
    have r : ruld (B.1 (75 + 2 * t)) 24 (iN q) = some (g q) := by rw [ruld_iN (by omega) (by decide), hB.2.1 _ (by omega), hv.1]
    obtain ⟨B', b1, bC⟩ := f10_marks hB hs hq (kind := 0) (v := g q) ⟨by decide, by decide⟩ hv.2
    have hl := rdS_later (g := g) (N := N) hs q (by omega) q (Nat.le_refl _) hq
    rw [mark_put0 (hl.1.trans (hbl q hq).1) (hl.2.trans (hbl q hq).2)] at bC
    refine ⟨B', ?_, bC⟩
    show fX10_read_l114 (74 + 2 * t) (iN s) k (n + 1) (iN q) B = _
    rw [fX10_read_l114, li12, if_neg (by rw [iN_le (by omega) (by omega)]; omega), sl_O ht, Option.bind_some, sl_num B ht, Option.bind_some, sl_I ht, Option.bind_some, r, Option.bind_some, b1, ruB2_some, iN_add1]
theorem f11_read_l {β : Type} (A : ruA) (N : Nat → Int32) (x1 : Int32) {s t : Nat} (hs : s < 144) (ht : t < 4) {g : Nat → Int32} (hg : ∀ j, j < 12 → A.1 90 (24 * t + j) = g j) (k : ruA → Option β) : fX11_read_l127 x1 (iN t) (iN (128 + 28 * s)) k ruF 0 (rusetA A 84 N) = k (rusetA A 84 (rdS g s N 12)) := by
  refine loop_inv (fun n q (M : Nat → Int32) => fX11_read_l127 x1 (iN t) (iN (128 + 28 * s)) k n (iN q) (rusetA A 84 M)) 12 (fun q => rdS g s N q) _ ?_ ?_ ruF 0 (by decide) (by decide)
  · intro n
    show fX11_read_l127 x1 (iN t) (iN (128 + 28 * s)) k (n + 1) (iN 12) _ = _
    rw [fX11_read_l127, if_pos (by decide)]
  · intro n q hq
    show fX11_read_l127 x1 (iN t) (iN (128 + 28 * s)) k (n + 1) (iN q) (rusetA A 84 (rdS g s N q)) = fX11_read_l127 x1 (iN t) (iN (128 + 28 * s)) k n (iN (q + 1)) (rusetA A 84 (nPut (rdS g s N q) s q 0 (g q)))
    have r : ruld ((rusetA A 84 (rdS g s N q)).1 90) 96 (24 * iN t + iN q) = some (g q) := by
      rw [rsA_ne _ _ (by decide), li24, iN_mul, iN_add, ruld_iN (by omega) (by decide), hg q hq]
    rw [fX11_read_l127, li12, if_neg (by rw [iN_le (by omega) (by omega)]; omega), r, Option.bind_some, f11_put A _ hs hq, Option.bind_some, iN_add1]
theorem op_read {W : ruWy} {A : ruA} (hI : Inv W A) (x1 x2 : Int32) : Op2 W (fX10_read x1 x2) (fX11_read x1 x2) A := by
  obtain ⟨⟨hn, hq, hc, hs, hb, hr, hh, hf, hw⟩, hK, hMf, hMt, hMs⟩ := id hI
  obtain ⟨m0, m1, m2, m3, m4, m5⟩ := id hn
  have q0 : A.1 2 0 = A.1 84 0 := m0.1
  have q1 : A.1 2 1 = A.1 84 1 := m1.1
  have q2 : A.1 2 2 = A.1 84 2 := m2.1
  have q3 : A.1 14 0 = A.1 84 3 := m3.1
  have q4 : A.1 23 0 = A.1 84 4 := m4.1
  have q5 : A.1 29 0 = A.1 84 5 := m5.1
  have sh : shC A (A.1 84) := ⟨hq, hs, hb, hr⟩
  by_cases h1 : 0 ≤ x1 ∧ x1 ≤ A.1 84 2 - 1
  · by_cases h2 : 0 ≤ x2 ∧ x2 ≤ 3
    · obtain ⟨c, hc1, rfl⟩ := ch_of m2.2.1 (by omega) h1
      have hc2 : c < 24 := by omega
      obtain ⟨t, ht1, rfl⟩ := lt_of (m := 3) (by decide) h2
      have ht4 : t < 4 := by omega
      obtain ⟨⟨s1, s2⟩, ⟨s3, s4, s5⟩, s6⟩ := hMs t ht4
      have l88 : ruld (A.1 88) 4 (iN t) = some (A.1 88 t) := ruld_iN (by omega) (by decide)
      have l89 : ruld (A.1 89) 4 (iN t) = some (A.1 89 t) := ruld_iN (by omega) (by decide)
      by_cases h3 : A.1 88 t = 0
      · refine Op_find hI (-1000006) 5 (by decide) (by decide) ?_ ?_
        · simp only [fX10_read, e10_isWithin, e10_isQuestion, e10_isYear, e10_isKind, e10_isSlip, e10_isRoom, e10_isChild, e10_isWay, e10_areHours, q1, q2, q3, Option.bind_some, b2_pos h1, b2_pos h2, ite00, ite10, if_true, if_false, sl_ref A ht4, sl_O ht4, f10_isMissing A ht4, s1, h3, b2_pos]
        · simp only [fX11_read, e11_within, e11_isQuestion, e11_isYear, e11_isSlip, e11_is1f, e11_is2f, e11_is3f, e11_areHours, fndC_84, fndC_83, fndC_88, fndC_89, fndC_90, Option.bind_some, b2_pos h1, b2_pos h2, ite00, ite10, if_true, if_false, l88, h3]
      · by_cases h4 : A.1 89 t = 12
        · have hwc := f10_areWithin A ht4 (m := 12) (by decide) (s3.trans h4)
          by_cases h5 : ∀ q, q < 12 → okC (A.1 90 (24 * t + q))
          · have hw1 : fX7_areWithin (74 + 2 * t) (-1) 3 A = some 1 := by
              rcases hwc with ⟨_, e⟩ | ⟨⟨q, hq9, hn9⟩, _⟩
              · exact e
              · rw [s6 q (by omega)] at hn9
                exact absurd (h5 q hq9) hn9
            have hw2 : ∀ (B : ruA), B.1 90 = A.1 90 → ∀ (k k' : Option (Int32 × ruA)), fX11_read_l59 (iN c) (iN t) B k k' ruF 0 = k' := by
              intro B hB k k'
              rcases f11_rdl B ht4 (iN c) k k' with ⟨_, e⟩ | ⟨⟨q, hq9, hn9⟩, _⟩
              · exact e
              · rw [hB] at hn9
                exact absurd (h5 q hq9) hn9
            obtain ⟨-, ey, hy5⟩ := m0
            generalize cn (A.1 84) 0 = y at *
            have hy : y < 6 := by omega
            have hst : 6 * c + y < 144 := by omega
            have g0 := f10_openSheet A (q0.trans ey) c
            have g1 := f10_there sh hst
            by_cases ht : A.1 84 (128 + 28 * (6 * c + y)) = 0
            · have hth1 : ¬ A.1 84 (128 + 28 * (6 * c + y)) = 1 := by rw [ht]; decide
              obtain ⟨B0, b0, C0⟩ := f10_begin (coup_refl sh) (s := 6 * c + y) (by omega) hst
              obtain ⟨B, b1, bC⟩ := f10_read_l C0 hst ht4 (g := fun j => A.1 90 (24 * t + j)) (fun j hj => ⟨s6 j (by omega), h5 j hj⟩) (fun j hj => ⟨nFresh_blank hj, nFresh_kind hj⟩) (fun A18 => (fX6_rights (iN (6 * c + y)) A18).bind fun v19 => some (v19, A18))
              have e84 : B.1 84 = A.1 84 := bC.2.1 84 (by omega)
              have e88 : B.1 88 = A.1 88 := bC.2.1 88 (by omega)
              have e89 : B.1 89 = A.1 89 := bC.2.1 89 (by omega)
              have e90 : B.1 90 = A.1 90 := bC.2.1 90 (by omega)
              have gf := f11_fresh B (A.1 84) hc2 hy ey
              rw [self84 e84] at gf
              have hs1 := f11_hasSheet B hc2 hy
              rw [e84] at hs1
              have hl0 : ruld (B.1 84) 4920 0 = some (iN y) := by rw [l0A, e84, ey]
              have hI2 : fX11_is (iN c) 2 B = some (b2 (0 ≤ iN c ∧ iN c ≤ A.1 84 2 - 1)) := by rw [e11_is2, e84]
              generalize hM : rdS (fun j => A.1 90 (24 * t + j)) (6 * c + y) (nFresh (A.1 84) (6 * c + y)) 12 = M at *
              have hM0 : M 0 = iN y := by rw [bC.2.2 0 (by omega), ey]
              have gR := f11_rights (rusetA B 84 M) hc2 hy
              rw [rusetA_at] at gR
              refine ⟨nRights M (6 * c + y), B, rusetA B 84 M, ?_, ?_, hI.marks bC⟩
              · unfold fX10_read
                rw [e10_isChild, q2, Option.bind_some, b2_pos h1, ite10, e10_isSlip, Option.bind_some, b2_pos h2, ite10, sl_ref A ht4, Option.bind_some, sl_O ht4, Option.bind_some, f10_isMissing A ht4, Option.bind_some, s1, b2_neg h3, ite00, s3, if_pos h4, hw1, Option.bind_some, ite10, g0, Option.bind_some, g1, Option.bind_some, if_pos ht, b0, Option.bind_some, b1, f10_rights bC.1 hst, Option.bind_some]
              · unfold fX11_read
                rw [hI2, Option.bind_some, b2_pos h1, ite10, e11_isSlip, Option.bind_some, b2_pos h2, ite10, e88, l88, Option.bind_some, if_neg h3, e89, l89, Option.bind_some, if_pos h4, hw2 B e90, hl0, Option.bind_some, hs1, Option.bind_some, b2_neg hth1, ite00, gf, ruB2_some, f11_read_l B _ _ hst ht4 (g := fun j => A.1 90 (24 * t + j)) (fun j hj => by rw [e90]), hM, ruld84_0, Option.bind_some, hM0, gR, Option.bind_some]
            · have hth1 := th_of (hs _ hst).2.1 ht
              have ht0 : ¬ (1 : Int32) = 0 := by decide
              refine Op_find hI (-1000005) 4 (by decide) (by decide) ?_ ?_
              · simp only [fX10_read, e10_isWithin, e10_isQuestion, e10_isYear, e10_isKind, e10_isSlip, e10_isRoom, e10_isChild, e10_isWay, e10_areHours, q1, q2, q3, Option.bind_some, ite00, ite10, if_true, if_false, b2_pos h1, b2_pos h2, sl_ref A ht4, sl_O ht4, f10_isMissing A ht4, s1, b2_neg h3, s3, h4, hw1, g0, g1, hth1, if_neg ht0]
              · simp only [fX11_read, e11_within, e11_isQuestion, e11_isYear, e11_isSlip, e11_is1f, e11_is2f, e11_is3f, e11_areHours, fndC_84, fndC_83, fndC_88, fndC_89, fndC_90, Option.bind_some, ite00, ite10, if_true, if_false, b2_pos h1, b2_pos h2, l88, if_neg h3, l89, h4, hw2 (fndC A 4) rfl, l0A, ey, f11_hasSheetF A _ hc2 hy, b2_pos hth1]
          · have hw1 : fX7_areWithin (74 + 2 * t) (-1) 3 A = some 0 := by
              rcases hwc with ⟨h9, _⟩ | ⟨_, e⟩
              · exfalso
                apply h5
                intro q hq9
                have := Decidable.of_not_not (h9 q hq9)
                rw [s6 q (by omega)] at this
                exact this
              · exact e
            have hw2 : ∀ (B : ruA), B.1 90 = A.1 90 → ∀ (k k' : Option (Int32 × ruA)), fX11_read_l59 (iN c) (iN t) B k k' ruF 0 = k := by
              intro B hB k k'
              rcases f11_rdl B ht4 (iN c) k k' with ⟨h9, _⟩ | ⟨_, e⟩
              · exfalso
                apply h5
                intro q hq9
                have := Decidable.of_not_not (h9 q hq9)
                rw [hB] at this
                exact this
              · exact e
            refine Op_find hI (-1000001) 0 (by decide) (by decide) ?_ ?_
            · simp only [fX10_read, e10_isWithin, e10_isQuestion, e10_isYear, e10_isKind, e10_isSlip, e10_isRoom, e10_isChild, e10_isWay, e10_areHours, q1, q2, q3, Option.bind_some, ite00, ite10, if_true, if_false, b2_pos h1, b2_pos h2, sl_ref A ht4, sl_O ht4, f10_isMissing A ht4, s1, b2_neg h3, s3, h4, hw1]
            · simp only [fX11_read, e11_within, e11_isQuestion, e11_isYear, e11_isSlip, e11_is1f, e11_is2f, e11_is3f, e11_areHours, fndC_84, fndC_83, fndC_88, fndC_89, fndC_90, Option.bind_some, ite00, ite10, if_true, if_false, b2_pos h1, b2_pos h2, l88, if_neg h3, l89, h4, hw2 (fndC A 0) rfl]
        · refine Op_find hI (-1000007) 6 (by decide) (by decide) ?_ ?_
          · simp only [fX10_read, e10_isWithin, e10_isQuestion, e10_isYear, e10_isKind, e10_isSlip, e10_isRoom, e10_isChild, e10_isWay, e10_areHours, q1, q2, q3, Option.bind_some, ite00, ite10, if_true, if_false, b2_pos h1, b2_pos h2, sl_ref A ht4, sl_O ht4, f10_isMissing A ht4, s1, b2_neg h3, s3, if_neg h4]
          · simp only [fX11_read, e11_within, e11_isQuestion, e11_isYear, e11_isSlip, e11_is1f, e11_is2f, e11_is3f, e11_areHours, fndC_84, fndC_83, fndC_88, fndC_89, fndC_90, Option.bind_some, ite00, ite10, if_true, if_false, b2_pos h1, b2_pos h2, l88, if_neg h3, l89, if_neg h4]
    · refine Op_find hI (-1000001) 0 (by decide) (by decide) ?_ ?_
      · simp only [fX10_read, e10_isWithin, e10_isQuestion, e10_isYear, e10_isKind, e10_isSlip, e10_isRoom, e10_isChild, e10_isWay, e10_areHours, q1, q2, q3, Option.bind_some, b2_pos h1, b2_neg h2, ite00, ite10, if_true, if_false]
      · simp only [fX11_read, e11_within, e11_isQuestion, e11_isYear, e11_isSlip, e11_is1f, e11_is2f, e11_is3f, e11_areHours, fndC_84, fndC_83, fndC_88, fndC_89, fndC_90, Option.bind_some, b2_pos h1, b2_neg h2, ite00, ite10, if_true, if_false]
  · refine Op_find hI (-1000001) 0 (by decide) (by decide) ?_ ?_
    · simp only [fX10_read, e10_isWithin, e10_isQuestion, e10_isYear, e10_isKind, e10_isSlip, e10_isRoom, e10_isChild, e10_isWay, e10_areHours, q1, q2, q3, Option.bind_some, b2_neg h1, ite00, ite10, if_true, if_false]
    · simp only [fX11_read, e11_within, e11_isQuestion, e11_isYear, e11_isSlip, e11_is1f, e11_is2f, e11_is3f, e11_areHours, fndC_84, fndC_83, fndC_88, fndC_89, fndC_90, Option.bind_some, b2_neg h1, ite00, ite10, if_true, if_false]
