/-! LEVEL 2: copies, leaves -/
theorem ruabs_one (x : Int32) : ruabs x = 1 ↔ x = 1 ∨ x = -1 := by
  unfold ruabs
  by_cases h : 0 ≤ x
  · rw [if_pos h]
    constructor
    · exact Or.inl
    · rintro (e | e)
      · exact e
      · rw [e] at h
        exact absurd h (by decide)
  · rw [if_neg h]
    constructor
    · intro e
      right
      have e2 : x = 0 - (0 - x) := by
        rw [Int32.zero_sub, Int32.zero_sub, Int32.neg_neg]
      rw [e2, e]
      rfl
    · rintro (e | e)
      · rw [e] at h
        exact absurd (by decide) h
      · rw [e]
        rfl
/-- copies -/
def fCopies (s t : Nat) (N : Nat → Int32) (q : Nat) : Int32 × (Nat → Int32) := if N (129 + 28 * t + q) = -1 then (0, N) else (b2 (¬ N (129 + 28 * s + q) = N (129 + 28 * t + q)), nMark N s q 3 (N (129 + 28 * t + q)))
theorem f10_neigh (A : ruA) {c d : Nat} (hc : c < 24) (hd : d < 24) : fX5_areNeighbours (iN c) (iN d) A = some (b2 (A.1 5 c = A.1 5 d ∧ (A.1 6 c - A.1 6 d = 1 ∨ A.1 6 c - A.1 6 d = -1))) := by
  unfold fX5_areNeighbours
  rw [ruld_iN hc (by decide), ruld_iN hd (by decide), ruld_iN hc (by decide), ruld_iN hd (by decide), Option.bind_some, Option.bind_some]
  by_cases c1 : A.1 5 c = A.1 5 d
  · rw [if_pos c1, Option.bind_some, Option.bind_some]
    by_cases c2 : A.1 6 c - A.1 6 d = 1 ∨ A.1 6 c - A.1 6 d = -1
    · rw [if_pos ((ruabs_one _).mpr c2), b2_pos ⟨c1, c2⟩]
    · rw [if_neg (fun h => c2 ((ruabs_one _).mp h)), b2_neg (fun h => c2 h.2)]
  · rw [if_neg c1, b2_neg (fun h => c1 h.1)]
theorem f11_may (N : Nat → Int32) (a b u v : Nat) (p q : Prop) [Decidable p] [Decidable q] : ((if b2 p = 0 then some (0 : Int32) else (some (b2 q)).bind fun v10 => if v10 = 0 then some 0 else (some (N a)).bind fun v11 => (some (N b)).bind fun v12 => if v11 = v12 then (if N u - N v = 1 then some 1 else if N u - N v = -1 then some 1 else some 0) else some 0)) = some (b2 (p ∧ q ∧ N a = N b ∧ (N u - N v = 1 ∨ N u - N v = -1))) := by
  simp only [b2_ne, Option.bind_some]
  by_cases c1 : p
  · by_cases c2 : q
    · by_cases c3 : N a = N b
      · by_cases c4 : N u - N v = 1
        · rw [if_pos c1, if_pos c2, if_pos c3, if_pos c4, b2_pos ⟨c1, c2, c3, Or.inl c4⟩]
        · by_cases c5 : N u - N v = -1
          · rw [if_pos c1, if_pos c2, if_pos c3, if_neg c4, if_pos c5, b2_pos ⟨c1, c2, c3, Or.inr c5⟩]
          · rw [if_pos c1, if_pos c2, if_pos c3, if_neg c4, if_neg c5, b2_neg (fun h => h.2.2.2.elim c4 c5)]
      · rw [if_pos c1, if_pos c2, if_neg c3, b2_neg (fun h => c3 h.2.2.1)]
    · rw [if_pos c1, if_neg c2, b2_neg (fun h => c2 h.2.1)]
  · rw [if_neg c1, b2_neg (fun h => c1 h.1)]
theorem f10_copies_l {A0 A : ruA} {N0 N : Nat → Int32} (h : coup A0 A N0 N) {s t : Nat} (hs : s < 144) (ht : t < 144) : ∃ B, fX10_copies_l86 (iN s) (iN t) (fun v A => some (v, A)) ruF 0 0 A = some ((stt (fCopies s t) N 12).1, B) ∧ coup A0 B N0 (stt (fCopies s t) N 12).2 := by
  refine loop_cls (fun n q x B => fX10_copies_l86 (iN s) (iN t) (fun v A => some (v, A)) n x (iN q) B) (fun B M => coup A0 B N0 M) N 12 (fCopies s t) (fun v A => some (v, A)) ?_ ?_ A h ruF (by decide)
  · intro n x B M hR
    rw [fX10_copies_l86, if_pos (by decide)]
  · intro n q x B M hq hR
    have hstep : fX10_copies_l86 (iN s) (iN t) (fun v A => some (v, A)) (n + 1) x (iN q) B = ruB2 (if M (129 + 28 * t + q) = -1 then some (x, B) else (ruB2 (fX10_marks (iN s) (iN q) 3 (M (129 + 28 * t + q)) B) fun v10 A11 => if v10 = 0 then some (x, A11) else some (x + 1, A11))) fun v6 A7 => fX10_copies_l86 (iN s) (iN t) (fun v A => some (v, A)) n v6 (iN (q + 1)) A7 := by
      rw [fX10_copies_l86, li12, if_neg (by rw [iN_le (by omega) (by omega)]; omega), f10_choiceAt hR.1 ht hq, Option.bind_some, iN_add1]
    show ∃ B', fX10_copies_l86 (iN s) (iN t) (fun v A => some (v, A)) (n + 1) x (iN q) B = _ ∧ _
    rw [hstep]
    unfold fCopies
    by_cases c1 : M (129 + 28 * t + q) = -1
    · refine ⟨B, ?_, ?_⟩
      · rw [if_pos c1, if_pos c1, ruB2_some, Int32.add_zero]
      · rw [if_pos c1]
        exact hR
    · obtain ⟨B', b1, bC⟩ := f10_marks hR hs hq (kind := 3) (v := M (129 + 28 * t + q)) ⟨by decide, by decide⟩ (hR.1.2.2.1 t ht q hq).2.1
      refine ⟨B', ?_, ?_⟩
      · rw [if_neg c1, if_neg c1, b1, ruB2_some, b2_ne]
        by_cases c2 : ¬ M (129 + 28 * s + q) = M (129 + 28 * t + q)
        · rw [if_pos c2, ruB2_some, b2_pos c2]
        · rw [if_neg c2, ruB2_some, b2_neg c2, Int32.add_zero]
      · rw [if_neg c1]
        exact bC
theorem f11_choiceN (A : ruA) (N : Nat → Int32) {c y q : Nat} (hc : c < 24) (hy : y < 6) (hq : q < 12) : fX11_choice (iN c) (iN y) (iN q) (rusetA A 84 N) = some (N (129 + 28 * (6 * c + y) + q)) := by
  have h := f11_choice (rusetA A 84 N) hc hy hq
  rw [rusetA_at] at h
  exact h
theorem f11_copies_l (A : ruA) (N : Nat → Int32) {c d y : Nat} (hc : c < 24) (hd : d < 24) (hy : y < 6) (hN : N 0 = iN y) : fX11_copies_l117 (iN c) (iN d) (iN y) (fun v A => some (v, A)) ruF 0 0 (rusetA A 84 N) = some ((stt (fCopies (6 * c + y) (6 * d + y)) N 12).1, rusetA A 84 (stt (fCopies (6 * c + y) (6 * d + y)) N 12).2) := by
  refine loop_ref (fun n q x B => fX11_copies_l117 (iN c) (iN d) (iN y) (fun v A => some (v, A)) n x (iN q) B) A N 12 (fCopies (6 * c + y) (6 * d + y)) (fun v A => some (v, A)) (fun M => M 0 = iN y) ?_ ?_ ?_ hN ruF (by decide)
  · intro n x M hM
    rw [fX11_copies_l117, if_pos (by decide)]
  · intro n q x M hq hM
    rw [fX11_copies_l117, li12, if_neg (by rw [iN_le (by omega) (by omega)]; omega), f11_choiceN A M hd hy hq, Option.bind_some, Option.bind_some, iN_add1]
    unfold fCopies
    by_cases c1 : M (129 + 28 * (6 * d + y) + q) = -1
    · rw [if_pos c1, if_pos c1, ruB2_some]
    · rw [if_neg c1, if_neg c1, f11_marks A M hc hy hq hM, ruB2_some, b2_ne]
      by_cases c2 : ¬ M (129 + 28 * (6 * c + y) + q) = M (129 + 28 * (6 * d + y) + q)
      · rw [if_pos c2, ruB2_some, b2_pos c2]
      · rw [if_neg c2, ruB2_some, b2_neg c2]
  · intro M q hq hM
    unfold fCopies
    split
    · exact hM
    · show nMark M (6 * c + y) q 3 (M (129 + 28 * (6 * d + y) + q)) 0 = _
      rw [nMark_out (by omega) hq (by omega)]
      exact hM
theorem op_copies {W : ruWy} {A : ruA} (hI : Inv W A) (x1 x2 : Int32) : Op2 W (fX10_copies x1 x2) (fX11_copies x1 x2) A := by
  obtain ⟨⟨hn, hq, hc, hs, hb, hr, hh, hf, hw⟩, hK, hMf, hMt, hMs⟩ := id hI
  obtain ⟨m0, m1, m2, m3, m4, m5⟩ := id hn
  have q0 : A.1 2 0 = A.1 84 0 := m0.1
  have q1 : A.1 2 1 = A.1 84 1 := m1.1
  have q2 : A.1 2 2 = A.1 84 2 := m2.1
  have q3 : A.1 14 0 = A.1 84 3 := m3.1
  have q4 : A.1 23 0 = A.1 84 4 := m4.1
  have q5 : A.1 29 0 = A.1 84 5 := m5.1
  have sh : shC A (A.1 84) := ⟨hq, hs, hb, hr⟩
  by_cases h1 : 0 ≤ x1 ∧ x1 ≤ A.1 84 2 - 1
  · by_cases h2 : 0 ≤ x2 ∧ x2 ≤ A.1 84 2 - 1
    · obtain ⟨c, hc1, rfl⟩ := ch_of m2.2.1 (by omega) h1
      obtain ⟨d, hd1, rfl⟩ := ch_of m2.2.1 (by omega) h2
      have hc2 : c < 24 := by omega
      have hd2 : d < 24 := by omega
      obtain ⟨-, ey, hy5⟩ := m0
      generalize cn (A.1 84) 0 = y at *
      have hy : y < 6 := by omega
      have hst : 6 * c + y < 144 := by omega
      have hst2 : 6 * d + y < 144 := by omega
      have g0 := f10_openSheet A (q0.trans ey) c
      have g0d := f10_openSheet A (q0.trans ey) d
      have g1 := f10_there sh hst
      have g1d := f10_there sh hst2
      have gn := f10_neigh A hc2 hd2
      rw [show A.1 5 c = A.1 84 (32 + 4 * c) from (hc c hc2).1, show A.1 5 d = A.1 84 (32 + 4 * d) from (hc d hd2).1, show A.1 6 c = A.1 84 (33 + 4 * c) from (hc c hc2).2.1, show A.1 6 d = A.1 84 (33 + 4 * d) from (hc d hd2).2.1] at gn
      -- the reference's question, at any contents with this row
      have ref : ∀ B : ruA, B.1 84 = A.1 84 → fX11_copies (iN c) (iN d) B = if A.1 84 (128 + 28 * (6 * c + y)) = 1 ∧ A.1 84 (128 + 28 * (6 * d + y)) = 1 ∧ A.1 84 (32 + 4 * c) = A.1 84 (32 + 4 * d) ∧ (A.1 84 (33 + 4 * c) - A.1 84 (33 + 4 * d) = 1 ∨ A.1 84 (33 + 4 * c) - A.1 84 (33 + 4 * d) = -1) then fX11_copies_l117 (iN c) (iN d) (iN y) (fun v19 A20 => some (v19, A20)) ruF 0 0 B else ruB2 (fX11_finding (-1000005) B) fun v21 A22 => some (v21, A22) := by
        intro B e84
        have i1 : fX11_is (iN c) 2 B = some (b2 (0 ≤ iN c ∧ iN c ≤ A.1 84 2 - 1)) := by rw [e11_is2, e84]
        have i2 : fX11_is (iN d) 2 B = some (b2 (0 ≤ iN d ∧ iN d ≤ A.1 84 2 - 1)) := by rw [e11_is2, e84]
        have i0 : ruld (B.1 84) 4920 0 = some (iN y) := by rw [l0A, e84, ey]
        have k1 : fX11_childOf (iN c) 1 B = some (A.1 84 (33 + 4 * c)) := by
          have := f11_childOf B (c := c) (j := 1) hc2 (by decide)
          rw [e84, show 32 + 4 * c + 1 = 33 + 4 * c by omega] at this
          exact this
        have k2 : fX11_childOf (iN d) 1 B = some (A.1 84 (33 + 4 * d)) := by
          have := f11_childOf B (c := d) (j := 1) hd2 (by decide)
          rw [e84, show 32 + 4 * d + 1 = 33 + 4 * d by omega] at this
          exact this
        have k3 : fX11_childOf (iN c) 0 B = some (A.1 84 (32 + 4 * c)) := by
          have := f11_childOf B (c := c) (j := 0) hc2 (by decide)
          rw [e84] at this
          exact this
        have k4 : fX11_childOf (iN d) 0 B = some (A.1 84 (32 + 4 * d)) := by
          have := f11_childOf B (c := d) (j := 0) hd2 (by decide)
          rw [e84] at this
          exact this
        have s1 := f11_hasSheet B hc2 hy
        have s2 := f11_hasSheet B hd2 hy
        rw [e84] at s1 s2
        unfold fX11_copies
        rw [i1, Option.bind_some, b2_pos h1, ite10, i2, Option.bind_some, b2_pos h2, ite10, i0, Option.bind_some, k1, Option.bind_some, k2, Option.bind_some, s1, Option.bind_some, s2, k3, k4, f11_may (A.1 84) (32 + 4 * c) (32 + 4 * d) (33 + 4 * c) (33 + 4 * d), Option.bind_some, b2_ne]
      by_cases hm : A.1 84 (128 + 28 * (6 * c + y)) = 1 ∧ A.1 84 (128 + 28 * (6 * d + y)) = 1 ∧ A.1 84 (32 + 4 * c) = A.1 84 (32 + 4 * d) ∧ (A.1 84 (33 + 4 * c) - A.1 84 (33 + 4 * d) = 1 ∨ A.1 84 (33 + 4 * c) - A.1 84 (33 + 4 * d) = -1)
      · obtain ⟨B, b1, bC⟩ := f10_copies_l (coup_refl sh) hst hst2
        have e84 : B.1 84 = A.1 84 := bC.2.1 84 (by omega)
        refine ⟨(stt (fCopies (6 * c + y) (6 * d + y)) (A.1 84) 12).1, B, _, ?_, ?_, hI.marks bC⟩
        rotate_left
        · rw [ref B e84, if_pos hm]
          have hg := f11_copies_l B (A.1 84) hc2 hd2 hy ey
          rw [self84 e84] at hg
          exact hg
        · have n1 : ¬ A.1 84 (128 + 28 * (6 * c + y)) = 0 := by rw [hm.1]; decide
          have n2 : ¬ A.1 84 (128 + 28 * (6 * d + y)) = 0 := by rw [hm.2.1]; decide
          simp only [fX10_copies, e10_isWithin, e10_isQuestion, e10_isYear, e10_isKind, e10_isSlip, e10_isRoom, e10_isChild, e10_isWay, e10_areHours, q1, q2, q3, Option.bind_some, ite10, b2_pos h1, b2_pos h2, g0, g0d, g1, g1d, if_neg n1, if_neg n2, gn, b2_pos hm.2.2, b1]
      · refine Op_find hI (-1000005) 4 (by decide) (by decide) ?_ ?_
        · simp only [fX10_copies, e10_isWithin, e10_isQuestion, e10_isYear, e10_isKind, e10_isSlip, e10_isRoom, e10_isChild, e10_isWay, e10_areHours, q1, q2, q3, Option.bind_some, ite10, b2_pos h1, b2_pos h2, g0, g0d, g1, g1d]
          by_cases n1 : A.1 84 (128 + 28 * (6 * c + y)) = 0
          · rw [if_pos n1]
          · rw [if_neg n1]
            by_cases n2 : A.1 84 (128 + 28 * (6 * d + y)) = 0
            · rw [if_pos n2]
            · rw [if_neg n2, gn, Option.bind_some, b2_neg (fun h => hm ⟨th_of (hs _ hst).2.1 n1, th_of (hs _ hst2).2.1 n2, h⟩), ite00]
        · rw [ref (fndC A 4) (fndC_84 A 4), if_neg hm]
    · refine Op_find hI (-1000001) 0 (by decide) (by decide) ?_ ?_
      · simp only [fX10_copies, e10_isWithin, e10_isQuestion, e10_isYear, e10_isKind, e10_isSlip, e10_isRoom, e10_isChild, e10_isWay, e10_areHours, q1, q2, q3, Option.bind_some, b2_pos h1, b2_neg h2, ite00, ite10, if_true, if_false]
      · simp only [fX11_copies, e11_within, e11_isQuestion, e11_isYear, e11_isSlip, e11_is1f, e11_is2f, e11_is3f, e11_areHours, fndC_84, fndC_83, fndC_88, fndC_89, fndC_90, Option.bind_some, b2_pos h1, b2_neg h2, ite00, ite10, if_true, if_false]
  · refine Op_find hI (-1000001) 0 (by decide) (by decide) ?_ ?_
    · simp only [fX10_copies, e10_isWithin, e10_isQuestion, e10_isYear, e10_isKind, e10_isSlip, e10_isRoom, e10_isChild, e10_isWay, e10_areHours, q1, q2, q3, Option.bind_some, b2_neg h1, ite00, ite10, if_true, if_false]
    · simp only [fX11_copies, e11_within, e11_isQuestion, e11_isYear, e11_isSlip, e11_is1f, e11_is2f, e11_is3f, e11_areHours, fndC_84, fndC_83, fndC_88, fndC_89, fndC_90, Option.bind_some, b2_neg h1, ite00, ite10, if_true, if_false]
/-- a sheet comes or goes -/
theorem shC_there {A : ruA} {N : Nat → Int32} (h : shC A N) {s : Nat} (hs : s < 6 * cn N 2) (hs2 : s < 144) {v : Int32} (hv : v = 0 ∨ v = 1) : shC (ruset A 10 s v) (upd N (128 + 28 * s) v) := by
  obtain ⟨h1, h2, h3, h4⟩ := h
  have eN : ∀ i, i ≠ 128 + 28 * s → upd N (128 + 28 * s) v i = N i := fun i hi => upd_ne _ _ hi
  refine ⟨h1.congr ⟨rfl, rfl⟩ fun i a b => eN i (by omega), ?_, h3.congr ⟨rfl, rfl⟩ fun i a j b => eN _ (by omega), h4.congr rfl fun i a j b => eN _ (by omega)⟩
  intro t ht
  have e10 : (ruset A 10 s v).1 (1 + 9) = upd (A.1 10) s v := rfl
  rw [e10, cn_congr (eN 2 (by omega))]
  by_cases e : t = s
  · subst e
    rw [upd_same, upd_same]
    exact ⟨rfl, hv, by omega⟩
  · rw [upd_ne _ _ e, eN _ (by omega)]
    exact h2 t ht
theorem op_leaves {W : ruWy} {A : ruA} (hI : Inv W A) (x1 : Int32) : Op2 W (fX10_leaves x1) (fX11_leaves x1) A := by
  obtain ⟨⟨hn, hq, hc, hs, hb, hr, hh, hf, hw⟩, hK, hMf, hMt, hMs⟩ := id hI
  obtain ⟨m0, m1, m2, m3, m4, m5⟩ := id hn
  have q0 : A.1 2 0 = A.1 84 0 := m0.1
  have q1 : A.1 2 1 = A.1 84 1 := m1.1
  have q2 : A.1 2 2 = A.1 84 2 := m2.1
  have q3 : A.1 14 0 = A.1 84 3 := m3.1
  have q4 : A.1 23 0 = A.1 84 4 := m4.1
  have q5 : A.1 29 0 = A.1 84 5 := m5.1
  have sh : shC A (A.1 84) := ⟨hq, hs, hb, hr⟩
  by_cases h1 : 0 ≤ x1 ∧ x1 ≤ A.1 84 2 - 1
  · obtain ⟨c, hc1, rfl⟩ := ch_of m2.2.1 (by omega) h1
    have hc2 : c < 24 := by omega
    obtain ⟨-, ey, hy5⟩ := m0
    generalize cn (A.1 84) 0 = y at *
    have hy : y < 6 := by omega
    have hst : 6 * c + y < 144 := by omega
    have g0 := f10_openSheet A (q0.trans ey) c
    have g1 := f10_there sh hst
    by_cases ht : A.1 84 (128 + 28 * (6 * c + y)) = 0
    · have ht1 : ¬ A.1 84 (128 + 28 * (6 * c + y)) = 1 := by rw [ht]; decide
      have i1 : fX10_isChild (iN c) A = some (b2 (0 ≤ iN c ∧ iN c ≤ A.1 84 2 - 1)) := by rw [e10_isChild, q2]
      refine Op_find hI (-1000004) 3 (by decide) (by decide) ?_ ?_
      · unfold fX10_leaves
        rw [i1, Option.bind_some, b2_pos h1, ite10, g0, Option.bind_some, g1, Option.bind_some, if_pos ht]
      · unfold fX11_leaves
        rw [e11_is2f, Option.bind_some, b2_pos h1, ite10, l0F, Option.bind_some, ey, f11_hasSheetF A _ hc2 hy, Option.bind_some, b2_neg ht1, ite00]
    · have ht1 := th_of (hs _ hst).2.1 ht
      have sh2 := shC_there sh (s := 6 * c + y) (by omega) hst (v := 0) (Or.inl rfl)
      have hcp : coup A (ruset A 10 (6 * c + y) 0) (A.1 84) (upd (A.1 84) (128 + 28 * (6 * c + y)) 0) := ⟨sh2, fun k hk => rs_ne _ _ _ (by omega), fun i hi => upd_ne _ _ (by omega)⟩
      have er : nRights (upd (A.1 84) (128 + 28 * (6 * c + y)) 0) (6 * c + y) = nRights (A.1 84) (6 * c + y) := by
        unfold nRights
        refine sumI_congr 12 fun q hq => ?_
        rw [upd_ne _ _ (by omega), upd_ne _ _ (by omega)]
      refine ⟨nRights (A.1 84) (6 * c + y), ruset A 10 (6 * c + y) 0, _, ?_, ?_, hI.marks hcp⟩
      · have e0 : (0 : Int32) &&& 1 = 0 := by decide
        have hr10 := f10_rights sh2 hst
        rw [er] at hr10
        have i1 : fX10_isChild (iN c) A = some (b2 (0 ≤ iN c ∧ iN c ≤ A.1 84 2 - 1)) := by rw [e10_isChild, q2]
        unfold fX10_leaves
        rw [i1, Option.bind_some, b2_pos h1, ite10, g0, Option.bind_some, g1, Option.bind_some, if_neg ht, e0, rust_iN hst (by decide), Option.bind_some, hr10, Option.bind_some]
      · have e84 : (ruset A 10 (6 * c + y) 0).1 84 = A.1 84 := rfl
        generalize ruset A 10 (6 * c + y) 0 = B at *
        have i1 : fX11_is (iN c) 2 B = some (b2 (0 ≤ iN c ∧ iN c ≤ A.1 84 2 - 1)) := by rw [e11_is2, e84]
        have i0 : ruld (B.1 84) 4920 0 = some (iN y) := by rw [l0A, e84, ey]
        have s1 := f11_hasSheet B hc2 hy
        have r1 := f11_rights B hc2 hy
        rw [e84] at s1 r1
        have w1 : rust B 84 4920 (iN (128 + 28 * (6 * c + y))) 0 = some (rusetA B 84 (upd (A.1 84) (128 + 28 * (6 * c + y)) 0)) := by
          have := rust84 B (A.1 84) (i := 128 + 28 * (6 * c + y)) 0 (by omega)
          rw [self84 e84] at this
          exact this
        unfold fX11_leaves
        rw [i1, Option.bind_some, b2_pos h1, ite10, i0, Option.bind_some, s1, Option.bind_some, b2_pos ht1, ite10, Option.bind_some, r1, Option.bind_some, Option.bind_some, e11_sheetAt, Option.bind_some, w1, Option.bind_some]
  · refine Op_find hI (-1000001) 0 (by decide) (by decide) ?_ ?_
    · simp only [fX10_leaves, e10_isWithin, e10_isQuestion, e10_isYear, e10_isKind, e10_isSlip, e10_isRoom, e10_isChild, e10_isWay, e10_areHours, q1, q2, q3, Option.bind_some, b2_neg h1, ite00, ite10, if_true, if_false]
    · simp only [fX11_leaves, e11_within, e11_isQuestion, e11_isYear, e11_isSlip, e11_is1f, e11_is2f, e11_is3f, e11_areHours, fndC_84, fndC_83, fndC_88, fndC_89, fndC_90, Option.bind_some, b2_neg h1, ite00, ite10, if_true, if_false]
