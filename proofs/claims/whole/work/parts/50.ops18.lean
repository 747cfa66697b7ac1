/-! LEVEL 2: fills, puts -/
theorem nMark_th {N : Nat → Int32} {s q : Nat} {kind v : Int32} (hq : q < 12) (t : Nat) : nMark N s q kind v (128 + 28 * t) = N (128 + 28 * t) := by
  unfold nMark
  split
  · rfl
  · unfold nPut
    rw [upd_ne _ _ (by omega), upd_ne _ _ (by omega)]
    split
    · rfl
    · unfold nRub
      have := rubW_lt (N (129 + 28 * s + q)) v (N (8 + q))
      rw [upd_ne _ _ (by omega)]
theorem loop_refx {β : Type} (L : Nat → Nat → Int32 → ruA → Option β) (A : ruA) (N : Nat → Int32) (hi : Nat) (f : (Nat → Int32) → Nat → Int32 × (Nat → Int32)) (K : Int32 → ruA → Option β) (P : (Nat → Int32) → Prop) (x0 : Int32)
    (hexit : ∀ n x M, P M → L (n + 1) hi x (rusetA A 84 M) = K x (rusetA A 84 M)) (hstep : ∀ n q x M, q < hi → P M → L (n + 1) q x (rusetA A 84 M) = L n (q + 1) (x + (f M q).1) (rusetA A 84 (f M q).2))
    (hP : ∀ M q, q < hi → P M → P (f M q).2) (h0 : P N) (n : Nat) (hn : hi < n) : L n 0 x0 (rusetA A 84 N) = K (x0 + (stt f N hi).1) (rusetA A 84 (stt f N hi).2) := by
  have h := loop_ref (fun n q x B => L n q (x0 + x) B) A N hi f (fun x B => K (x0 + x) B) P (fun n x M hM => hexit n _ M hM) (fun n q x M hq hM => by rw [hstep n q _ M hq hM, Int32.add_assoc]) hP h0 n hn
  rw [Int32.add_zero] at h
  exact h
/-- fills -/
def fFillQ (s : Nat) (M : Nat → Int32) (q : Nat) : Int32 × (Nat → Int32) := if M (129 + 28 * s + q) = -1 then (b2 (¬ M (129 + 28 * s + q) = M (8 + q)), nMark M s q 6 (M (8 + q))) else (0, M)
theorem fFillQ_keep {s : Nat} {M : Nat → Int32} {q : Nat} (hs : s < 144) (hq : q < 12) : (∀ i, i < 128 → (fFillQ s M q).2 i = M i) ∧ ∀ t, (fFillQ s M q).2 (128 + 28 * t) = M (128 + 28 * t) := by
  unfold fFillQ
  split
  · exact ⟨fun i hi => nMark_out hs hq (by omega), fun t => nMark_th hq t⟩
  · exact ⟨fun _ _ => rfl, fun _ => rfl⟩
def fFill (x : Int32) (y : Nat) (M : Nat → Int32) (c : Nat) : Int32 × (Nat → Int32) := if M (32 + 4 * c) = x ∧ M (128 + 28 * (6 * c + y)) = 1 then stt (fFillQ (6 * c + y)) M 12 else (0, M)
theorem f10_fillBlanks {A0 A : ruA} {N0 N : Nat → Int32} (h : coup A0 A N0 N) {s : Nat} (hs : s < 144) : ∃ B, fX10_fillBlanks (iN s) A = some ((stt (fFillQ s) N 12).1, B) ∧ coup A0 B N0 (stt (fFillQ s) N 12).2 := by
  unfold fX10_fillBlanks
  refine loop_cls (fun n q x B => fX10_fillBlanks_l4 (iN s) (fun v7 A8 => some (v7, A8)) n x (iN q) B) (fun B M => coup A0 B N0 M) N 12 (fFillQ s) (fun v7 A8 => some (v7, A8)) ?_ ?_ A h ruF (by decide)
  · intro n x B M hB
    show fX10_fillBlanks_l4 (iN s) (fun v7 A8 => some (v7, A8)) (n + 1) x (iN 12) B = _
    rw [fX10_fillBlanks_l4, if_pos (by decide)]
  · intro n q x B M hq hB
    have hstep : fX10_fillBlanks_l4 (iN s) (fun v7 A8 => some (v7, A8)) (n + 1) x (iN q) B = ruB2 (if M (129 + 28 * s + q) = -1 then (ruB2 (fX10_marks (iN s) (iN q) 6 (M (8 + q)) B) fun v5 A6 => if v5 = 0 then some (x, A6) else some (x + 1, A6)) else some (x, B)) fun v2 A3 => fX10_fillBlanks_l4 (iN s) (fun v7 A8 => some (v7, A8)) n v2 (iN (q + 1)) A3 := by
      rw [fX10_fillBlanks_l4, li12, if_neg (by rw [iN_le (by omega) (by omega)]; omega), f10_choiceAt hB.1 hs hq, Option.bind_some, f10_key hB.1 hq, Option.bind_some, iN_add1]
    show ∃ B', fX10_fillBlanks_l4 (iN s) (fun v7 A8 => some (v7, A8)) (n + 1) x (iN q) B = _ ∧ _
    rw [hstep]
    unfold fFillQ
    by_cases c1 : M (129 + 28 * s + q) = -1
    · obtain ⟨B', b1, bC⟩ := f10_marks hB hs hq (kind := 6) (v := M (8 + q)) ⟨by decide, by decide⟩ (key_rng hB.1 hq)
      refine ⟨B', ?_, ?_⟩
      · rw [if_pos c1, if_pos c1, b1, ruB2_some, b2_ne]
        by_cases c2 : ¬ M (129 + 28 * s + q) = M (8 + q)
        · rw [if_pos c2, ruB2_some, b2_pos c2]
        · rw [if_neg c2, ruB2_some, b2_neg c2, Int32.add_zero]
      · rw [if_pos c1]
        exact bC
    · refine ⟨B, ?_, ?_⟩
      · rw [if_neg c1, if_neg c1, ruB2_some, Int32.add_zero]
      · rw [if_neg c1]
        exact hB
theorem f11_fillIn {β : Type} (A : ruA) (N : Nat → Int32) {c y : Nat} (hc : c < 24) (hy : y < 6) (hN : N 0 = iN y) (x x2 : Int32) (k : Int32 → ruA → Option β) : fX11_fills_l33 x (iN c) k ruF x2 0 (rusetA A 84 N) = k (x2 + (fFill x y N c).1) (rusetA A 84 (fFill x y N c).2) := by
  unfold fFill
  have hst : 6 * c + y < 144 := by omega
  by_cases c0 : N (32 + 4 * c) = x ∧ N (128 + 28 * (6 * c + y)) = 1
  · rw [if_pos c0]
    refine loop_refx (fun n q z B => fX11_fills_l33 x (iN c) k n z (iN q) B) A N 12 (fFillQ (6 * c + y)) k (fun M => M 0 = iN y ∧ M (32 + 4 * c) = x ∧ M (128 + 28 * (6 * c + y)) = 1) x2 ?_ ?_ ?_ ⟨hN, c0⟩ ruF (by decide)
    · intro n z M hM
      show fX11_fills_l33 x (iN c) k (n + 1) z (iN 12) _ = _
      rw [fX11_fills_l33, if_pos (by decide)]
    · intro n q z M hq hM
      show fX11_fills_l33 x (iN c) k (n + 1) z (iN q) _ = _
      have f8 : ruld ((rusetA A 84 M).1 84) 4920 (8 + iN q) = some (M (8 + q)) := by
        rw [li8, iN_add, ruld84 A M (by omega)]
      rw [fX11_fills_l33, li12, if_neg (by rw [iN_le (by omega) (by omega)]; omega), ruld84_0, Option.bind_some, hM.1, f11_isOfN A M hc hy, Option.bind_some, b2_ne, if_pos hM.2, Option.bind_some, f11_choiceN A M hc hy hq, Option.bind_some, f8, Option.bind_some, f11_marks A M hc hy hq hM.1, ruB2_some, iN_add1]
      unfold fFillQ
      by_cases c1 : M (129 + 28 * (6 * c + y) + q) = -1
      · rw [if_pos c1, if_pos c1, b2_ne]
        by_cases c2 : ¬ M (129 + 28 * (6 * c + y) + q) = M (8 + q)
        · rw [if_pos c2, ruB2_some, b2_pos c2]
        · rw [if_neg c2, ruB2_some, b2_neg c2]
      · rw [if_neg c1, if_neg c1, ruB2_some]
    · intro M q hq hM
      have hk := fFillQ_keep (M := M) hst hq
      rw [hk.1 0 (by omega), hk.1 _ (by omega), hk.2]
      exact hM
  · rw [if_neg c0, Int32.add_zero, show ruF = 19999 + 1 from ruF_eq, fX11_fills_l33, if_neg (by decide), ruld84_0, Option.bind_some, hN, f11_isOfN A N hc hy, Option.bind_some, b2_ne, if_neg c0]
theorem sttF_keep {s : Nat} (hs : s < 144) (M : Nat → Int32) : ∀ q, q ≤ 12 → (∀ i, i < 128 → (stt (fFillQ s) M q).2 i = M i) ∧ ∀ t, (stt (fFillQ s) M q).2 (128 + 28 * t) = M (128 + 28 * t)
  | 0, _ => ⟨fun _ _ => rfl, fun _ => rfl⟩
  | q + 1, h => by
    have ih := sttF_keep hs M q (by omega)
    have hk := fFillQ_keep (s := s) (M := (stt (fFillQ s) M q).2) (q := q) hs (by omega)
    exact ⟨fun i hi => (hk.1 i hi).trans (ih.1 i hi), fun t => (hk.2 t).trans (ih.2 t)⟩
theorem op_fills {W : ruWy} {A : ruA} (hI : Inv W A) (x1 : Int32) : Op2 W (fX10_fills x1) (fX11_fills x1) A := by
  obtain ⟨⟨hn, hq, hc, hs, hb, hr, hh, hf, hw⟩, hK, hMf, hMt, hMs⟩ := id hI
  obtain ⟨m0, m1, m2, m3, m4, m5⟩ := id hn
  have q0 : A.1 2 0 = A.1 84 0 := m0.1
  have q1 : A.1 2 1 = A.1 84 1 := m1.1
  have q2 : A.1 2 2 = A.1 84 2 := m2.1
  have q3 : A.1 14 0 = A.1 84 3 := m3.1
  have q4 : A.1 23 0 = A.1 84 4 := m4.1
  have q5 : A.1 29 0 = A.1 84 5 := m5.1
  have sh : shC A (A.1 84) := ⟨hq, hs, hb, hr⟩
  by_cases h1 : 0 ≤ x1 ∧ x1 ≤ A.1 84 1 - 1
  · obtain ⟨-, ey, hy5⟩ := m0
    obtain ⟨-, ec, hc24⟩ := m2
    generalize cn (A.1 84) 0 = y at *
    generalize cn (A.1 84) 2 = m at *
    have hy : y < 6 := by omega
    have hcls := loop_cls (fun n c x B => fX10_fills_l19 x1 (fun v8 A9 => some (v8, A9)) n x (iN c) B) (fun B M => coup A B (A.1 84) M) (A.1 84) m (fFill x1 y) (fun v8 A9 => some (v8, A9)) ?_ ?_ A (coup_refl sh) ruF (by rw [ruF_eq]; omega)
    · obtain ⟨B, b1, bC⟩ := hcls
      have e84 : B.1 84 = A.1 84 := bC.2.1 84 (by omega)
      have hg := loop_ref (fun n c x B => fX11_fills_l20 x1 (fun v14 A15 => some (v14, A15)) n x (iN c) B) B (A.1 84) m (fFill x1 y) (fun v14 A15 => some (v14, A15)) (fun M => ∀ i, i < 128 → M i = A.1 84 i) ?_ ?_ ?_ (fun _ _ => rfl) ruF (by rw [ruF_eq]; omega)
      · rw [self84 e84] at hg
        refine ⟨(stt (fFill x1 y) (A.1 84) m).1, B, _, ?_, ?_, hI.marks bC⟩
        · have b1' : fX10_fills_l19 x1 (fun v8 A9 => some (v8, A9)) ruF 0 0 A = _ := b1
          simp only [fX10_fills, e10_isWithin, e10_isQuestion, e10_isYear, e10_isKind, e10_isSlip, e10_isRoom, e10_isChild, e10_isWay, e10_areHours, q1, q2, q3, Option.bind_some, ite10, b2_pos h1, b1']
        · have hg' : fX11_fills_l20 x1 (fun v14 A15 => some (v14, A15)) ruF 0 0 B = _ := hg
          have hI2 : fX11_is x1 1 B = some (b2 (0 ≤ x1 ∧ x1 ≤ A.1 84 1 - 1)) := by rw [e11_is1, e84]
          simp only [fX11_fills, hI2, Option.bind_some, ite10, b2_pos h1, hg']
      · intro n x M hM
        rw [fX11_fills_l20, ruld84_2, Option.bind_some, hM 2 (by omega), ec, if_pos ((iN_le (by omega) (by omega)).mpr (Nat.le_refl _))]
      · intro n c x M hc9 hM
        have hN0 : M 0 = iN y := by rw [hM 0 (by omega), ey]
        rw [fX11_fills_l20, ruld84_2, Option.bind_some, hM 2 (by omega), ec, if_neg (by rw [iN_le (by omega) (by omega)]; omega), f11_fillIn B M (by omega) hy hN0, iN_add1]
      · intro M c hc9 hM i hi
        unfold fFill
        split
        · rw [(sttF_keep (by omega) M 12 (by omega)).1 i hi]
          exact hM i hi
        · exact hM i hi
    · intro n x B M hR
      have e22 : B.1 2 2 = iN m := by rw [hR.2.1 2 (by omega), q2, ec]
      rw [fX10_fills_l19, e22, if_pos ((iN_le (by omega) (by omega)).mpr (Nat.le_refl _))]
    · intro n c x B M hc9 hR
      have e22 : B.1 2 2 = iN m := by rw [hR.2.1 2 (by omega), q2, ec]
      have ey0 : A.1 2 0 = iN y := q0.trans ey
      have eyB : B.1 2 0 = iN y := by rw [hR.2.1 2 (by omega), ey0]
      have hst : 6 * c + y < 144 := by omega
      have hsi := f10_sitsIn hR (c := c) (by omega) hy (hc c (by omega)).1 ey0 x1
      have hstep : fX10_fills_l19 x1 (fun v8 A9 => some (v8, A9)) (n + 1) x (iN c) B = ruB2 (if M (32 + 4 * c) = x1 ∧ M (128 + 28 * (6 * c + y)) = 1 then (ruB2 (fX10_fillBlanks (iN (6 * c + y)) B) fun v6 A7 => some (x + v6, A7)) else some (x, B)) fun v3 A4 => fX10_fills_l19 x1 (fun v8 A9 => some (v8, A9)) n v3 (iN (c + 1)) A4 := by
        rw [fX10_fills_l19, e22, if_neg (by rw [iN_le (by omega) (by omega)]; omega), hsi, Option.bind_some, b2_ne, f10_openSheet B eyB, Option.bind_some, iN_add1]
      show ∃ B', fX10_fills_l19 x1 (fun v8 A9 => some (v8, A9)) (n + 1) x (iN c) B = _ ∧ _
      rw [hstep]
      unfold fFill
      by_cases c1 : M (32 + 4 * c) = x1 ∧ M (128 + 28 * (6 * c + y)) = 1
      · obtain ⟨B', b1, bC⟩ := f10_fillBlanks hR hst
        refine ⟨B', ?_, ?_⟩
        · rw [if_pos c1, if_pos c1, b1, ruB2_some, ruB2_some]
        · rw [if_pos c1]
          exact bC
      · refine ⟨B, ?_, ?_⟩
        · rw [if_neg c1, if_neg c1, ruB2_some, Int32.add_zero]
        · rw [if_neg c1]
          exact hR
  · refine Op_find hI (-1000001) 0 (by decide) (by decide) ?_ ?_
    · simp only [fX10_fills, e10_isWithin, e10_isQuestion, e10_isYear, e10_isKind, e10_isSlip, e10_isRoom, e10_isChild, e10_isWay, e10_areHours, q1, q2, q3, Option.bind_some, b2_neg h1, ite00, ite10, if_true, if_false]
    · simp only [fX11_fills, e11_within, e11_isQuestion, e11_isYear, e11_isSlip, e11_is1f, e11_is2f, e11_is3f, e11_areHours, fndC_84, fndC_83, fndC_88, fndC_89, fndC_90, Option.bind_some, b2_neg h1, ite00, ite10, if_true, if_false]
