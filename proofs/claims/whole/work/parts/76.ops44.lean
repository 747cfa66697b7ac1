/-! LEVEL 2: every measure, with what it leaves; string, measure -/
def lkC (A B : ruA) : Prop := ∀ k, k ≠ 65 ∧ k ≠ 66 ∧ k ≠ 68 → B.1 k = A.1 k
def lkR (A B : ruA) : Prop := (∀ k, k ≠ 83 → B.1 k = A.1 k) ∧ ∀ j, j ≠ 10 ∧ j ≠ 11 ∧ j ≠ 12 → B.1 83 j = A.1 83 j
theorem lkC_refl (A : ruA) : lkC A A := fun _ _ => rfl
theorem lkR_refl (A : ruA) : lkR A A := ⟨fun _ _ => rfl, fun _ _ => rfl⟩
theorem lkC_trans {A B C : ruA} (h : lkC A B) (h2 : lkC B C) : lkC A C := fun k hk => (h2 k hk).trans (h k hk)
theorem lkR_trans {A B C : ruA} (h : lkR A B) (h2 : lkR B C) : lkR A C := ⟨fun k hk => (h2.1 k hk).trans (h.1 k hk), fun j hj => (h2.2 j hj).trans (h.2 j hj)⟩
theorem roC_lk {A B : ruA} {N : Nat → Int32} {m : Nat} (h : roC A N m) (hB : lkC A B) : roC B N m := by
  refine ⟨shC_keep h.1 fun k hk => hB k (by omega), fun c hc => ?_, ?_, h.2.2.2⟩
  · rw [hB 5 (by omega)]
    exact h.2.1 c hc
  · rw [hB 2 (by omega)]
    exact h.2.2.1
def vStr (N : Nat → Int32) (x : Int32) (y m t : Nat) : fnd := rfL N x y m t (0, -1, 0) 12
def vM (N : Nat → Int32) (k : Nat) (x : Int32) (y m : Nat) : Int32 := if k = 2 then (vStr N x y m 3).1 else nMeas N k x y m
theorem c_find {A : ruA} {N : Nat → Int32} {m : Nat} (h : roC A N m) {y t : Nat} (hy : y < 6) (ht : 1 ≤ t) (ht2 : t ≤ 100) (x : Int32) : ∃ B, fX8_find x (iN y) (iN t) A = some B ∧ lkC A B ∧ B.1 65 0 = (vStr N x y m t).1 ∧ B.1 65 1 = (vStr N x y m t).2.1 ∧ B.1 65 2 = (vStr N x y m t).2.2 := by
  obtain ⟨B, hg, hB⟩ := f8_find h hy x t
  have hs := str_same (N := N) (x := x) (y := y) h.2.2.2 ht ht2 (A.1 65 3)
  refine ⟨_, hB, fun k hk => ?_, ?_, ?_, ?_⟩
  · rw [stC_k _ _ hk.1, rs_ne _ _ _ hk.1]
    exact hg.1 k hk
  · rw [stC_j _ _ (by decide), rs_eq, upd_same]
    unfold vStr
    rw [hs]
  · rw [stC_1]
    unfold vStr
    rw [hs]
  · rw [stC_2]
    unfold vStr
    rw [hs]
theorem r_find (A : ruA) {m : Nat} (hm : m ≤ 24) (e2 : A.1 84 2 = iN m) {y t : Nat} (hy : y < 6) (x : Int32) : ∃ B, fX11_findString x (iN y) (iN t) A = some B ∧ lkR A B ∧ B.1 83 10 = (vStr (A.1 84) x y m t).1 ∧ B.1 83 11 = (vStr (A.1 84) x y m t).2.1 ∧ B.1 83 12 = (vStr (A.1 84) x y m t).2.2 := by
  unfold vStr
  generalize hg : rfL (A.1 84) x y m t (0, -1, 0) 12 = g
  have h := f11_findString A hm e2 (t := t) hy x
  rw [hg] at h
  refine ⟨_, h, ⟨fun k hk => stR_k _ _ hk, fun j hj => ?_⟩, stR_10 _ _, stR_11 _ _, stR_12 _ _⟩
  unfold stR
  rw [rsA_same, upd_ne _ _ hj.2.2, upd_ne _ _ hj.2.1, upd_ne _ _ hj.1]
theorem c_of {A : ruA} {N : Nat → Int32} {m : Nat} (h : roC A N m) {y k : Nat} (hy : y < 6) (hk : k < 7) (x : Int32) : ∃ B, fX3_of (iN k) x (iN y) A = some (vM N k x y m, B) ∧ lkC A B := by
  by_cases e : k = 2
  · subst e
    obtain ⟨B, b1, b2, b3, -⟩ := c_find h hy (t := 3) (by decide) (by decide) x
    refine ⟨B, ?_, b2⟩
    have b1 : fX8_find x (iN y) 3 A = some B := b1
    unfold fX3_of
    rw [if_pos (show iN 2 = 2 from rfl), b1, Option.bind_some, b3]
    unfold vM
    rw [if_pos rfl]
  · refine ⟨A, ?_, lkC_refl A⟩
    rw [f10_of h hy hk e]
    unfold vM
    rw [if_neg e]
theorem r_of {A : ruA} {m : Nat} (hm : m ≤ 24) (e2 : A.1 84 2 = iN m) (hkd : ∀ s, s < 144 → ∀ q, q < 12 → 0 ≤ A.1 84 (141 + 28 * s + q) ∧ A.1 84 (141 + 28 * s + q) ≤ 7) {y k : Nat} (hy : y < 6) (hk : k < 7) (x : Int32) : ∃ B, fX11_measured x (iN y) (iN k) A = some (vM (A.1 84) k x y m, B) ∧ lkR A B := by
  by_cases e : k = 2
  · subst e
    obtain ⟨B, b1, b2, b3, -⟩ := r_find A hm e2 (t := 3) hy x
    refine ⟨B, ?_, b2⟩
    have b1 : fX11_findString x (iN y) 3 A = some B := b1
    unfold fX11_measured
    rw [if_pos (show iN 2 = 2 from rfl), b1, Option.bind_some, b3]
    unfold vM
    rw [if_pos rfl]
  · refine ⟨A, ?_, lkR_refl A⟩
    rw [f11_measured hm e2 hkd hy hk e]
    unfold vM
    rw [if_neg e]
theorem Inv.looks {W : ruWy} {A B C : ruA} (hI : Inv W A) (h1 : lkC A B) (h2 : lkR B C) : Inv W C := by
  have e : ∀ k, k ≠ 65 ∧ k ≠ 66 ∧ k ≠ 68 ∧ k ≠ 83 → C.1 k = A.1 k := fun k hk => (h2.1 k hk.2.2.2).trans (h1 k ⟨hk.1, hk.2.1, hk.2.2.1⟩)
  have e8 : ∀ j, j ≠ 10 ∧ j ≠ 11 ∧ j ≠ 12 → C.1 83 j = A.1 83 j := fun j hj => (h2.2 j hj).trans (by rw [h1 83 (by decide)])
  exact hI.same ⟨fun k hk => e k (by omega), ⟨by rw [e 0 (by decide)], by rw [e 0 (by decide)], by rw [e 0 (by decide)]⟩, ⟨e8 _ (by decide), e8 _ (by decide), e8 _ (by decide)⟩⟩ ⟨fun k hk => e k (by omega), e 84 (by decide)⟩
theorem op_string {W : ruWy} {A : ruA} (hI : Inv W A) (x1 x2 x3 x4 : Int32) : Op2 W (fX10_string x1 x2 x3 x4) (fX11_string x1 x2 x3 x4) A := by
  obtain ⟨⟨hn, hq, hc, hs, hb, hr, hh, hf, hw⟩, hK, hMf, hMt, hMs⟩ := id hI
  obtain ⟨m0, m1, m2, m3, m4, m5⟩ := id hn
  have q0 : A.1 2 0 = A.1 84 0 := m0.1
  have q1 : A.1 2 1 = A.1 84 1 := m1.1
  have q2 : A.1 2 2 = A.1 84 2 := m2.1
  have q3 : A.1 14 0 = A.1 84 3 := m3.1
  have q4 : A.1 23 0 = A.1 84 4 := m4.1
  have q5 : A.1 29 0 = A.1 84 5 := m5.1
  have sh : shC A (A.1 84) := ⟨hq, hs, hb, hr⟩
  have ro : roC A (A.1 84) (cn (A.1 84) 2) := ⟨sh, fun c h => (hc c h).1, q2.trans m2.2.1, m2.2.2⟩
  by_cases h1 : 0 ≤ x1 ∧ x1 ≤ A.1 84 1 - 1
  · by_cases h2 : 0 ≤ x2 ∧ x2 ≤ 5
    · by_cases h3 : 2 ≤ x3 ∧ x3 ≤ 9
      · by_cases h4 : 0 ≤ x4 ∧ x4 ≤ 2
        · obtain ⟨y, hy, rfl⟩ := yr_of h2
          obtain ⟨t, ht, rfl⟩ := iN_of (x := x3) (m := 9) (Int32.le_trans (by decide) h3.1) (by decide) h3.2
          have ht1 : 2 ≤ t := (iN_le (a := 2) (by decide) (by omega)).mp h3.1
          obtain ⟨B, b1, bC, b3, b4, b5⟩ := c_find ro hy (t := t) (by omega) (by omega) x1
          have e84 : B.1 84 = A.1 84 := bC 84 (by decide)
          obtain ⟨C, c1, cR, c3, c4, c5⟩ := r_find B m2.2.2 (by rw [e84]; exact m2.2.1) (t := t) hy x1
          rw [e84] at c3 c4 c5
          have hI2 : fX11_is x1 1 B = some (b2 (0 ≤ x1 ∧ x1 ≤ A.1 84 1 - 1)) := by rw [e11_is1, e84]
          generalize vStr (A.1 84) x1 y (cn (A.1 84) 2) t = g at *
          refine ⟨if x4 = 0 then g.1 else if x4 = 1 then g.2.1 else g.2.2, B, C, ?_, ?_, hI.looks bC cR⟩
          · simp only [fX10_string, e10_isWithin, e10_isQuestion, e10_isYear, e10_isKind, e10_isSlip, e10_isRoom, e10_isChild, e10_isWay, e10_areHours, q1, q2, q3, Option.bind_some, ite10, b2_pos h1, b2_pos h2, b2_pos h3, b2_pos h4, b1, b3, b4, b5]
            split
            · rfl
            · split <;> rfl
          · simp only [fX11_string, hI2, e11_within, e11_isYear, Option.bind_some, ite10, b2_pos h1, b2_pos h2, b2_pos h3, b2_pos h4, c1, c3, c4, c5]
            split
            · rfl
            · split <;> rfl
        · refine Op_find hI (-1000001) 0 (by decide) (by decide) ?_ ?_
          · simp only [fX10_string, e10_isWithin, e10_isQuestion, e10_isYear, e10_isKind, e10_isSlip, e10_isRoom, e10_isChild, e10_isWay, e10_areHours, q1, q2, q3, Option.bind_some, b2_pos h1, b2_pos h2, b2_pos h3, b2_neg h4, ite00, ite10, if_true, if_false]
          · simp only [fX11_string, e11_within, e11_isQuestion, e11_isYear, e11_isSlip, e11_is1f, e11_is2f, e11_is3f, e11_areHours, fndC_84, fndC_83, fndC_88, fndC_89, fndC_90, Option.bind_some, b2_pos h1, b2_pos h2, b2_pos h3, b2_neg h4, ite00, ite10, if_true, if_false]
      · refine Op_find hI (-1000001) 0 (by decide) (by decide) ?_ ?_
        · simp only [fX10_string, e10_isWithin, e10_isQuestion, e10_isYear, e10_isKind, e10_isSlip, e10_isRoom, e10_isChild, e10_isWay, e10_areHours, q1, q2, q3, Option.bind_some, b2_pos h1, b2_pos h2, b2_neg h3, ite00, ite10, if_true, if_false]
        · simp only [fX11_string, e11_within, e11_isQuestion, e11_isYear, e11_isSlip, e11_is1f, e11_is2f, e11_is3f, e11_areHours, fndC_84, fndC_83, fndC_88, fndC_89, fndC_90, Option.bind_some, b2_pos h1, b2_pos h2, b2_neg h3, ite00, ite10, if_true, if_false]
    · refine Op_find hI (-1000001) 0 (by decide) (by decide) ?_ ?_
      · simp only [fX10_string, e10_isWithin, e10_isQuestion, e10_isYear, e10_isKind, e10_isSlip, e10_isRoom, e10_isChild, e10_isWay, e10_areHours, q1, q2, q3, Option.bind_some, b2_pos h1, b2_neg h2, ite00, ite10, if_true, if_false]
      · simp only [fX11_string, e11_within, e11_isQuestion, e11_isYear, e11_isSlip, e11_is1f, e11_is2f, e11_is3f, e11_areHours, fndC_84, fndC_83, fndC_88, fndC_89, fndC_90, Option.bind_some, b2_pos h1, b2_neg h2, ite00, ite10, if_true, if_false]
  · refine Op_find hI (-1000001) 0 (by decide) (by decide) ?_ ?_
    · simp only [fX10_string, e10_isWithin, e10_isQuestion, e10_isYear, e10_isKind, e10_isSlip, e10_isRoom, e10_isChild, e10_isWay, e10_areHours, q1, q2, q3, Option.bind_some, b2_neg h1, ite00, ite10, if_true, if_false]
    · simp only [fX11_string, e11_within, e11_isQuestion, e11_isYear, e11_isSlip, e11_is1f, e11_is2f, e11_is3f, e11_areHours, fndC_84, fndC_83, fndC_88, fndC_89, fndC_90, Option.bind_some, b2_neg h1, ite00, ite10, if_true, if_false]
theorem has_both {A : ruA} {m : Nat} (ro : roC A (A.1 84) m) (e2 : A.1 84 2 = iN m) {y : Nat} (hy : y < 6) (x : Int32) : (fX3_hasSheets x (iN y) A = some 0 ∧ ∀ B : ruA, B.1 84 = A.1 84 → fX11_sheetsOf x (iN y) B = some 0) ∨ (fX3_hasSheets x (iN y) A = some 1 ∧ ∃ n, 1 ≤ n ∧ n ≤ 24 ∧ ∀ B : ruA, B.1 84 = A.1 84 → fX11_sheetsOf x (iN y) B = some (iN n)) := by
  have hm := ro.2.2.2
  have key : ∀ B : ruA, B.1 84 = A.1 84 → fX11_sheetsOf x (iN y) B = some (iN (cN (fun c => inR (A.1 84) x y c) m)) := by
    intro B hB
    have h := f11_sheetsOf B hm (by rw [hB]; exact e2) hy x
    rw [hB, cN_sum] at h
    exact h
  have hle := cN_le (p := fun c => inR (A.1 84) x y c) m
  rcases f10_hasSheets ro hy x with ⟨h1, h2⟩ | ⟨h1, h2⟩
  · refine Or.inl ⟨h2, fun B hB => ?_⟩
    rw [key B hB, (cN_zero m).mpr h1]
    rfl
  · refine Or.inr ⟨h2, _, ?_, ?_, key⟩
    · by_cases c : cN (fun c => inR (A.1 84) x y c) m = 0
      · obtain ⟨c1, c2, c3⟩ := h1
        exact absurd c3 ((cN_zero m).mp c c1 c2)
      · omega
    · omega
theorem nz_iN {n : Nat} (h : 1 ≤ n) (h2 : n ≤ 24) : ¬ iN n = 0 := by
  intro e
  have := (iN_inj (a := n) (b := 0) (by omega) (by omega)).mp e
  omega
theorem op_measure {W : ruWy} {A : ruA} (hI : Inv W A) (x1 x2 x3 : Int32) : Op2 W (fX10_measure x1 x2 x3) (fX11_measure x1 x2 x3) A := by
  obtain ⟨⟨hn, hq, hc, hs, hb, hr, hh, hf, hw⟩, hK, hMf, hMt, hMs⟩ := id hI
  obtain ⟨m0, m1, m2, m3, m4, m5⟩ := id hn
  have q0 : A.1 2 0 = A.1 84 0 := m0.1
  have q1 : A.1 2 1 = A.1 84 1 := m1.1
  have q2 : A.1 2 2 = A.1 84 2 := m2.1
  have q3 : A.1 14 0 = A.1 84 3 := m3.1
  have q4 : A.1 23 0 = A.1 84 4 := m4.1
  have q5 : A.1 29 0 = A.1 84 5 := m5.1
  have sh : shC A (A.1 84) := ⟨hq, hs, hb, hr⟩
  have ro : roC A (A.1 84) (cn (A.1 84) 2) := ⟨sh, fun c h => (hc c h).1, q2.trans m2.2.1, m2.2.2⟩
  by_cases h1 : 0 ≤ x1 ∧ x1 ≤ A.1 84 1 - 1
  · by_cases h2 : 0 ≤ x2 ∧ x2 ≤ 5
    · by_cases h3 : 0 ≤ x3 ∧ x3 ≤ 6
      · obtain ⟨y, hy, rfl⟩ := yr_of h2
        obtain ⟨k, hk, rfl⟩ := lt_of (m := 6) (by decide) h3
        rcases has_both ro m2.2.1 hy x1 with ⟨g1, g2⟩ | ⟨g1, n, hn1, hn2, g2⟩
        · have g2 := g2 (fndC A 3) (fndC_84 A 3)
          refine Op_find hI (-1000004) 3 (by decide) (by decide) ?_ ?_
          · simp only [fX10_measure, e10_isWithin, e10_isQuestion, e10_isYear, e10_isKind, e10_isSlip, e10_isRoom, e10_isChild, e10_isWay, e10_areHours, q1, q2, q3, Option.bind_some, ite00, ite10, if_true, if_false, b2_pos h1, b2_pos h2, b2_pos h3, g1]
          · simp only [fX11_measure, e11_within, e11_isQuestion, e11_isYear, e11_isSlip, e11_is1f, e11_is2f, e11_is3f, e11_areHours, fndC_84, fndC_83, fndC_88, fndC_89, fndC_90, Option.bind_some, ite00, ite10, if_true, if_false, b2_pos h1, b2_pos h2, b2_pos h3, g2]
        · have ro9 : roC (ruset A 0 12 (A.1 0 12 + 1)) (A.1 84) (cn (A.1 84) 2) := by
            refine ⟨⟨hq.congr ⟨rs_ne _ _ _ (by decide), rs_ne _ _ _ (by decide)⟩ (fun _ _ _ => rfl), hs.congr (rs_ne _ _ _ (by decide)) rfl (fun _ _ => rfl), hb.congr ⟨rs_ne _ _ _ (by decide), rs_ne _ _ _ (by decide)⟩ (fun _ _ _ _ => rfl), hr.congr (rs_ne _ _ _ (by decide)) (fun _ _ _ _ => rfl)⟩, fun c hc9 => ?_, ?_, m2.2.2⟩
            · rw [rs_ne _ _ _ (by decide)]
              exact (hc c hc9).1
            · rw [rs_ne _ _ _ (by decide)]
              exact q2.trans m2.2.1
          obtain ⟨B, b1, bC⟩ := c_of ro9 hy hk x1
          have e84 : B.1 84 = A.1 84 := by rw [bC 84 (by decide), rs_ne _ _ _ (by decide)]
          have g2 := g2 B e84
          have e84' : (ruset B 83 3 (B.1 83 3 + 1)).1 84 = A.1 84 := by rw [rs_ne _ _ _ (by decide), e84]
          have hr2 := r_of (A := ruset B 83 3 (B.1 83 3 + 1)) m2.2.2 (by rw [e84']; exact m2.2.1) (by rw [e84']; exact fun s hs9 q hq9 => (hb s hs9 q hq9).2.2.2) hy hk x1
          obtain ⟨C, c1, cR⟩ := hr2
          rw [e84'] at c1
          have hI2 : fX11_is x1 1 B = some (b2 (0 ≤ x1 ∧ x1 ≤ A.1 84 1 - 1)) := by rw [e11_is1, e84]
          refine ⟨_, B, C, (show _ = some (vM (A.1 84) k x1 y (cn (A.1 84) 2), B) from ?_), ?_, ?_⟩
          · simp only [fX10_measure, e10_isWithin, e10_isQuestion, e10_isYear, e10_isKind, e10_isSlip, e10_isRoom, e10_isChild, e10_isWay, e10_areHours, q1, q2, q3, Option.bind_some, ite10, b2_pos h1, b2_pos h2, b2_pos h3, g1, b1, ruB2_some]
          · simp only [fX11_measure, hI2, e11_within, e11_isYear, Option.bind_some, ite10, b2_pos h1, b2_pos h2, b2_pos h3, g2, if_neg (nz_iN hn1 hn2), c1, ruB2_some]
          · have eK : ∀ k, k ≠ 0 ∧ k ≠ 65 ∧ k ≠ 66 ∧ k ≠ 68 ∧ k ≠ 83 → C.1 k = A.1 k := by
              intro k hk9
              rw [cR.1 k hk9.2.2.2.2, rs_ne _ _ _ hk9.2.2.2.2, bC k ⟨hk9.2.1, hk9.2.2.1, hk9.2.2.2.1⟩, rs_ne _ _ _ hk9.1]
            have e0 : ∀ j, C.1 0 j = if j = 12 then A.1 0 12 + 1 else A.1 0 j := by
              intro j
              rw [cR.1 0 (by decide), rs_ne _ _ _ (by decide), bC 0 (by decide), rs_eq, upd_at]
            have e8 : ∀ j, j ≠ 10 ∧ j ≠ 11 ∧ j ≠ 12 → C.1 83 j = if j = 3 then A.1 83 3 + 1 else A.1 83 j := by
              intro j hj
              rw [cR.2 j hj, rs_eq, upd_at, bC 83 (by decide), rs_ne _ _ _ (by decide)]
            refine ⟨?_, ?_, ⟨fun j hj => ?_, ?_, ?_⟩, ?_, ?_⟩
            · rw [eK 84 (by decide)]
              exact hI.1.congr fun k a b => eK k (by omega)
            · rw [eK 85 (by decide)]
              exact hK.congr fun k a b => eK k (by omega)
            · rw [eK 82 (by decide), eK 86 (by decide)]
              exact hMf.1 j hj
            · rw [e0, e8 3 (by decide), if_pos rfl, if_pos rfl, hMf.2.1]
            · rw [e0, e8 2 (by decide), if_neg (by decide), if_neg (by decide)]
              exact hMf.2.2
            · refine hMt.congr ⟨eK 72 (by decide), eK 87 (by decide)⟩ ?_ ?_
              · rw [e0, if_neg (by decide)]
              · rw [e8 6 (by decide), if_neg (by decide)]
            · exact hMs.congr fun k hk9 => eK k (by omega)
      · refine Op_find hI (-1000001) 0 (by decide) (by decide) ?_ ?_
        · simp only [fX10_measure, e10_isWithin, e10_isQuestion, e10_isYear, e10_isKind, e10_isSlip, e10_isRoom, e10_isChild, e10_isWay, e10_areHours, q1, q2, q3, Option.bind_some, b2_pos h1, b2_pos h2, b2_neg h3, ite00, ite10, if_true, if_false]
        · simp only [fX11_measure, e11_within, e11_isQuestion, e11_isYear, e11_isSlip, e11_is1f, e11_is2f, e11_is3f, e11_areHours, fndC_84, fndC_83, fndC_88, fndC_89, fndC_90, Option.bind_some, b2_pos h1, b2_pos h2, b2_neg h3, ite00, ite10, if_true, if_false]
    · refine Op_find hI (-1000001) 0 (by decide) (by decide) ?_ ?_
      · simp only [fX10_measure, e10_isWithin, e10_isQuestion, e10_isYear, e10_isKind, e10_isSlip, e10_isRoom, e10_isChild, e10_isWay, e10_areHours, q1, q2, q3, Option.bind_some, b2_pos h1, b2_neg h2, ite00, ite10, if_true, if_false]
      · simp only [fX11_measure, e11_within, e11_isQuestion, e11_isYear, e11_isSlip, e11_is1f, e11_is2f, e11_is3f, e11_areHours, fndC_84, fndC_83, fndC_88, fndC_89, fndC_90, Option.bind_some, b2_pos h1, b2_neg h2, ite00, ite10, if_true, if_false]
  · refine Op_find hI (-1000001) 0 (by decide) (by decide) ?_ ?_
    · simp only [fX10_measure, e10_isWithin, e10_isQuestion, e10_isYear, e10_isKind, e10_isSlip, e10_isRoom, e10_isChild, e10_isWay, e10_areHours, q1, q2, q3, Option.bind_some, b2_neg h1, ite00, ite10, if_true, if_false]
    · simp only [fX11_measure, e11_within, e11_isQuestion, e11_isYear, e11_isSlip, e11_is1f, e11_is2f, e11_is3f, e11_areHours, fndC_84, fndC_83, fndC_88, fndC_89, fndC_90, Option.bind_some, b2_neg h1, ite00, ite10, if_true, if_false]
