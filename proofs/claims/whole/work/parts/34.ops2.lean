/-! LEVEL 2: what children know -/
theorem f10_forget (A : ruA) {c q : Nat} (hc : c < 24) (hq : q < 12) (h1 : 0 ≤ iN c ∧ iN c ≤ A.1 2 2 - 1) : fX10_forget (iN c) (iN q) A = some (b2 (bt (A.1 7 c) q = true), ruset (ruset A 7 c (A.1 7 c &&& (((1 : Int32) <<< (iN q &&& 31)) ^^^ (-1 : Int32)))) 8 c (A.1 8 c &&& (((1 : Int32) <<< (iN q &&& 31)) ^^^ (-1 : Int32)))) := by
  have h2 : 0 ≤ iN q ∧ iN q ≤ 11 := ⟨iN_nonneg (by omega), (iN_le (b := 11) (by omega) (by decide)).mpr (by omega)⟩
  simp (disch := omega) only [fX10_forget, fX5_forgets, e10_isChild, e10_isQuestion, Option.bind_some, b2_pos h1, b2_pos h2, ite10, ruld_iN, rust_iN, e10_has, rubz_b2, ruB2_some, rs_1, if_false, Nat.reduceEqDiff]
  unfold b2
  split <;> rfl
theorem f11_forget (A : ruA) {c q : Nat} (hc : c < 24) (hq : q < 12) (h1 : 0 ≤ iN c ∧ iN c ≤ A.1 84 2 - 1) : fX11_forget (iN c) (iN q) A = some (b2 (bt (A.1 84 (34 + 4 * c)) q = true), ruset (ruset A 84 (34 + 4 * c) (A.1 84 (34 + 4 * c) &&& (((1 : Int32) <<< (iN q &&& 31)) ^^^ (-1 : Int32)))) 84 (35 + 4 * c) (A.1 84 (35 + 4 * c) &&& (((1 : Int32) <<< (iN q &&& 31)) ^^^ (-1 : Int32)))) := by
  have h2 : 0 ≤ iN q ∧ iN q ≤ 11 := ⟨iN_nonneg (by omega), (iN_le (b := 11) (by omega) (by decide)).mpr (by omega)⟩
  have a2 : 32 + 4 * c + 2 = 34 + 4 * c := by omega
  have a3 : 32 + 4 * c + 3 = 35 + 4 * c := by omega
  have a4 : ¬ (35 + 4 * c = 34 + 4 * c) := by omega
  simp (disch := omega) only [fX11_forget, e11_is2N, e11_isQuestion, Option.bind_some, rs_1, upd_at, if_true, if_neg a4, b2_pos h1, b2_pos h2, ite10, li32, li4, li2, li3, iN_mul, iN_add, a2, a3, ruld_iN, rust_iN, e11_has]
  unfold b2
  split <;> rfl
theorem ch_of {N : Nat → Int32} {x : Int32} {i : Nat} (hN : N i = iN (cn N i)) (hm : cn N i ≤ 1000) (h : 0 ≤ x ∧ x ≤ N i - 1) : ∃ c, c < cn N i ∧ x = iN c := by
  rw [hN] at h
  exact iN_of_pred h.1 (by omega) h.2
theorem lt_of {m : Nat} (hm : m < 2147483648) {x : Int32} (h : 0 ≤ x ∧ x ≤ iN m) : ∃ c, c < m + 1 ∧ x = iN c := by
  obtain ⟨c, h1, h2⟩ := iN_of h.1 hm h.2
  exact ⟨c, by omega, h2⟩
/-- a change of what a child knows -/
theorem CBc_set {g g2 : Nat → Nat → Int32} {N N2 : Nat → Int32} {c : Nat} (hc : CBc g 1 N) (hcc : c < cn N 2) (e4 : g2 5 = g 5) (e5 : g2 6 = g 6) (e6 : ∀ i, i ≠ c → g2 7 i = g 7 i) (e7 : ∀ i, i ≠ c → g2 8 i = g 8 i) (a6 : g2 7 c = N2 (34 + 4 * c)) (a7 : g2 8 c = N2 (35 + 4 * c)) (eN : ∀ i, i ≠ 34 + 4 * c ∧ i ≠ 35 + 4 * c → N2 i = N i) : CBc g2 1 N2 := by
  intro i hi
  have h9 := hc i hi
  rw [cn_congr (eN 2 (by omega))]
  by_cases e : i = c
  · subst e
    refine ⟨?_, ?_, a6, a7, by omega⟩
    · rw [eN _ (by omega), show g2 (1 + 4) = g (1 + 4) from e4]; exact h9.1
    · rw [eN _ (by omega), show g2 (1 + 5) = g (1 + 5) from e5]; exact h9.2.1
  · refine ⟨?_, ?_, ?_, ?_, ?_⟩
    · rw [eN _ (by omega), show g2 (1 + 4) = g (1 + 4) from e4]; exact h9.1
    · rw [eN _ (by omega), show g2 (1 + 5) = g (1 + 5) from e5]; exact h9.2.1
    · rw [eN _ (by omega), show g2 (1 + 6) i = g (1 + 6) i from e6 i e]; exact h9.2.2.1
    · rw [eN _ (by omega), show g2 (1 + 7) i = g (1 + 7) i from e7 i e]; exact h9.2.2.2.1
    · rw [eN _ (by omega), eN _ (by omega)]; exact h9.2.2.2.2
/-- what was known, what was taught, both anew -/
def knC (A : ruA) (c : Nat) (u v : Int32) : ruA := ruset (ruset A 7 c u) 8 c v
def knR (A : ruA) (c : Nat) (u v : Int32) : ruA := ruset (ruset A 84 (34 + 4 * c) u) 84 (35 + 4 * c) v
theorem Inv.know {W : ruWy} {A : ruA} (hI : Inv W A) {c : Nat} (hcc : c < cn (A.1 84) 2) (u v : Int32) : Inv W (knR (knC A c u v) c u v) := by
  obtain ⟨⟨hn, hq, hc, hs, hb, hr, hh, hf, hw⟩, hK, hMf, hMt, hMs⟩ := id hI
  obtain ⟨m0, m1, m2, m3, m4, m5⟩ := id hn
  have q0 : A.1 2 0 = A.1 84 0 := m0.1
  have q1 : A.1 2 1 = A.1 84 1 := m1.1
  have q2 : A.1 2 2 = A.1 84 2 := m2.1
  have q3 : A.1 14 0 = A.1 84 3 := m3.1
  have q4 : A.1 23 0 = A.1 84 4 := m4.1
  have q5 : A.1 29 0 = A.1 84 5 := m5.1
  have eK : ∀ k, k ≠ 7 ∧ k ≠ 8 ∧ k ≠ 84 → (knR (knC A c u v) c u v).1 k = A.1 k := by
    intro k hk
    unfold knR knC
    simp (disch := omega) only [rs_eq, rs_ne, upd_same, upd_ne, Nat.reduceAdd]
  have eN : ∀ i, i ≠ 34 + 4 * c ∧ i ≠ 35 + 4 * c → (knR (knC A c u v) c u v).1 84 i = A.1 84 i := by
    intro i hi
    unfold knR knC
    simp (disch := omega) only [rs_eq, rs_ne, upd_same, upd_ne, Nat.reduceAdd]
  refine hI.now ?_ ?_
  · refine ⟨fun k hk => eK k (by omega), ⟨rfl, rfl, rfl⟩, ⟨rfl, rfl, rfl⟩⟩
  · refine ⟨hn.congr ⟨rfl, rfl, rfl, rfl⟩ fun i h1 => eN _ (by omega), hq.congr ⟨rfl, rfl⟩ fun i h1 h2 => eN _ (by omega), CBc_set hc hcc rfl rfl (fun i hi => ?_) (fun i hi => ?_) ?_ ?_ eN, hs.congr rfl (eN _ (by omega)) fun i h1 => eN _ (by omega), hb.congr ⟨rfl, rfl⟩ fun i h1 j h2 => eN _ (by omega), hr.congr rfl fun i h1 j h2 => eN _ (by omega), hh.congr ⟨rfl, rfl, rfl, rfl⟩ (eN _ (by omega)) m4.2.2 fun i h1 h2 => eN _ (by omega), hf.congr ⟨rfl, rfl⟩ (eN _ (by omega)) m5.2.2 fun i h1 h2 => eN _ (by omega), hw.congr (fun k h1 h2 => eK _ (by omega)) (eN _ (by omega)) m3.2.2 fun i h1 h2 => eN _ (by omega)⟩
    all_goals (unfold knR knC; simp (disch := omega) only [rs_eq, rs_ne, upd_same, upd_ne, Nat.reduceAdd])
theorem f10_forget2 (A : ruA) {c q : Nat} (hc : c < 24) (hq : q < 12) (h1 : 0 ≤ iN c ∧ iN c ≤ A.1 2 2 - 1) : fX10_forget (iN c) (iN q) A = some (b2 (bt (A.1 7 c) q = true), knC A c (A.1 7 c &&& (((1 : Int32) <<< (iN q &&& 31)) ^^^ (-1 : Int32))) (A.1 8 c &&& (((1 : Int32) <<< (iN q &&& 31)) ^^^ (-1 : Int32)))) := f10_forget A hc hq h1
theorem op_forget {W : ruWy} {A : ruA} (hI : Inv W A) (x1 x2 : Int32) : Op2 W (fX10_forget x1 x2) (fX11_forget x1 x2) A := by
  obtain ⟨⟨hn, hq, hc, hs, hb, hr, hh, hf, hw⟩, hK, hMf, hMt, hMs⟩ := id hI
  obtain ⟨m0, m1, m2, m3, m4, m5⟩ := id hn
  have q0 : A.1 2 0 = A.1 84 0 := m0.1
  have q1 : A.1 2 1 = A.1 84 1 := m1.1
  have q2 : A.1 2 2 = A.1 84 2 := m2.1
  have q3 : A.1 14 0 = A.1 84 3 := m3.1
  have q4 : A.1 23 0 = A.1 84 4 := m4.1
  have q5 : A.1 29 0 = A.1 84 5 := m5.1
  by_cases h1 : 0 ≤ x1 ∧ x1 ≤ A.1 84 2 - 1
  · by_cases h2 : 0 ≤ x2 ∧ x2 ≤ 11
    · obtain ⟨q, hq1, rfl⟩ := lt_of (m := 11) (by decide) h2
      obtain ⟨c, hc1, rfl⟩ := ch_of m2.2.1 (by omega) h1
      have k7 : A.1 7 c = A.1 84 (34 + 4 * c) := (hc c (by omega)).2.2.1
      have k8 : A.1 8 c = A.1 84 (35 + 4 * c) := (hc c (by omega)).2.2.2.1
      have hf1 := f10_forget2 A (c := c) (q := q) (by omega) (by omega) (by rw [q2]; exact h1)
      rw [k7, k8] at hf1
      exact ⟨_, _, _, hf1, f11_forget (knC A c _ _) (by omega) (by omega) h1, hI.know hc1 _ _⟩
    · refine Op_find hI (-1000001) 0 (by decide) (by decide) ?_ ?_
      · simp only [fX10_forget, e10_isWithin, e10_isQuestion, e10_isYear, e10_isKind, e10_isSlip, e10_isRoom, e10_isChild, e10_isWay, e10_areHours, q1, q2, q3, Option.bind_some, b2_pos h1, b2_neg h2, ite00, ite10, if_true, if_false]
      · simp only [fX11_forget, e11_within, e11_isQuestion, e11_isYear, e11_isSlip, e11_is1f, e11_is2f, e11_is3f, e11_areHours, fndC_84, fndC_83, fndC_88, fndC_89, fndC_90, Option.bind_some, b2_pos h1, b2_neg h2, ite00, ite10, if_true, if_false]
  · refine Op_find hI (-1000001) 0 (by decide) (by decide) ?_ ?_
    · simp only [fX10_forget, e10_isWithin, e10_isQuestion, e10_isYear, e10_isKind, e10_isSlip, e10_isRoom, e10_isChild, e10_isWay, e10_areHours, q1, q2, q3, Option.bind_some, b2_neg h1, ite00, ite10, if_true, if_false]
    · simp only [fX11_forget, e11_within, e11_isQuestion, e11_isYear, e11_isSlip, e11_is1f, e11_is2f, e11_is3f, e11_areHours, fndC_84, fndC_83, fndC_88, fndC_89, fndC_90, Option.bind_some, b2_neg h1, ite00, ite10, if_true, if_false]
theorem f10_learn (A : ruA) {c q : Nat} (x3 : Int32) (hc : c < 24) (hq : q < 12) (h1 : 0 ≤ iN c ∧ iN c ≤ A.1 2 2 - 1) : fX10_learn (iN c) (iN q) x3 A = if x3 = 0 then some (b2 (¬ bt (A.1 7 c) q = true), ruset A 7 c (A.1 7 c ||| (1 <<< (iN q &&& 31)))) else some (b2 (¬ bt (A.1 7 c) q = true ∨ ¬ bt (A.1 8 c) q = true), ruset (ruset A 7 c (A.1 7 c ||| (1 <<< (iN q &&& 31)))) 8 c (A.1 8 c ||| (1 <<< (iN q &&& 31)))) := by
  have h2 : 0 ≤ iN q ∧ iN q ≤ 11 := ⟨iN_nonneg (by omega), (iN_le (b := 11) (by omega) (by decide)).mpr (by omega)⟩
  by_cases h3 : x3 = 0
  · simp (disch := omega) only [fX10_learn, fX5_learns, e10_isChild, e10_isQuestion, Option.bind_some, b2_pos h1, b2_pos h2, ite10, ruld_iN, rust_iN, h3, if_true, rs_1, upd_at, if_false, Nat.reduceEqDiff, or_bit_eq]
    by_cases h4 : bt (A.1 7 c) q = true
    · simp only [h4, if_true, ruB2_some, ite00, not_true, b2_neg not_false]
    · simp only [h4, if_false, ruB2_some, ite10, b2_pos]
      rfl
  · simp (disch := omega) only [fX10_learn, fX5_learns, e10_isChild, e10_isQuestion, Option.bind_some, b2_pos h1, b2_pos h2, ite10, ruld_iN, rust_iN, if_neg h3, if_true, rs_1, upd_at, if_false, Nat.reduceEqDiff, or_bit_eq]
    by_cases h4 : bt (A.1 7 c) q = true
    · by_cases h5 : bt (A.1 8 c) q = true
      · simp only [h4, h5, if_true, ruB2_some, ite00, not_true, or_self, b2_neg not_false]
      · simp only [h4, h5, if_true, if_false, ruB2_some, ite10]
        rfl
    · simp only [h4, if_false, ruB2_some, ite10]
      rfl
theorem ruset_self (A : ruA) (k j : Nat) : ruset A k j (A.1 k j) = A := by
  unfold ruset rusetA
  refine Prod.ext ?_ rfl
  funext i
  show (if i = k then upd (A.1 k) j (A.1 k j) else A.1 i) = A.1 i
  split
  · subst_vars
    funext l
    unfold upd
    split
    · subst_vars
      rfl
    · rfl
  · rfl
theorem or_zero (x : Int32) : x ||| 0 = x := by
  refine bt_ext fun k _ => ?_
  rw [bt_or, bt_zero, Bool.or_false]
theorem f11_learn (A : ruA) {c q : Nat} (x3 : Int32) (hc : c < 24) (hq : q < 12) (h1 : 0 ≤ iN c ∧ iN c ≤ A.1 84 2 - 1) : fX11_learn (iN c) (iN q) x3 A = if x3 = 0 then some (b2 (¬ bt (A.1 84 (34 + 4 * c)) q = true), knR A c (A.1 84 (34 + 4 * c) ||| (1 <<< (iN q &&& 31))) (A.1 84 (35 + 4 * c))) else some (b2 (¬ bt (A.1 84 (34 + 4 * c)) q = true ∨ ¬ bt (A.1 84 (35 + 4 * c)) q = true), knR A c (A.1 84 (34 + 4 * c) ||| (1 <<< (iN q &&& 31))) (A.1 84 (35 + 4 * c) ||| (1 <<< (iN q &&& 31)))) := by
  have h2 : 0 ≤ iN q ∧ iN q ≤ 11 := ⟨iN_nonneg (by omega), (iN_le (b := 11) (by omega) (by decide)).mpr (by omega)⟩
  have a2 : 32 + 4 * c + 2 = 34 + 4 * c := by omega
  have a3 : 32 + 4 * c + 3 = 35 + 4 * c := by omega
  have a4 : ¬ (35 + 4 * c = 34 + 4 * c) := by omega
  by_cases h3 : x3 = 0
  · simp (disch := omega) only [fX11_learn, knR, e11_is2N, e11_isQuestion, Option.bind_some, rs_1, upd_at, if_true, if_neg a4, b2_pos h1, b2_pos h2, ite10, li32, li4, li2, li3, iN_mul, iN_add, a2, a3, ruld_iN, rust_iN, e11_has, h3, or_zero]
    by_cases h4 : bt (A.1 84 (34 + 4 * c)) q = true
    · simp only [h4, b2_pos, ite10, Option.bind_some, ite00, if_true, not_true, b2_neg not_false]
    · simp only [h4, b2_neg, ite00, Option.bind_some, ite10]
      rfl
  · simp (disch := omega) only [fX11_learn, knR, e11_is2N, e11_isQuestion, Option.bind_some, rs_1, upd_at, if_true, if_neg a4, b2_pos h1, b2_pos h2, ite10, li32, li4, li2, li3, iN_mul, iN_add, a2, a3, ruld_iN, rust_iN, e11_has, if_neg h3]
    by_cases h4 : bt (A.1 84 (34 + 4 * c)) q = true
    · by_cases h5 : bt (A.1 84 (35 + 4 * c)) q = true
      · simp only [h4, h5, b2_pos, ite10, Option.bind_some, ite00, if_true, not_true, or_self, b2_neg not_false]
      · simp only [h4, h5, b2_pos, b2_neg, ite10, Option.bind_some, ite00]
        rfl
    · simp only [h4, b2_neg, ite00, Option.bind_some, ite10]
      rfl
theorem op_learn {W : ruWy} {A : ruA} (hI : Inv W A) (x1 x2 x3 : Int32) : Op2 W (fX10_learn x1 x2 x3) (fX11_learn x1 x2 x3) A := by
  obtain ⟨⟨hn, hq, hc, hs, hb, hr, hh, hf, hw⟩, hK, hMf, hMt, hMs⟩ := id hI
  obtain ⟨m0, m1, m2, m3, m4, m5⟩ := id hn
  have q0 : A.1 2 0 = A.1 84 0 := m0.1
  have q1 : A.1 2 1 = A.1 84 1 := m1.1
  have q2 : A.1 2 2 = A.1 84 2 := m2.1
  have q3 : A.1 14 0 = A.1 84 3 := m3.1
  have q4 : A.1 23 0 = A.1 84 4 := m4.1
  have q5 : A.1 29 0 = A.1 84 5 := m5.1
  by_cases h1 : 0 ≤ x1 ∧ x1 ≤ A.1 84 2 - 1
  · by_cases h2 : 0 ≤ x2 ∧ x2 ≤ 11
    · obtain ⟨q, hq1, rfl⟩ := lt_of (m := 11) (by decide) h2
      obtain ⟨c, hc1, rfl⟩ := ch_of m2.2.1 (by omega) h1
      have k7 : A.1 7 c = A.1 84 (34 + 4 * c) := (hc c (by omega)).2.2.1
      have k8 : A.1 8 c = A.1 84 (35 + 4 * c) := (hc c (by omega)).2.2.2.1
      have hf1 := f10_learn A (c := c) (q := q) x3 (by omega) (by omega) (by rw [q2]; exact h1)
      by_cases h3 : x3 = 0
      · rw [if_pos h3, k7] at hf1
        have hg1 := f11_learn (ruset A 7 c (A.1 84 (34 + 4 * c) ||| (1 <<< (iN q &&& 31)))) (c := c) (q := q) x3 (by omega) (by omega) h1
        rw [if_pos h3] at hg1
        refine ⟨_, _, _, hf1, hg1, ?_⟩
        have h8 := hI.know hc1 (A.1 84 (34 + 4 * c) ||| (1 <<< (iN q &&& 31))) (A.1 84 (35 + 4 * c))
        have e : knC A c (A.1 84 (34 + 4 * c) ||| (1 <<< (iN q &&& 31))) (A.1 84 (35 + 4 * c)) = ruset A 7 c (A.1 84 (34 + 4 * c) ||| (1 <<< (iN q &&& 31))) := by
          unfold knC
          rw [← k8]
          exact ruset_self (ruset A 7 c (A.1 84 (34 + 4 * c) ||| (1 <<< (iN q &&& 31)))) 8 c
        rw [e] at h8
        exact h8
      · rw [if_neg h3, k7, k8] at hf1
        have hg1 := f11_learn (knC A c (A.1 84 (34 + 4 * c) ||| (1 <<< (iN q &&& 31))) (A.1 84 (35 + 4 * c) ||| (1 <<< (iN q &&& 31)))) (c := c) (q := q) x3 (by omega) (by omega) h1
        rw [if_neg h3] at hg1
        exact ⟨_, _, _, hf1, hg1, hI.know hc1 _ _⟩
    · refine Op_find hI (-1000001) 0 (by decide) (by decide) ?_ ?_
      · simp only [fX10_learn, e10_isWithin, e10_isQuestion, e10_isYear, e10_isKind, e10_isSlip, e10_isRoom, e10_isChild, e10_isWay, e10_areHours, q1, q2, q3, Option.bind_some, b2_pos h1, b2_neg h2, ite00, ite10, if_true, if_false]
      · simp only [fX11_learn, e11_within, e11_isQuestion, e11_isYear, e11_isSlip, e11_is1f, e11_is2f, e11_is3f, e11_areHours, fndC_84, fndC_83, fndC_88, fndC_89, fndC_90, Option.bind_some, b2_pos h1, b2_neg h2, ite00, ite10, if_true, if_false]
  · refine Op_find hI (-1000001) 0 (by decide) (by decide) ?_ ?_
    · simp only [fX10_learn, e10_isWithin, e10_isQuestion, e10_isYear, e10_isKind, e10_isSlip, e10_isRoom, e10_isChild, e10_isWay, e10_areHours, q1, q2, q3, Option.bind_some, b2_neg h1, ite00, ite10, if_true, if_false]
    · simp only [fX11_learn, e11_within, e11_isQuestion, e11_isYear, e11_isSlip, e11_is1f, e11_is2f, e11_is3f, e11_areHours, fndC_84, fndC_83, fndC_88, fndC_89, fndC_90, Option.bind_some, b2_neg h1, ite00, ite10, if_true, if_false]
