/-! LEVEL 2: rows that are filled; status, holds, forms -/
def fillF (f : Nat → Int32) (off : Nat) (v : Nat → Int32) (m : Nat) : Nat → Int32 := fun j => if off ≤ j ∧ j < off + m then v (j - off) else f j
theorem fillF_in {f : Nat → Int32} {off : Nat} {v : Nat → Int32} {m i : Nat} (h : i < m) : fillF f off v m (off + i) = v i := by
  unfold fillF
  rw [if_pos (by omega), Nat.add_sub_cancel_left]
theorem fillF_in0 {f : Nat → Int32} {v : Nat → Int32} {m i : Nat} (h : i < m) : fillF f 0 v m i = v i := by
  unfold fillF
  rw [if_pos (by omega), Nat.sub_zero]
theorem fillF_out {f : Nat → Int32} {off : Nat} {v : Nat → Int32} {m j : Nat} (h : j < off ∨ off + m ≤ j) : fillF f off v m j = f j := by
  unfold fillF
  rw [if_neg (by omega)]
theorem rusetA_self (A : ruA) (k : Nat) : rusetA A k (A.1 k) = A := by
  unfold rusetA
  refine Prod.ext ?_ rfl
  funext i
  show (if i = k then A.1 k else A.1 i) = A.1 i
  split
  · subst_vars; rfl
  · rfl
theorem rusetA_two (A : ruA) (k : Nat) (f g : Nat → Int32) : rusetA (rusetA A k f) k g = rusetA A k g := by
  unfold rusetA
  refine Prod.ext ?_ rfl
  funext i
  show (if i = k then g else if i = k then f else A.1 i) = if i = k then g else A.1 i
  split <;> rfl
theorem ruset_eq (A : ruA) (k j : Nat) (v : Int32) : ruset A k j v = rusetA A k (upd (A.1 k) j v) := rfl
theorem fill_zero (A : ruA) (k off : Nat) (v : Nat → Int32) : rusetA A k (fillF (A.1 k) off v 0) = A := by
  have e : fillF (A.1 k) off v 0 = A.1 k := by
    funext j
    exact fillF_out (by omega)
  rw [e, rusetA_self]
theorem fill_step (A : ruA) (k off : Nat) (f v : Nat → Int32) (q : Nat) : ruset (rusetA A k (fillF f off v q)) k (off + q) (v q) = rusetA A k (fillF f off v (q + 1)) := by
  rw [ruset_eq, rusetA_same, rusetA_two]
  congr 1
  funext j
  unfold upd fillF
  by_cases h : j = off + q
  · subst h
    rw [if_pos rfl, if_pos (by omega), Nat.add_sub_cancel_left]
  · rw [if_neg h]
    by_cases h2 : off ≤ j ∧ j < off + q
    · rw [if_pos h2, if_pos (by omega)]
    · rw [if_neg h2, if_neg (by omega)]
/-- a loop that fills a row -/
theorem loop_fill {β : Type} (L : Nat → Nat → ruA → Option β) (A : ruA) (k off hi : Nat) (v : Nat → Int32) (K : ruA → Option β)
    (hexit : ∀ n B, L (n + 1) hi B = K B) (hstep : ∀ n q, q < hi → L (n + 1) q (rusetA A k (fillF (A.1 k) off v q)) = L n (q + 1) (ruset (rusetA A k (fillF (A.1 k) off v q)) k (off + q) (v q))) :
    ∀ n, hi < n → L n 0 A = K (rusetA A k (fillF (A.1 k) off v hi)) := by
  intro n hn
  have h := loop_inv L hi (fun q => rusetA A k (fillF (A.1 k) off v q)) (K (rusetA A k (fillF (A.1 k) off v hi))) (fun n => hexit n _) (fun n q hq => by rw [hstep n q hq, fill_step]) n 0 (Nat.zero_le _) (by omega)
  rwa [fill_zero] at h
theorem rsA_same (A : ruA) (k : Nat) (f : Nat → Int32) : (rusetA A k f).1 k = f := if_pos rfl
/-- status -/
theorem f10_status_l32 (A : ruA) (k : Int32 → Option (Int32 × ruA)) : fX10_status_l32 A k ruF 0 0 = k (sumI (A.1 82) 7) := by
  refine loop_sum (fun n q s => fX10_status_l32 A k n s (iN q)) 7 (A.1 82) k ?_ ?_ ruF (by decide)
  · intro n s
    rw [fX10_status_l32]
    rfl
  · intro n q s hq
    simp (disch := omega) only [fX10_status_l32, li7, iN_le, Option.bind_some, ruld_iN, iN_add1]
    rw [if_neg (by omega)]
theorem f11_status_l21 (A : ruA) (x : Int32) (k : Int32 → Option (Int32 × ruA)) : fX11_status_l21 x A k ruF 0 0 = k (sumI (fun j => if x < 0 then A.1 86 j else if x = iN j then A.1 86 j else 0) 7) := by
  refine loop_sum (fun n q s => fX11_status_l21 x A k n s (iN q)) 7 (fun j => if x < 0 then A.1 86 j else if x = iN j then A.1 86 j else 0) k ?_ ?_ ruF (by decide)
  · intro n s
    rw [fX11_status_l21]
    rfl
  · intro n q s hq
    simp (disch := omega) only [fX11_status_l21, li7, iN_le, Option.bind_some, ruld_iN, iN_add1]
    rw [if_neg (by omega)]
    by_cases h1 : x < 0
    · simp only [if_pos h1, Option.bind_some]
    · by_cases h2 : x = iN q
      · simp only [if_neg h1, if_pos h2, Option.bind_some]
      · simp only [if_neg h1, if_neg h2, Option.bind_some]
theorem sumI_zero : ∀ n, sumI (fun _ => 0) n = 0
  | 0 => rfl
  | n + 1 => by
    show sumI _ n + 0 = 0
    rw [sumI_zero n]
    rfl
theorem sumI_one {g : Nat → Int32} {j : Nat} : ∀ n, j < n → (∀ i, i < n → i ≠ j → g i = 0) → sumI g n = g j
  | 0, h, _ => by omega
  | n + 1, h, h0 => by
    show sumI g n + g n = g j
    by_cases e : j = n
    · subst e
      have : sumI g j = sumI (fun _ => 0) j := sumI_congr j fun i hi => h0 i (by omega) (by omega)
      rw [this, sumI_zero, Int32.zero_add]
    · rw [sumI_one n (by omega) (fun i hi => h0 i (by omega)), h0 n (by omega) (Ne.symm e), Int32.add_zero]
theorem op_status {W : ruWy} {A : ruA} (hI : Inv W A) (x1 : Int32) : Op2 W (fX10_status x1) (fX11_status x1) A := by
  obtain ⟨⟨hn, hq, hc, hs, hb, hr, hh, hf, hw⟩, hK, hMf, hMt, hMs⟩ := id hI
  obtain ⟨m0, m1, m2, m3, m4, m5⟩ := id hn
  have q0 : A.1 2 0 = A.1 84 0 := m0.1
  have q1 : A.1 2 1 = A.1 84 1 := m1.1
  have q2 : A.1 2 2 = A.1 84 2 := m2.1
  have q3 : A.1 14 0 = A.1 84 3 := m3.1
  have q4 : A.1 23 0 = A.1 84 4 := m4.1
  have q5 : A.1 29 0 = A.1 84 5 := m5.1
  by_cases h1 : -1 ≤ x1 ∧ x1 ≤ 6
  · by_cases h2 : x1 < 0
    · refine ⟨sumI (A.1 86) 7, A, A, ?_, ?_, hI⟩
      · simp only [fX10_status, e10_isWithin, Option.bind_some, b2_pos h1, ite10, if_pos h2, f10_status_l32]
        rw [sumI_congr 7 hMf.1]
      · simp only [fX11_status, e11_within, Option.bind_some, b2_pos h1, ite10, f11_status_l21, if_pos h2]
    · obtain ⟨j, hj, rfl⟩ := lt_of (m := 6) (by decide) ⟨Int32.not_lt.mp h2, h1.2⟩
      refine ⟨A.1 86 j, A, A, ?_, ?_, hI⟩
      · simp (disch := omega) only [fX10_status, e10_isWithin, Option.bind_some, b2_pos h1, ite10, if_neg h2, ruld_iN]
        rw [hMf.1 j (by omega)]
      · simp only [fX11_status, e11_within, Option.bind_some, b2_pos h1, ite10, f11_status_l21, if_neg h2]
        rw [sumI_one (j := j) 7 (by omega) (fun i hi hij => if_neg (fun e => hij ((iN_inj (by omega) (by omega)).mp e).symm)), if_pos rfl]
  · refine Op_find hI (-1000001) 0 (by decide) (by decide) ?_ ?_
    · simp only [fX10_status, e10_isWithin, e10_isQuestion, e10_isYear, e10_isKind, e10_isSlip, e10_isRoom, e10_isChild, e10_isWay, e10_areHours, q1, q2, q3, Option.bind_some, b2_neg h1, ite00, ite10, if_true, if_false]
    · simp only [fX11_status, e11_within, e11_isQuestion, e11_isYear, e11_isSlip, e11_is1f, e11_is2f, e11_is3f, e11_areHours, fndC_84, fndC_83, fndC_88, fndC_89, fndC_90, Option.bind_some, b2_neg h1, ite00, ite10, if_true, if_false]
theorem f10_given (A : ruA) {h : Nat} (hh : h < 30) (e : A.1 23 0 = iN h) (x1 x2 x3 x4 : Int32) : fX2_given x1 x2 x3 x4 A = some (iN (h + 1), ruset (ruset (ruset (ruset (ruset A 24 h x1) 25 h x2) 26 h x3) 27 h x4) 23 0 (iN (h + 1))) := by
  simp (disch := omega) only [fX2_given, e, rs_1, if_false, Nat.reduceEqDiff, Option.bind_some, rust_iN, iN_add1, upd_at, if_true]
theorem f11_holds_in (A : ruA) {h : Nat} (hh : h < 30) (e : A.1 84 4 = iN h) (x1 x2 x3 x4 : Int32) (h1 : 0 ≤ x1 ∧ x1 ≤ 9) (h2 : 0 ≤ x2 ∧ x2 ≤ A.1 84 1 - 1) (h3 : 0 ≤ x3 ∧ x3 < x4 ∧ x4 ≤ 99) : fX11_holds x1 x2 x3 x4 A = some (iN (h + 1), ruset (ruset (ruset (ruset (ruset A 84 (4784 + 4 * h) x1) 84 (4785 + 4 * h) x2) 84 (4786 + 4 * h) x3) 84 (4787 + 4 * h) x4) 84 4 (iN (h + 1))) := by
  have a1 : 4784 + 4 * h + 1 = 4785 + 4 * h := by omega
  have a2 : 4784 + 4 * h + 2 = 4786 + 4 * h := by omega
  have a3 : 4784 + 4 * h + 3 = 4787 + 4 * h := by omega
  have b1 : ¬ (4 = 4784 + 4 * h) := by omega
  have b2' : ¬ (4 = 4785 + 4 * h) := by omega
  have b3 : ¬ (4 = 4786 + 4 * h) := by omega
  have b4 : ¬ (4 = 4787 + 4 * h) := by omega
  have e1 : (1 : Int32) = iN 1 := rfl
  simp (disch := omega) only [fX11_holds, e11_within, e11_is1, e11_areHours, b2_pos h1, b2_pos h2, b2_pos h3, ite10, Option.bind_some, li4, ruld_iN, e, li30, iN_inj, if_neg (show ¬ h = 30 by omega), li4784, iN_mul, iN_add, rust_iN, iN_add1, li2, li3, a1, a2, a3, rs_1, upd_at, if_true, if_neg b1, if_neg b2', if_neg b3, if_neg b4]
theorem op_holds {W : ruWy} {A : ruA} (hI : Inv W A) (x1 x2 x3 x4 : Int32) : Op2 W (fX10_holds x1 x2 x3 x4) (fX11_holds x1 x2 x3 x4) A := by
  obtain ⟨⟨hn, hq, hc, hs, hb, hr, hh, hf, hw⟩, hK, hMf, hMt, hMs⟩ := id hI
  obtain ⟨m0, m1, m2, m3, m4, m5⟩ := id hn
  have q0 : A.1 2 0 = A.1 84 0 := m0.1
  have q1 : A.1 2 1 = A.1 84 1 := m1.1
  have q2 : A.1 2 2 = A.1 84 2 := m2.1
  have q3 : A.1 14 0 = A.1 84 3 := m3.1
  have q4 : A.1 23 0 = A.1 84 4 := m4.1
  have q5 : A.1 29 0 = A.1 84 5 := m5.1
  by_cases h1 : 0 ≤ x1 ∧ x1 ≤ 9
  · by_cases h2 : 0 ≤ x2 ∧ x2 ≤ A.1 84 1 - 1
    · by_cases h3 : 0 ≤ x3 ∧ x3 < x4 ∧ x4 ≤ 99
      · obtain ⟨-, n2, n3⟩ := id m4
        generalize hr9 : cn (A.1 84) 4 = h at *
        by_cases h4 : h < 30
        · have hf1 : fX10_holds x1 x2 x3 x4 A = some (iN (h + 1), ruset (ruset (ruset (ruset (ruset A 24 h x1) 25 h x2) 26 h x3) 27 h x4) 23 0 (iN (h + 1))) := by
            have hlt : A.1 84 4 < 30 := by
              rw [n2]
              exact (iN_lt (b := 30) (by omega) (by decide)).mpr h4
            simp only [fX10_holds, e10_isWithin, e10_isQuestion, e10_isYear, e10_isKind, e10_isSlip, e10_isRoom, e10_isChild, e10_isWay, e10_areHours, q1, q2, q3, q4, Option.bind_some, b2_pos h1, b2_pos h2, b2_pos h3, ite10, if_pos hlt, f10_given A h4 (q4.trans n2), ruB2_some]
          have hg1 := f11_holds_in (ruset (ruset (ruset (ruset (ruset A 24 h x1) 25 h x2) 26 h x3) 27 h x4) 23 0 (iN (h + 1))) h4 n2 x1 x2 x3 x4 h1 h2 h3
          refine ⟨_, _, _, hf1, hg1, ?_⟩
          clear hf1 hg1
          generalize hA2 : ruset (ruset (ruset (ruset (ruset (ruset (ruset (ruset (ruset (ruset A 24 h x1) 25 h x2) 26 h x3) 27 h x4) 23 0 (iN (h + 1))) 84 (4784 + 4 * h) x1) 84 (4785 + 4 * h) x2) 84 (4786 + 4 * h) x3) 84 (4787 + 4 * h) x4) 84 4 (iN (h + 1)) = A2
          have eK : ∀ k, k ≠ 23 ∧ k ≠ 24 ∧ k ≠ 25 ∧ k ≠ 26 ∧ k ≠ 27 ∧ k ≠ 84 → A2.1 k = A.1 k := by
            intro k hk
            rw [← hA2]
            simp (disch := omega) only [rs_eq, rs_ne, upd_same, upd_ne, Nat.reduceAdd]
          have eN : ∀ i, i ≠ 4 ∧ i ≠ 4784 + 4 * h ∧ i ≠ 4785 + 4 * h ∧ i ≠ 4786 + 4 * h ∧ i ≠ 4787 + 4 * h → A2.1 84 i = A.1 84 i := by
            intro i hi
            rw [← hA2]
            simp (disch := omega) only [rs_eq, rs_ne, upd_same, upd_ne, Nat.reduceAdd]
          have v0 : A2.1 84 4 = iN (h + 1) := by rw [← hA2]; simp (disch := omega) only [rs_eq, rs_ne, upd_same, upd_ne, Nat.reduceAdd]
          have v1 : A2.1 84 (4784 + 4 * h) = x1 := by rw [← hA2]; simp (disch := omega) only [rs_eq, rs_ne, upd_same, upd_ne, Nat.reduceAdd]
          have v2 : A2.1 84 (4785 + 4 * h) = x2 := by rw [← hA2]; simp (disch := omega) only [rs_eq, rs_ne, upd_same, upd_ne, Nat.reduceAdd]
          have v3 : A2.1 84 (4786 + 4 * h) = x3 := by rw [← hA2]; simp (disch := omega) only [rs_eq, rs_ne, upd_same, upd_ne, Nat.reduceAdd]
          have v4 : A2.1 84 (4787 + 4 * h) = x4 := by rw [← hA2]; simp (disch := omega) only [rs_eq, rs_ne, upd_same, upd_ne, Nat.reduceAdd]
          have u0 : A2.1 23 0 = iN (h + 1) := by rw [← hA2]; rfl
          have u1 : ∀ i, A2.1 24 i = if i = h then x1 else A.1 24 i := by intro i; rw [← hA2]; rfl
          have u2 : ∀ i, A2.1 25 i = if i = h then x2 else A.1 25 i := by intro i; rw [← hA2]; rfl
          have u3 : ∀ i, A2.1 26 i = if i = h then x3 else A.1 26 i := by intro i; rw [← hA2]; rfl
          have u4 : ∀ i, A2.1 27 i = if i = h then x4 else A.1 27 i := by intro i; rw [← hA2]; rfl
          have z0 : ∀ j, A2.1 0 j = A.1 0 j := fun j => by rw [eK 0 (by omega)]
          have z8 : ∀ j, A2.1 83 j = A.1 83 j := fun j => by rw [eK 83 (by omega)]
          have e9 : cn (A2.1 84) 4 = h + 1 := cn_iN v0 (by omega)
          clear hA2
          refine hI.now ⟨fun k hk => eK k (by omega), ⟨z0 _, z0 _, z0 _⟩, ⟨z8 _, z8 _, z8 _⟩⟩ ?_
          refine ⟨⟨?_, ?_, ?_, ?_, ⟨u0.trans v0.symm, by rw [e9]; exact v0, by rw [e9]; omega⟩, ?_⟩, hq.congr ⟨eK _ (by omega), eK _ (by omega)⟩ fun i h1 h2 => eN _ (by omega), hc.congr ⟨eK _ (by omega), eK _ (by omega), eK _ (by omega), eK _ (by omega)⟩ (eN _ (by omega)) fun i h1 h2 => eN _ (by omega), hs.congr (eK _ (by omega)) (eN _ (by omega)) fun i h1 => eN _ (by omega), hb.congr ⟨eK _ (by omega), eK _ (by omega)⟩ fun i h1 j h2 => eN _ (by omega), hr.congr (eK _ (by omega)) fun i h1 j h2 => eN _ (by omega), ?_, hf.congr ⟨eK _ (by omega), eK _ (by omega)⟩ (eN _ (by omega)) m5.2.2 fun i h1 h2 => eN _ (by omega), hw.congr (fun k h1 h2 => eK _ (by omega)) (eN _ (by omega)) m3.2.2 fun i h1 h2 => eN _ (by omega)⟩
          · rw [eK _ (by omega), eN _ (by omega), cn_congr (eN 0 (by omega))]; exact m0
          · rw [eK _ (by omega), eN _ (by omega), cn_congr (eN 1 (by omega))]; exact m1
          · rw [eK _ (by omega), eN _ (by omega), cn_congr (eN 2 (by omega))]; exact m2
          · rw [eK _ (by omega), eN _ (by omega), cn_congr (eN 3 (by omega))]; exact m3
          · rw [eK _ (by omega), eN _ (by omega), cn_congr (eN 5 (by omega))]; exact m5
          · intro i hi
            rw [e9] at hi
            by_cases e : i = h
            · subst e
              rw [v1, v2, v3, v4, show A2.1 (1 + 23) i = x1 from (u1 i).trans (if_pos rfl), show A2.1 (1 + 24) i = x2 from (u2 i).trans (if_pos rfl), show A2.1 (1 + 25) i = x3 from (u3 i).trans (if_pos rfl), show A2.1 (1 + 26) i = x4 from (u4 i).trans (if_pos rfl)]
              exact ⟨rfl, rfl, rfl, rfl, h1⟩
            · have h9 := hh i (by omega)
              rw [eN _ (by omega), eN _ (by omega), eN _ (by omega), eN _ (by omega), show A2.1 (1 + 23) i = A.1 24 i from (u1 i).trans (if_neg e), show A2.1 (1 + 24) i = A.1 25 i from (u2 i).trans (if_neg e), show A2.1 (1 + 25) i = A.1 26 i from (u3 i).trans (if_neg e), show A2.1 (1 + 26) i = A.1 27 i from (u4 i).trans (if_neg e)]
              exact h9
        · have h6 : h = 30 := by omega
          subst h6
          refine Op_find hI (-1000002) 1 (by decide) (by decide) ?_ ?_
          · simp only [fX10_holds, e10_isWithin, e10_isQuestion, e10_isYear, e10_isKind, e10_isSlip, e10_isRoom, e10_isChild, e10_isWay, e10_areHours, q1, q2, q3, Option.bind_some, b2_pos h1, b2_pos h2, b2_pos h3, ite00, ite10, if_true, if_false, q4, n2, if_neg (show ¬ iN 30 < 30 by decide)]
          · simp only [fX11_holds, e11_within, e11_isQuestion, e11_isYear, e11_isSlip, e11_is1f, e11_is2f, e11_is3f, e11_areHours, fndC_84, fndC_83, fndC_88, fndC_89, fndC_90, Option.bind_some, b2_pos h1, b2_pos h2, b2_pos h3, ite00, ite10, if_true, if_false, show ruld (A.1 84) 4920 4 = some (A.1 84 4) from ruld_iN (i := 4) (by decide) (by decide), n2, if_pos (show iN 30 = 30 from rfl)]
      · refine Op_find hI (-1000001) 0 (by decide) (by decide) ?_ ?_
        · simp only [fX10_holds, e10_isWithin, e10_isQuestion, e10_isYear, e10_isKind, e10_isSlip, e10_isRoom, e10_isChild, e10_isWay, e10_areHours, q1, q2, q3, Option.bind_some, b2_pos h1, b2_pos h2, b2_neg h3, ite00, ite10, if_true, if_false]
        · simp only [fX11_holds, e11_within, e11_isQuestion, e11_isYear, e11_isSlip, e11_is1f, e11_is2f, e11_is3f, e11_areHours, fndC_84, fndC_83, fndC_88, fndC_89, fndC_90, Option.bind_some, b2_pos h1, b2_pos h2, b2_neg h3, ite00, ite10, if_true, if_false]
    · refine Op_find hI (-1000001) 0 (by decide) (by decide) ?_ ?_
      · simp only [fX10_holds, e10_isWithin, e10_isQuestion, e10_isYear, e10_isKind, e10_isSlip, e10_isRoom, e10_isChild, e10_isWay, e10_areHours, q1, q2, q3, Option.bind_some, b2_pos h1, b2_neg h2, ite00, ite10, if_true, if_false]
      · simp only [fX11_holds, e11_within, e11_isQuestion, e11_isYear, e11_isSlip, e11_is1f, e11_is2f, e11_is3f, e11_areHours, fndC_84, fndC_83, fndC_88, fndC_89, fndC_90, Option.bind_some, b2_pos h1, b2_neg h2, ite00, ite10, if_true, if_false]
  · refine Op_find hI (-1000001) 0 (by decide) (by decide) ?_ ?_
    · simp only [fX10_holds, e10_isWithin, e10_isQuestion, e10_isYear, e10_isKind, e10_isSlip, e10_isRoom, e10_isChild, e10_isWay, e10_areHours, q1, q2, q3, Option.bind_some, b2_neg h1, ite00, ite10, if_true, if_false]
    · simp only [fX11_holds, e11_within, e11_isQuestion, e11_isYear, e11_isSlip, e11_is1f, e11_is2f, e11_is3f, e11_areHours, fndC_84, fndC_83, fndC_88, fndC_89, fndC_90, Option.bind_some, b2_neg h1, ite00, ite10, if_true, if_false]
