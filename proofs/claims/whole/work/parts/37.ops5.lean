/-! LEVEL 2: forms, the tape, slips -/
theorem f10_under (x : Int32) : fX1_withThoseUnder x = some (cloK x) := by
  unfold fX1_withThoseUnder
  have h := loop_inv (fun n q s => fX1_withThoseUnder_l4 x (fun v4 => some v4) n s (iN q)) 8 (fun q => cloK.sumO q (fun k => if x.toBitVec.getLsbD k = true then ruunder.getD k 0 else 0)) (some (cloK x)) ?_ ?_ ruF 0 (by decide) (by decide)
  · exact h
  · intro n
    simp only [fX1_withThoseUnder_l4]
    rfl
  · intro n q hq
    simp (disch := omega) only [fX1_withThoseUnder_l4, li8, iN_le, e10_has, Option.bind_some, ruld_iN, iN_add1, b2_ne]
    rw [if_neg (by omega)]
    by_cases hb : bt x q = true
    · have hb2 : x.toBitVec.getLsbD q = true := hb
      simp only [hb, if_true, Option.bind_some, cloK.sumO, hb2]
    · have hb2 : ¬ x.toBitVec.getLsbD q = true := hb
      simp only [if_neg hb, Option.bind_some, cloK.sumO, if_neg hb2, or_zero]
theorem f10_made (A : ruA) {f : Nat} (hf : f < 8) (e : A.1 29 0 = iN f) (x1 x2 : Int32) : fX1_made x1 x2 A = some (iN f, ruset (ruset (ruset A 30 f x1) 31 f (cloK x2)) 29 0 (iN (f + 1))) := by
  simp (disch := omega) only [fX1_made, e, rs_ne, rs_eq, Option.bind_some, rust_iN, f10_under, iN_add1]
theorem f11_form_in (A : ruA) {f : Nat} (hf : f < 8) (e : A.1 84 5 = iN f) (x1 x2 : Int32) (h1 : 0 ≤ x1 ∧ x1 ≤ 99) (h2 : 0 ≤ x2 ∧ x2 ≤ 255) : fX11_form x1 x2 A = some (iN f, ruset (ruset (ruset A 84 (4904 + 2 * f) x1) 84 (4905 + 2 * f) x2) 84 5 (iN (f + 1))) := by
  have a1 : 4904 + 2 * f + 1 = 4905 + 2 * f := by omega
  have e1 : (1 : Int32) = iN 1 := rfl
  simp (disch := omega) only [fX11_form, e11_within, b2_pos h1, b2_pos h2, ite10, Option.bind_some, li5, ruld_iN, e, li8, iN_inj, if_neg (show ¬ f = 8 by omega), li4904, li2, iN_mul, iN_add, rust_iN, iN_add1, a1, rs_eq, upd_ne]
theorem op_form {W : ruWy} {A : ruA} (hI : Inv W A) (x1 x2 : Int32) : Op2 W (fX10_form x1 x2) (fX11_form x1 x2) A := by
  obtain ⟨⟨hn, hq, hc, hs, hb, hr, hh, hf, hw⟩, hK, hMf, hMt, hMs⟩ := id hI
  obtain ⟨m0, m1, m2, m3, m4, m5⟩ := id hn
  have q0 : A.1 2 0 = A.1 84 0 := m0.1
  have q1 : A.1 2 1 = A.1 84 1 := m1.1
  have q2 : A.1 2 2 = A.1 84 2 := m2.1
  have q3 : A.1 14 0 = A.1 84 3 := m3.1
  have q4 : A.1 23 0 = A.1 84 4 := m4.1
  have q5 : A.1 29 0 = A.1 84 5 := m5.1
  by_cases h1 : 0 ≤ x1 ∧ x1 ≤ 99
  · by_cases h2 : 0 ≤ x2 ∧ x2 ≤ 255
    · obtain ⟨-, n2, n3⟩ := id m5
      generalize hr9 : cn (A.1 84) 5 = f at *
      by_cases h4 : f < 8
      · have hf1 : fX10_form x1 x2 A = some (iN f, ruset (ruset (ruset A 30 f x1) 31 f (cloK x2)) 29 0 (iN (f + 1))) := by
          have hlt : A.1 84 5 < 8 := by
            rw [n2]
            exact (iN_lt (b := 8) (by omega) (by decide)).mpr h4
          simp only [fX10_form, e10_isWithin, e10_isQuestion, e10_isYear, e10_isKind, e10_isSlip, e10_isRoom, e10_isChild, e10_isWay, e10_areHours, q1, q2, q3, q5, Option.bind_some, b2_pos h1, b2_pos h2, ite10, if_pos hlt, f10_made A h4 (q5.trans n2), ruB2_some]
        have hg1 := f11_form_in (ruset (ruset (ruset A 30 f x1) 31 f (cloK x2)) 29 0 (iN (f + 1))) h4 n2 x1 x2 h1 h2
        refine ⟨_, _, _, hf1, hg1, ?_⟩
        clear hf1 hg1
        generalize hA2 : ruset (ruset (ruset (ruset (ruset (ruset A 30 f x1) 31 f (cloK x2)) 29 0 (iN (f + 1))) 84 (4904 + 2 * f) x1) 84 (4905 + 2 * f) x2) 84 5 (iN (f + 1)) = A2
        have eK : ∀ k, k ≠ 29 ∧ k ≠ 30 ∧ k ≠ 31 ∧ k ≠ 84 → A2.1 k = A.1 k := by
          intro k hk
          rw [← hA2]
          simp (disch := omega) only [rs_eq, rs_ne, upd_same, upd_ne, Nat.reduceAdd]
        have eN : ∀ i, i ≠ 5 ∧ i ≠ 4904 + 2 * f ∧ i ≠ 4905 + 2 * f → A2.1 84 i = A.1 84 i := by
          intro i hi
          rw [← hA2]
          simp (disch := omega) only [rs_eq, rs_ne, upd_same, upd_ne, Nat.reduceAdd]
        have v0 : A2.1 84 5 = iN (f + 1) := by
          rw [← hA2]
          simp (disch := omega) only [rs_eq, rs_ne, upd_same, upd_ne, Nat.reduceAdd]
        have v1 : A2.1 84 (4904 + 2 * f) = x1 := by
          rw [← hA2]
          simp (disch := omega) only [rs_eq, rs_ne, upd_same, upd_ne, Nat.reduceAdd]
        have v2 : A2.1 84 (4905 + 2 * f) = x2 := by
          rw [← hA2]
          simp (disch := omega) only [rs_eq, rs_ne, upd_same, upd_ne, Nat.reduceAdd]
        have u0 : A2.1 29 0 = iN (f + 1) := by
          rw [← hA2]
          simp (disch := omega) only [rs_eq, rs_ne, upd_same, upd_ne, Nat.reduceAdd]
        have u1 : ∀ i, A2.1 30 i = if i = f then x1 else A.1 30 i := by
          intro i
          rw [← hA2]
          rfl
        have u2 : ∀ i, A2.1 31 i = if i = f then cloK x2 else A.1 31 i := by
          intro i
          rw [← hA2]
          rfl
        have e9 : cn (A2.1 84) 5 = f + 1 := by
          rw [← hA2]
          exact cn_iN (by rw [hA2]; exact v0) (by omega)
        have z0 : ∀ j, A2.1 0 j = A.1 0 j := fun j => by rw [eK 0 (by omega)]
        have z8 : ∀ j, A2.1 83 j = A.1 83 j := fun j => by rw [eK 83 (by omega)]
        clear hA2
        refine hI.now ⟨fun k hk => eK k (by omega), ⟨z0 _, z0 _, z0 _⟩, ⟨z8 _, z8 _, z8 _⟩⟩ ?_
        refine ⟨⟨by rw [eK _ (by omega), eN _ (by omega), cn_congr (eN 0 (by omega))]; exact m0, by rw [eK _ (by omega), eN _ (by omega), cn_congr (eN 1 (by omega))]; exact m1, by rw [eK _ (by omega), eN _ (by omega), cn_congr (eN 2 (by omega))]; exact m2, by rw [eK _ (by omega), eN _ (by omega), cn_congr (eN 3 (by omega))]; exact m3, by rw [eK _ (by omega), eN _ (by omega), cn_congr (eN 4 (by omega))]; exact m4, u0.trans v0.symm, by rw [e9]; exact v0, by rw [e9]; omega⟩, hq.congr ⟨eK _ (by omega), eK _ (by omega)⟩ fun i h1 h2 => eN _ (by omega), hc.congr ⟨eK _ (by omega), eK _ (by omega), eK _ (by omega), eK _ (by omega)⟩ (eN _ (by omega)) fun i h1 h2 => eN _ (by omega), hs.congr (eK _ (by omega)) (eN _ (by omega)) fun i h1 => eN _ (by omega), hb.congr ⟨eK _ (by omega), eK _ (by omega)⟩ fun i h1 j h2 => eN _ (by omega), hr.congr (eK _ (by omega)) fun i h1 j h2 => eN _ (by omega), hh.congr ⟨eK _ (by omega), eK _ (by omega), eK _ (by omega), eK _ (by omega)⟩ (eN _ (by omega)) m4.2.2 fun i h1 h2 => eN _ (by omega), ?_, hw.congr (fun k h1 h2 => eK _ (by omega)) (eN _ (by omega)) m3.2.2 fun i h1 h2 => eN _ (by omega)⟩
        intro i hi
        rw [e9] at hi
        by_cases e : i = f
        · subst e
          rw [v1, v2, show A2.1 (1 + 29) i = x1 from (u1 i).trans (if_pos rfl), show A2.1 (1 + 30) i = cloK x2 from (u2 i).trans (if_pos rfl)]
          exact ⟨rfl, rfl, h2⟩
        · have h9 := hf i (by omega)
          rw [eN _ (by omega), eN _ (by omega), show A2.1 (1 + 29) i = A.1 30 i from (u1 i).trans (if_neg e), show A2.1 (1 + 30) i = A.1 31 i from (u2 i).trans (if_neg e)]
          exact h9
      · have h6 : f = 8 := by omega
        subst h6
        refine Op_find hI (-1000002) 1 (by decide) (by decide) ?_ ?_
        · simp only [fX10_form, e10_isWithin, e10_isQuestion, e10_isYear, e10_isKind, e10_isSlip, e10_isRoom, e10_isChild, e10_isWay, e10_areHours, q1, q2, q3, Option.bind_some, b2_pos h1, b2_pos h2, ite00, ite10, if_true, if_false, q5, n2, if_neg (show ¬ iN 8 < 8 by decide)]
        · simp only [fX11_form, e11_within, e11_isQuestion, e11_isYear, e11_isSlip, e11_is1f, e11_is2f, e11_is3f, e11_areHours, fndC_84, fndC_83, fndC_88, fndC_89, fndC_90, Option.bind_some, b2_pos h1, b2_pos h2, ite00, ite10, if_true, if_false, show ruld (A.1 84) 4920 5 = some (A.1 84 5) from ruld_iN (i := 5) (by decide) (by decide), n2, if_pos (show iN 8 = 8 from rfl)]
    · refine Op_find hI (-1000001) 0 (by decide) (by decide) ?_ ?_
      · simp only [fX10_form, e10_isWithin, e10_isQuestion, e10_isYear, e10_isKind, e10_isSlip, e10_isRoom, e10_isChild, e10_isWay, e10_areHours, q1, q2, q3, Option.bind_some, b2_pos h1, b2_neg h2, ite00, ite10, if_true, if_false]
      · simp only [fX11_form, e11_within, e11_isQuestion, e11_isYear, e11_isSlip, e11_is1f, e11_is2f, e11_is3f, e11_areHours, fndC_84, fndC_83, fndC_88, fndC_89, fndC_90, Option.bind_some, b2_pos h1, b2_neg h2, ite00, ite10, if_true, if_false]
  · refine Op_find hI (-1000001) 0 (by decide) (by decide) ?_ ?_
    · simp only [fX10_form, e10_isWithin, e10_isQuestion, e10_isYear, e10_isKind, e10_isSlip, e10_isRoom, e10_isChild, e10_isWay, e10_areHours, q1, q2, q3, Option.bind_some, b2_neg h1, ite00, ite10, if_true, if_false]
    · simp only [fX11_form, e11_within, e11_isQuestion, e11_isYear, e11_isSlip, e11_is1f, e11_is2f, e11_is3f, e11_areHours, fndC_84, fndC_83, fndC_88, fndC_89, fndC_90, Option.bind_some, b2_neg h1, ite00, ite10, if_true, if_false]
theorem iN_m1 (m : Nat) : iN m + (-1) = iN m - 1 := (Int32.sub_eq_add_neg _ _).symm
theorem iN_succ_sub (m : Nat) : iN (m + 1) - 1 = iN m := by
  have := iN_sub (a := m + 1) (b := 1) (by omega)
  rwa [Nat.add_sub_cancel] at this
theorem iN_0m1 : iN 0 - 1 = -1 := by decide
theorem and255 (x : Int32) : ∃ m, m ≤ 255 ∧ x &&& 255 = iN m := by
  refine ⟨(x &&& 255).toBitVec.toNat, ?_, ?_⟩
  · rw [Int32.toBitVec_and, BitVec.toNat_and]
    exact Nat.and_le_right
  · unfold iN
    rw [Int32.ofNat_bitVecToNat]
    rfl
theorem byte_eq (x : Int32) {s : Nat} (hs : s ≤ 24) : (x >>> (iN s &&& 31)) &&& 255 = (ruushr x (iN s)) &&& 255 := by
  refine bt_ext fun k hk => ?_
  rw [bt_and, bt_and]
  have h255 : ∀ k, k < 32 → bt 255 k = decide (k < 8) := by decide
  rw [h255 k hk]
  by_cases h8 : k < 8
  · have e : bt (x >>> (iN s &&& 31)) k = bt (ruushr x (iN s)) k := by
      unfold bt
      rw [shr_bv (by omega), ushr_bv (by omega), BitVec.getLsbD_sshiftRight, BitVec.getLsbD_ushiftRight]
      simp [hk, show s + k < 32 by omega]
    rw [e]
  · simp [h8]
/-- the class's tape -/
theorem f10_feed_l {β : Type} (x : Int32) (k : ruA → Option β) : ∀ (m n : Nat) (A : ruA) (f : Nat), m < n → m ≤ 4 → A.1 0 9 = iN f → f + m ≤ 100 → ∃ B, fX10_feed_l38 x k n (iN m - 1) A = k B ∧ B.1 0 9 = iN (f + m) ∧ (∀ i, i < m → B.1 72 (f + i) = (ruushr x (iN (8 * (m - 1 - i)))) &&& 255) ∧ (∀ i, i < f → B.1 72 i = A.1 72 i) ∧ (∀ j, j ≠ 0 ∧ j ≠ 72 → B.1 j = A.1 j) ∧ (∀ j, j ≠ 9 → B.1 0 j = A.1 0 j) := by
  intro m
  induction m with
  | zero =>
    intro n A f hn _ h1 h2
    obtain ⟨n, rfl⟩ : ∃ q, n = q + 1 := ⟨n - 1, by omega⟩
    refine ⟨A, ?_, h1, fun i hi => by omega, fun i _ => rfl, fun j _ => rfl, fun j _ => rfl⟩
    rw [fX10_feed_l38, iN_0m1, if_pos (by decide)]
  | succ m ih =>
    intro n A f hn hm h1 h2
    obtain ⟨n, rfl⟩ : ∃ q, n = q + 1 := ⟨n - 1, by omega⟩
    have e1 : fX10_feed_l38 x k (n + 1) (iN (m + 1) - 1) A = fX10_feed_l38 x k n (iN m - 1) (ruset (ruset A 72 f ((ruushr x (iN (8 * m))) &&& 255)) 0 9 (iN (f + 1))) := by
      rw [iN_succ_sub, fX10_feed_l38, if_neg (iN_lt_zero (by omega)), h1]
      simp (disch := omega) only [rust_iN, Option.bind_some, rs_ne, h1, iN_add1, iN_m1, li8, iN_mul]
    rw [e1]
    obtain ⟨B, b1, b2, b3, b4, b5, b6⟩ := ih n (ruset (ruset A 72 f ((ruushr x (iN (8 * m))) &&& 255)) 0 9 (iN (f + 1))) (f + 1) (by omega) (by omega) (by simp (disch := omega) only [rs_eq, upd_same]) (by omega)
    refine ⟨B, b1, by rw [b2]; congr 1; omega, ?_, ?_, ?_, ?_⟩
    · intro i hi
      by_cases e : i = 0
      · subst e
        rw [Nat.add_zero, b4 f (by omega)]
        simp (disch := omega) only [rs_eq, rs_ne, upd_same]
        congr 3
      · have h3 := b3 (i - 1) (by omega)
        rw [show f + 1 + (i - 1) = f + i by omega] at h3
        rw [h3, show m - 1 - (i - 1) = m + 1 - 1 - i by omega]
    · intro i hi
      rw [b4 i (by omega)]
      simp (disch := omega) only [rs_eq, rs_ne, upd_ne]
    · intro j hj
      rw [b5 j hj]
      simp (disch := omega) only [rs_ne]
    · intro j hj
      rw [b6 j hj]
      simp (disch := omega) only [rs_eq, rs_ne, upd_ne]
/-- the reference's -/
theorem f11_feed_l {β : Type} (x : Int32) (k : ruA → Option β) : ∀ (m n : Nat) (A : ruA) (f : Nat), m < n → m ≤ 4 → A.1 83 6 = iN f → f + m ≤ 100 → ∃ B, fX11_feed_l38 x k n (iN m - 1) A = k B ∧ B.1 83 6 = iN (f + m) ∧ (∀ i, i < m → B.1 87 (f + i) = (ruushr x (iN (8 * (m - 1 - i)))) &&& 255) ∧ (∀ i, i < f → B.1 87 i = A.1 87 i) ∧ (∀ j, j ≠ 83 ∧ j ≠ 87 → B.1 j = A.1 j) ∧ (∀ j, j ≠ 6 → B.1 83 j = A.1 83 j) := by
  intro m
  induction m with
  | zero =>
    intro n A f hn _ h1 h2
    obtain ⟨n, rfl⟩ : ∃ q, n = q + 1 := ⟨n - 1, by omega⟩
    refine ⟨A, ?_, h1, fun i hi => by omega, fun i _ => rfl, fun j _ => rfl, fun j _ => rfl⟩
    rw [fX11_feed_l38, iN_0m1, if_pos (by decide)]
  | succ m ih =>
    intro n A f hn hm h1 h2
    obtain ⟨n, rfl⟩ : ∃ q, n = q + 1 := ⟨n - 1, by omega⟩
    have e1 : fX11_feed_l38 x k (n + 1) (iN (m + 1) - 1) A = fX11_feed_l38 x k n (iN m - 1) (ruset (ruset A 87 f ((ruushr x (iN (8 * m))) &&& 255)) 83 6 (iN (f + 1))) := by
      rw [iN_succ_sub, fX11_feed_l38, if_neg (iN_lt_zero (by omega)), h1]
      simp (disch := omega) only [rust_iN, Option.bind_some, rs_ne, h1, iN_add1, iN_m1, li8, iN_mul, byte_eq]
    rw [e1]
    obtain ⟨B, b1, b2, b3, b4, b5, b6⟩ := ih n (ruset (ruset A 87 f ((ruushr x (iN (8 * m))) &&& 255)) 83 6 (iN (f + 1))) (f + 1) (by omega) (by omega) (by simp (disch := omega) only [rs_eq, upd_same]) (by omega)
    refine ⟨B, b1, by rw [b2]; congr 1; omega, ?_, ?_, ?_, ?_⟩
    · intro i hi
      by_cases e : i = 0
      · subst e
        rw [Nat.add_zero, b4 f (by omega)]
        simp (disch := omega) only [rs_eq, rs_ne, upd_same]
        congr 3
      · have h3 := b3 (i - 1) (by omega)
        rw [show f + 1 + (i - 1) = f + i by omega] at h3
        rw [h3, show m - 1 - (i - 1) = m + 1 - 1 - i by omega]
    · intro i hi
      rw [b4 i (by omega)]
      simp (disch := omega) only [rs_eq, rs_ne, upd_ne]
    · intro j hj
      rw [b5 j hj]
      simp (disch := omega) only [rs_ne]
    · intro j hj
      rw [b6 j hj]
      simp (disch := omega) only [rs_eq, rs_ne, upd_ne]
theorem op_feed {W : ruWy} {A : ruA} (hI : Inv W A) (x1 x2 : Int32) : Op2 W (fX10_feed x1 x2) (fX11_feed x1 x2) A := by
  obtain ⟨⟨hn, hq, hc, hs, hb, hr, hh, hf, hw⟩, hK, hMf, hMt, hMs⟩ := id hI
  obtain ⟨m0, m1, m2, m3, m4, m5⟩ := id hn
  have q0 : A.1 2 0 = A.1 84 0 := m0.1
  have q1 : A.1 2 1 = A.1 84 1 := m1.1
  have q2 : A.1 2 2 = A.1 84 2 := m2.1
  have q3 : A.1 14 0 = A.1 84 3 := m3.1
  have q4 : A.1 23 0 = A.1 84 4 := m4.1
  have q5 : A.1 29 0 = A.1 84 5 := m5.1
  obtain ⟨⟨t1, t2, t3⟩, t4⟩ := id hMt
  by_cases h1 : 1 ≤ x2 ∧ x2 ≤ 4
  · have h0 : (0 : Int32) ≤ x2 := by
      have := h1.1
      rw [Int32.le_iff_toInt_le] at this ⊢
      have e0 : (0 : Int32).toInt = 0 := by decide
      have e1 : (1 : Int32).toInt = 1 := by decide
      omega
    obtain ⟨m, hm, rfl⟩ := iN_of (m := 4) h0 (by decide) h1.2
    have hm0 : 1 ≤ m := (iN_le (a := 1) (by decide) (by omega)).mp h1.1
    generalize hf9 : cn (A.1 83) 6 = f at *
    by_cases h2 : f + m ≤ 100
    · have hle : A.1 83 6 + iN m ≤ 100 := by
        rw [t2, iN_add]
        exact (iN_le (b := 100) (by omega) (by decide)).mpr h2
      obtain ⟨B, b1, b2', b3, b4, b5, b6⟩ := f10_feed_l x1 (fun A4 => some ((A4.1 0 9), A4)) m ruF A f (by rw [ruF_eq]; omega) hm (t1.trans t2) h2
      obtain ⟨C, c1, c2, c3, c4, c5, c6⟩ := f11_feed_l x1 (fun A4 => some ((A4.1 83 6), A4)) m ruF B f (by rw [ruF_eq]; omega) hm (by rw [b5 83 (by decide)]; exact t2) h2
      refine ⟨iN (f + m), B, C, ?_, ?_, ?_⟩
      · simp only [fX10_feed, e10_isWithin, Option.bind_some, b2_pos h1, ite10, t1, if_pos hle, b1, b2']
      · have hle2 : B.1 83 6 + iN m ≤ 100 := by rw [b5 83 (by decide)]; exact hle
        simp only [fX11_feed, e11_within, Option.bind_some, b2_pos h1, ite10, if_pos hle2, c1, c2]
      · have eK : ∀ k, k ≠ 0 ∧ k ≠ 72 ∧ k ≠ 83 ∧ k ≠ 87 → C.1 k = A.1 k := fun k hk => by rw [c5 k (by omega), b5 k (by omega)]
        have C0 : C.1 0 = B.1 0 := c5 0 (by decide)
        have C72 : C.1 72 = B.1 72 := c5 72 (by decide)
        have B83 : B.1 83 = A.1 83 := b5 83 (by decide)
        have B87 : B.1 87 = A.1 87 := b5 87 (by decide)
        have e9 : cn (C.1 83) 6 = f + m := cn_iN c2 (by omega)
        refine ⟨?_, ?_, hMf.congr ⟨eK _ (by decide), eK _ (by decide)⟩ ⟨by rw [C0]; exact b6 2 (by decide), by rw [C0]; exact b6 12 (by decide)⟩ ⟨by rw [c6 2 (by decide), B83], by rw [c6 3 (by decide), B83]⟩, ⟨⟨by rw [C0, b2', c2], by rw [e9]; exact c2, by rw [e9]; exact h2⟩, ?_⟩, hMs.congr fun k hk => eK k (by omega)⟩
        · rw [eK 84 (by decide)]
          exact hI.1.congr fun k _ _ => eK k (by omega)
        · rw [eK 85 (by decide)]
          exact hK.congr fun k _ _ => eK k (by omega)
        · intro i hi
          rw [e9] at hi
          rw [C72]
          by_cases e : i < f
          · rw [b4 i e, c4 i e, B87]
            exact t4 i e
          · obtain ⟨j, rfl⟩ : ∃ j, i = f + j := ⟨i - f, by omega⟩
            rw [b3 j (by omega), c3 j (by omega)]
            obtain ⟨v, v1, v2⟩ := and255 (ruushr x1 (iN (8 * (m - 1 - j))))
            rw [v2]
            exact ⟨rfl, iN_nonneg (by omega), (iN_le (b := 255) (by omega) (by decide)).mpr v1⟩
    · have hle : ¬ A.1 83 6 + iN m ≤ 100 := by
        rw [t2, iN_add]
        exact fun h => h2 ((iN_le (b := 100) (by omega) (by decide)).mp h)
      refine Op_find hI (-1000002) 1 (by decide) (by decide) ?_ ?_
      · simp only [fX10_feed, e10_isWithin, e10_isQuestion, e10_isYear, e10_isKind, e10_isSlip, e10_isRoom, e10_isChild, e10_isWay, e10_areHours, q1, q2, q3, Option.bind_some, b2_pos h1, hle, ite00, ite10, if_true, if_false, t1]
      · simp only [fX11_feed, e11_within, e11_isQuestion, e11_isYear, e11_isSlip, e11_is1f, e11_is2f, e11_is3f, e11_areHours, fndC_84, fndC_83, fndC_88, fndC_89, fndC_90, Option.bind_some, b2_pos h1, hle, ite00, ite10, if_true, if_false]
  · refine Op_find hI (-1000001) 0 (by decide) (by decide) ?_ ?_
    · simp only [fX10_feed, e10_isWithin, e10_isQuestion, e10_isYear, e10_isKind, e10_isSlip, e10_isRoom, e10_isChild, e10_isWay, e10_areHours, q1, q2, q3, Option.bind_some, b2_neg h1, ite00, ite10, if_true, if_false]
    · simp only [fX11_feed, e11_within, e11_isQuestion, e11_isYear, e11_isSlip, e11_is1f, e11_is2f, e11_is3f, e11_areHours, fndC_84, fndC_83, fndC_88, fndC_89, fndC_90, Option.bind_some, b2_neg h1, ite00, ite10, if_true, if_false]
