/-! LEVEL 2: slips -/
theorem sl_ref (A : ruA) {s : Nat} (hs : s < 4) : rulr A 73 4 (iN s) = some (74 + 2 * s) := by
  rw [rulr_iN hs (by decide)]
  have : s = 0 ∨ s = 1 ∨ s = 2 ∨ s = 3 := by omega
  rcases this with rfl | rfl | rfl | rfl <;> rfl
theorem sl_O {s : Nat} (hs : s < 4) : rudO (74 + 2 * s) 7 = some () := by
  have : s = 0 ∨ s = 1 ∨ s = 2 ∨ s = 3 := by omega
  rcases this with rfl | rfl | rfl | rfl <;> rfl
theorem sl_num (A : ruA) {s : Nat} (hs : s < 4) : ruref A (74 + 2 * s) 2 = some (75 + 2 * s) := by
  have : s = 0 ∨ s = 1 ∨ s = 2 ∨ s = 3 := by omega
  rcases this with rfl | rfl | rfl | rfl <;> rfl
theorem sl_I {s : Nat} (hs : s < 4) : rudI (75 + 2 * s) = some 24 := by
  have : s = 0 ∨ s = 1 ∨ s = 2 ∨ s = 3 := by omega
  rcases this with rfl | rfl | rfl | rfl <;> rfl
theorem f10_isMissing (A : ruA) {s : Nat} (hs : s < 4) : fX7_isMissing (74 + 2 * s) A = some (b2 (A.1 (74 + 2 * s) 0 = 0)) := by
  simp only [fX7_isMissing, sl_O hs, Option.bind_some]
  unfold b2
  split <;> rfl
theorem f10_lowest (A : ruA) {s : Nat} (hs : s < 4) (v : Int32) : fX7_lowestBits (74 + 2 * s) v A = fX11_cut v (A.1 (74 + 2 * s) 0) := by
  simp only [fX7_lowestBits, sl_O hs, Option.bind_some, fX11_cut]
theorem cut_some (v w : Int32) : ∃ u, fX11_cut v w = some u := by
  unfold fX11_cut
  split
  · exact ⟨_, rfl⟩
  · split <;> exact ⟨_, rfl⟩
/-- only slips change -/
theorem Inv.slips {W : ruWy} {A A2 : ruA} (h : Inv W A) (e : ∀ k, (k < 74 ∨ 82 ≤ k) ∧ k ≠ 88 ∧ k ≠ 89 ∧ k ≠ 90 ∧ k ≠ 96 → A2.1 k = A.1 k) (hs : MIs A2.1) : Inv W A2 := by
  obtain ⟨h1, h2, h3, h4, -⟩ := h
  refine ⟨?_, ?_, h3.congr ⟨e _ (by decide), e _ (by decide)⟩ ⟨by rw [e 0 (by decide)], by rw [e 0 (by decide)]⟩ ⟨by rw [e 83 (by decide)], by rw [e 83 (by decide)]⟩, h4.congr ⟨e _ (by decide), e _ (by decide)⟩ (by rw [e 0 (by decide)]) (by rw [e 83 (by decide)]), hs⟩
  · rw [e 84 (by decide)]
    exact h1.congr fun k _ _ => e k (by omega)
  · rw [e 85 (by decide)]
    exact h2.congr fun k _ _ => e k (by omega)
theorem op_write {W : ruWy} {A : ruA} (hI : Inv W A) (x1 x2 x3 : Int32) : Op2 W (fX10_write x1 x2 x3) (fX11_write x1 x2 x3) A := by
  obtain ⟨⟨hn, hq, hc, hs, hb, hr, hh, hf, hw⟩, hK, hMf, hMt, hMs⟩ := id hI
  obtain ⟨m0, m1, m2, m3, m4, m5⟩ := id hn
  have q0 : A.1 2 0 = A.1 84 0 := m0.1
  have q1 : A.1 2 1 = A.1 84 1 := m1.1
  have q2 : A.1 2 2 = A.1 84 2 := m2.1
  have q3 : A.1 14 0 = A.1 84 3 := m3.1
  have q4 : A.1 23 0 = A.1 84 4 := m4.1
  have q5 : A.1 29 0 = A.1 84 5 := m5.1
  by_cases h1 : 0 ≤ x1 ∧ x1 ≤ 3
  · obtain ⟨s, hs1, rfl⟩ := lt_of (m := 3) (by decide) h1
    obtain ⟨⟨s1, s2⟩, ⟨s3, s4, s5⟩, s6⟩ := hMs s (by omega)
    have l88 : ruld (A.1 88) 4 (iN s) = some (A.1 88 s) := ruld_iN (by omega) (by decide)
    have l89 : ruld (A.1 89) 4 (iN s) = some (A.1 89 s) := ruld_iN (by omega) (by decide)
    have hs4 : s < 4 := by omega
    by_cases h2 : A.1 88 s = 0
    · refine Op_find hI (-1000006) 5 (by decide) (by decide) ?_ ?_
      · simp only [fX10_write, e10_isWithin, e10_isQuestion, e10_isYear, e10_isKind, e10_isSlip, e10_isRoom, e10_isChild, e10_isWay, e10_areHours, q1, q2, q3, Option.bind_some, b2_pos h1, ite00, ite10, if_true, if_false, sl_ref A hs4, sl_O hs4, f10_isMissing A hs4, s1, h2, b2_pos]
      · simp only [fX11_write, e11_within, e11_isQuestion, e11_isYear, e11_isSlip, e11_is1f, e11_is2f, e11_is3f, e11_areHours, fndC_84, fndC_83, fndC_88, fndC_89, fndC_90, Option.bind_some, b2_pos h1, ite00, ite10, if_true, if_false, l88, h2]
    · by_cases h3 : 0 ≤ x2 ∧ x2 ≤ A.1 89 s - 1
      · obtain ⟨i, hi, rfl⟩ := ch_of (N := A.1 89) (i := s) s4 (by omega) h3
        obtain ⟨u, hu⟩ := cut_some x3 (A.1 88 s)
        refine ⟨1, ruset A (75 + 2 * s) i u, ruset (ruset A (75 + 2 * s) i u) 90 (24 * s + i) u, ?_, ?_, ?_⟩
        · simp (disch := omega) only [fX10_write, e10_isSlip, e10_isWithin, Option.bind_some, b2_pos h1, ite10, sl_ref A hs4, sl_O hs4, f10_isMissing A hs4, s1, b2_neg h2, ite00, if_true, s3, b2_pos h3, sl_num A hs4, f10_lowest A hs4, hu, sl_I hs4, rust_iN]
        · have m88 : ruld ((ruset A (75 + 2 * s) i u).1 88) 4 (iN s) = some (A.1 88 s) := by rw [rs_ne _ _ _ (by omega)]; exact l88
          have m89 : ruld ((ruset A (75 + 2 * s) i u).1 89) 4 (iN s) = some (A.1 89 s) := by rw [rs_ne _ _ _ (by omega)]; exact l89
          simp (disch := omega) only [fX11_write, e11_isSlip, Option.bind_some, b2_pos h1, ite10, m88, if_neg h2, m89, e11_within, b2_pos h3, hu, li24, iN_mul, iN_add, rust_iN]
        · refine hI.slips (fun k hk => by simp (disch := omega) only [rs_eq, rs_ne, upd_same, upd_ne, Nat.reduceAdd]) ?_
          intro t ht
          obtain ⟨g1, g2, g3⟩ := hMs t ht
          refine ⟨?_, ?_, ?_⟩
          · simp (disch := omega) only [rs_ne]
            exact g1
          · simp (disch := omega) only [rs_ne]
            exact g2
          · intro j hj
            by_cases e : t = s
            · subst e
              by_cases e2 : j = i
              · subst e2
                simp (disch := omega) only [rs_ne, rs_eq, upd_same]
              · simp (disch := omega) only [rs_ne, rs_eq, upd_ne]
                exact g3 j hj
            · simp (disch := omega) only [rs_ne, rs_eq, upd_ne]
              exact g3 j hj
      · refine Op_find hI (-1000001) 0 (by decide) (by decide) ?_ ?_
        · simp only [fX10_write, e10_isWithin, e10_isQuestion, e10_isYear, e10_isKind, e10_isSlip, e10_isRoom, e10_isChild, e10_isWay, e10_areHours, q1, q2, q3, Option.bind_some, b2_pos h1, ite00, ite10, if_true, if_false, sl_ref A hs4, sl_O hs4, f10_isMissing A hs4, s1, b2_neg h2, s3, b2_neg h3]
        · simp only [fX11_write, e11_within, e11_isQuestion, e11_isYear, e11_isSlip, e11_is1f, e11_is2f, e11_is3f, e11_areHours, fndC_84, fndC_83, fndC_88, fndC_89, fndC_90, Option.bind_some, b2_pos h1, ite00, ite10, if_true, if_false, l88, h2, l89, b2_neg h3]
  · refine Op_find hI (-1000001) 0 (by decide) (by decide) ?_ ?_
    · simp only [fX10_write, e10_isWithin, e10_isQuestion, e10_isYear, e10_isKind, e10_isSlip, e10_isRoom, e10_isChild, e10_isWay, e10_areHours, q1, q2, q3, Option.bind_some, b2_neg h1, ite00, ite10, if_true, if_false]
    · simp only [fX11_write, e11_within, e11_isQuestion, e11_isYear, e11_isSlip, e11_is1f, e11_is2f, e11_is3f, e11_areHours, fndC_84, fndC_83, fndC_88, fndC_89, fndC_90, Option.bind_some, b2_neg h1, ite00, ite10, if_true, if_false]
theorem f10_fill (A : ruA) {s : Nat} (hs : s < 4) : fJ7_fill_53178 (75 + 2 * s) 0 A = some (rusetA A (75 + 2 * s) (fillF (A.1 (75 + 2 * s)) 0 (fun _ => 0) 24)) := by
  simp only [fJ7_fill_53178, sl_I hs, Option.bind_some, iN_eq]
  refine loop_fill (fun n q B => fJ7_fill_53178_l5 (75 + 2 * s) 0 (iN 24) (fun A4 => some A4) n (iN q) B) A (75 + 2 * s) 0 24 (fun _ => 0) (fun B => some B) ?_ ?_ ruF (by decide)
  · intro n B
    rw [fJ7_fill_53178_l5, if_pos (by decide)]
  · intro n q hq
    simp (disch := omega) only [fJ7_fill_53178_l5, iN_le, sl_I hs, Option.bind_some, rust_iN, iN_add1, Nat.zero_add]
    rw [if_neg (by omega)]
theorem f11_slip_l (A : ruA) {s : Nat} (hs : s < 4) {β : Type} (k : ruA → Option β) : fX11_slip_l85 (iN s) k ruF 0 A = k (rusetA A 90 (fillF (A.1 90) (24 * s) (fun _ => 0) 24)) := by
  refine loop_fill (fun n q B => fX11_slip_l85 (iN s) k n (iN q) B) A 90 (24 * s) 24 (fun _ => 0) k ?_ ?_ ruF (by decide)
  · intro n B
    rw [fX11_slip_l85, if_pos (by decide)]
  · intro n q hq
    simp (disch := omega) only [fX11_slip_l85, li24, iN_le, iN_mul, iN_add, Option.bind_some, rust_iN, iN_add1]
    rw [if_neg (by omega)]
def okBits (x : Int32) : Prop := x = 0 ∨ x = 8 ∨ x = 16 ∨ x = 32
theorem f10_renewed (A : ruA) {s : Nat} (hs : s < 4) (b n : Int32) : fX7_renewed (74 + 2 * s) b n A = some ((if b = 0 then 0 else n), rusetA (ruset (ruset A (74 + 2 * s) 0 b) (74 + 2 * s) 1 (if b = 0 then 0 else n)) (75 + 2 * s) (fillF (A.1 (75 + 2 * s)) 0 (fun _ => 0) 24)) := by
  simp only [fX7_renewed, sl_O hs, Option.bind_some, ite_some, sl_num _ hs, f10_fill _ hs]
  have e1 : (ruset (ruset A (74 + 2 * s) 0 b) (74 + 2 * s) 1 (if b = 0 then 0 else n)).1 (75 + 2 * s) = A.1 (75 + 2 * s) := by
    rw [rs_ne _ _ _ (by omega), rs_ne _ _ _ (by omega)]
  rw [e1, rsA_ne _ _ (by omega), rs_eq, upd_same]
theorem Inv.slip {W : ruWy} {A : ruA} (hI : Inv W A) {s : Nat} (hs : s < 4) {b n : Int32} (hb : okBits b) {m : Nat} (hm : m ≤ 24) (hn : n = iN m) : Inv W (rusetA (ruset (ruset (rusetA (ruset (ruset A (74 + 2 * s) 0 b) (74 + 2 * s) 1 n) (75 + 2 * s) (fillF (A.1 (75 + 2 * s)) 0 (fun _ => 0) 24)) 88 s b) 89 s n) 90 (fillF (A.1 90) (24 * s) (fun _ => 0) 24)) := by
  generalize hA2 : (rusetA (ruset (ruset (rusetA (ruset (ruset A (74 + 2 * s) 0 b) (74 + 2 * s) 1 n) (75 + 2 * s) (fillF (A.1 (75 + 2 * s)) 0 (fun _ => 0) 24)) 88 s b) 89 s n) 90 (fillF (A.1 90) (24 * s) (fun _ => 0) 24)) = A2
  have eK : ∀ k, k ≠ 74 + 2 * s ∧ k ≠ 75 + 2 * s ∧ k ≠ 88 ∧ k ≠ 89 ∧ k ≠ 90 → A2.1 k = A.1 k := by
    intro k hk
    rw [← hA2]
    simp (disch := omega) only [rsA_ne, rs_ne]
  have a88 : A2.1 88 = upd (A.1 88) s b := by
    rw [← hA2]
    simp (disch := omega) only [rsA_ne, rs_ne, rs_eq]
  have a89 : A2.1 89 = upd (A.1 89) s n := by
    rw [← hA2]
    simp (disch := omega) only [rsA_ne, rs_ne, rs_eq]
  have a90 : A2.1 90 = fillF (A.1 90) (24 * s) (fun _ => 0) 24 := by
    rw [← hA2]
    exact rsA_same _ _ _
  have a75 : A2.1 (75 + 2 * s) = fillF (A.1 (75 + 2 * s)) 0 (fun _ => 0) 24 := by
    rw [← hA2]
    simp (disch := omega) only [rsA_ne, rs_ne, rsA_same]
  have a74 : A2.1 (74 + 2 * s) = upd (upd (A.1 (74 + 2 * s)) 0 b) 1 n := by
    rw [← hA2]
    simp (disch := omega) only [rsA_ne, rs_ne, rs_eq]
  clear hA2
  refine hI.slips (fun k hk => eK k (by omega)) ?_
  intro t ht
  obtain ⟨g1, g2, g3⟩ := hI.2.2.2.2 t ht
  by_cases e : t = s
  · subst e
    rw [a74, a75, a88, a89, a90]
    have e9 : cn (upd (A.1 89) t n) t = m := cn_iN ((upd_same _ _ _).trans hn) (by omega)
    refine ⟨⟨?_, ?_⟩, ⟨?_, ?_, ?_⟩, ?_⟩
    · rw [upd_ne _ _ (by decide), upd_same, upd_same]
    · rw [upd_same]
      exact hb
    · rw [upd_same, upd_same]
    · rw [upd_same, e9]
      exact hn
    · rw [e9]
      exact hm
    · intro j hj
      rw [fillF_in0 hj, fillF_in hj]
  · rw [eK (74 + 2 * t) (by omega), eK (75 + 2 * t) (by omega), a88, a89, a90]
    rw [upd_ne _ _ e, upd_ne _ _ e, cn_congr (upd_ne (A.1 89) n e)]
    refine ⟨g1, g2, fun j hj => ?_⟩
    rw [fillF_out (by omega)]
    exact g3 j hj
theorem op_slip {W : ruWy} {A : ruA} (hI : Inv W A) (x1 x2 x3 : Int32) : Op2 W (fX10_slip x1 x2 x3) (fX11_slip x1 x2 x3) A := by
  obtain ⟨⟨hn, hq, hc, hs, hb, hr, hh, hf, hw⟩, hK, hMf, hMt, hMs⟩ := id hI
  obtain ⟨m0, m1, m2, m3, m4, m5⟩ := id hn
  have q0 : A.1 2 0 = A.1 84 0 := m0.1
  have q1 : A.1 2 1 = A.1 84 1 := m1.1
  have q2 : A.1 2 2 = A.1 84 2 := m2.1
  have q3 : A.1 14 0 = A.1 84 3 := m3.1
  have q4 : A.1 23 0 = A.1 84 4 := m4.1
  have q5 : A.1 29 0 = A.1 84 5 := m5.1
  by_cases h1 : 0 ≤ x1 ∧ x1 ≤ 3
  · obtain ⟨s, hs1, rfl⟩ := lt_of (m := 3) (by decide) h1
    have hs4 : s < 4 := by omega
    by_cases hb : okBits x2
    · by_cases h2 : 0 ≤ x3
      · by_cases h3 : x3 ≤ 24
        · obtain ⟨m, hm, hx3⟩ := iN_of (m := 24) h2 (by decide) h3
          have key : ∃ m', m' ≤ 24 ∧ (if x2 = 0 then (0 : Int32) else x3) = iN m' := by
            split
            · exact ⟨0, by omega, rfl⟩
            · exact ⟨m, hm, hx3⟩
          obtain ⟨m', hm', hv⟩ := key
          refine ⟨if x2 = 0 then 0 else x3, rusetA (ruset (ruset A (74 + 2 * s) 0 x2) (74 + 2 * s) 1 (if x2 = 0 then 0 else x3)) (75 + 2 * s) (fillF (A.1 (75 + 2 * s)) 0 (fun _ => 0) 24), _, ?_, ?_, hI.slip hs4 hb hm' hv⟩
          · have hren := f10_renewed A hs4 x2 x3
            rcases hb with rfl | rfl | rfl | rfl
            · simp only [fX10_slip, e10_isSlip, Option.bind_some, b2_pos h1, ite10, if_true, if_pos h2, if_pos h3, sl_ref A hs4, sl_O hs4, hren, ruB2_some]
            · simp only [fX10_slip, e10_isSlip, Option.bind_some, b2_pos h1, ite10, if_neg (show ¬ (8 : Int32) = 0 by decide), if_true, if_pos h2, if_pos h3, sl_ref A hs4, sl_O hs4, hren, ruB2_some]
            · simp only [fX10_slip, e10_isSlip, Option.bind_some, b2_pos h1, ite10, if_neg (show ¬ (16 : Int32) = 0 by decide), if_neg (show ¬ (16 : Int32) = 8 by decide), if_true, if_pos h2, if_pos h3, sl_ref A hs4, sl_O hs4, hren, ruB2_some]
            · simp only [fX10_slip, e10_isSlip, Option.bind_some, b2_pos h1, ite10, if_neg (show ¬ (32 : Int32) = 0 by decide), if_neg (show ¬ (32 : Int32) = 8 by decide), if_neg (show ¬ (32 : Int32) = 16 by decide), if_true, if_pos h2, if_pos h3, sl_ref A hs4, sl_O hs4, hren, ruB2_some]
          · generalize hA1 : rusetA (ruset (ruset A (74 + 2 * s) 0 x2) (74 + 2 * s) 1 (if x2 = 0 then 0 else x3)) (75 + 2 * s) (fillF (A.1 (75 + 2 * s)) 0 (fun _ => 0) 24) = A1
            have e90 : A1.1 90 = A.1 90 := by
              rw [← hA1]
              simp (disch := omega) only [rsA_ne, rs_ne]
            have hin : ∀ B : ruA, (if x2 = 0 then some (0 : Int32) else some x3) = some (if x2 = 0 then 0 else x3) := fun _ => ite_some _ _
            have body : ((rust A1 88 4 (iN s) x2).bind fun A4 => ((if x2 = 0 then some (0 : Int32) else some x3)).bind fun v5 => (rust A4 89 4 (iN s) v5).bind fun A6 => fX11_slip_l85 (iN s) (fun A8 => (ruld (A8.1 89) 4 (iN s)).bind fun v9 => some (v9, A8)) ruF (0 : Int32) A6) = some (if x2 = 0 then 0 else x3, rusetA (ruset (ruset A1 88 s x2) 89 s (if x2 = 0 then 0 else x3)) 90 (fillF (A.1 90) (24 * s) (fun _ => 0) 24)) := by
              simp (disch := omega) only [rust_iN, Option.bind_some, ite_some, f11_slip_l _ hs4, ruld_iN, rsA_ne, rs_ne, rs_eq, upd_same, e90]
            rcases hb with rfl | rfl | rfl | rfl
            · simp only [fX11_slip, e11_isSlip, Option.bind_some, b2_pos h1, ite10, if_true, if_pos h2, if_pos h3] at body ⊢
              exact body
            · simp only [fX11_slip, e11_isSlip, Option.bind_some, b2_pos h1, ite10, if_neg (show ¬ (8 : Int32) = 0 by decide), if_true, if_pos h2, if_pos h3] at body ⊢
              exact body
            · simp only [fX11_slip, e11_isSlip, Option.bind_some, b2_pos h1, ite10, if_neg (show ¬ (16 : Int32) = 0 by decide), if_neg (show ¬ (16 : Int32) = 8 by decide), if_true, if_pos h2, if_pos h3] at body ⊢
              exact body
            · simp only [fX11_slip, e11_isSlip, Option.bind_some, b2_pos h1, ite10, if_neg (show ¬ (32 : Int32) = 0 by decide), if_neg (show ¬ (32 : Int32) = 8 by decide), if_neg (show ¬ (32 : Int32) = 16 by decide), if_true, if_pos h2, if_pos h3] at body ⊢
              exact body
        · rcases hb with rfl | rfl | rfl | rfl
          · refine Op_find hI (-1000001) 0 (by decide) (by decide) ?_ ?_
            · simp only [fX10_slip, e10_isWithin, e10_isQuestion, e10_isYear, e10_isKind, e10_isSlip, e10_isRoom, e10_isChild, e10_isWay, e10_areHours, q1, q2, q3, Option.bind_some, b2_pos h1, h2, h3, ite00, ite10, if_true, if_false]
            · simp only [fX11_slip, e11_within, e11_isQuestion, e11_isYear, e11_isSlip, e11_is1f, e11_is2f, e11_is3f, e11_areHours, fndC_84, fndC_83, fndC_88, fndC_89, fndC_90, Option.bind_some, b2_pos h1, h2, h3, ite00, ite10, if_true, if_false]
          · refine Op_find hI (-1000001) 0 (by decide) (by decide) ?_ ?_
            · simp only [fX10_slip, e10_isWithin, e10_isQuestion, e10_isYear, e10_isKind, e10_isSlip, e10_isRoom, e10_isChild, e10_isWay, e10_areHours, q1, q2, q3, Option.bind_some, b2_pos h1, h2, h3, if_neg (show ¬ (8 : Int32) = 0 by decide), ite00, ite10, if_true, if_false]
            · simp only [fX11_slip, e11_within, e11_isQuestion, e11_isYear, e11_isSlip, e11_is1f, e11_is2f, e11_is3f, e11_areHours, fndC_84, fndC_83, fndC_88, fndC_89, fndC_90, Option.bind_some, b2_pos h1, h2, h3, if_neg (show ¬ (8 : Int32) = 0 by decide), ite00, ite10, if_true, if_false]
          · refine Op_find hI (-1000001) 0 (by decide) (by decide) ?_ ?_
            · simp only [fX10_slip, e10_isWithin, e10_isQuestion, e10_isYear, e10_isKind, e10_isSlip, e10_isRoom, e10_isChild, e10_isWay, e10_areHours, q1, q2, q3, Option.bind_some, b2_pos h1, h2, h3, if_neg (show ¬ (16 : Int32) = 0 by decide), if_neg (show ¬ (16 : Int32) = 8 by decide), ite00, ite10, if_true, if_false]
            · simp only [fX11_slip, e11_within, e11_isQuestion, e11_isYear, e11_isSlip, e11_is1f, e11_is2f, e11_is3f, e11_areHours, fndC_84, fndC_83, fndC_88, fndC_89, fndC_90, Option.bind_some, b2_pos h1, h2, h3, if_neg (show ¬ (16 : Int32) = 0 by decide), if_neg (show ¬ (16 : Int32) = 8 by decide), ite00, ite10, if_true, if_false]
          · refine Op_find hI (-1000001) 0 (by decide) (by decide) ?_ ?_
            · simp only [fX10_slip, e10_isWithin, e10_isQuestion, e10_isYear, e10_isKind, e10_isSlip, e10_isRoom, e10_isChild, e10_isWay, e10_areHours, q1, q2, q3, Option.bind_some, b2_pos h1, h2, h3, if_neg (show ¬ (32 : Int32) = 0 by decide), if_neg (show ¬ (32 : Int32) = 8 by decide), if_neg (show ¬ (32 : Int32) = 16 by decide), ite00, ite10, if_true, if_false]
            · simp only [fX11_slip, e11_within, e11_isQuestion, e11_isYear, e11_isSlip, e11_is1f, e11_is2f, e11_is3f, e11_areHours, fndC_84, fndC_83, fndC_88, fndC_89, fndC_90, Option.bind_some, b2_pos h1, h2, h3, if_neg (show ¬ (32 : Int32) = 0 by decide), if_neg (show ¬ (32 : Int32) = 8 by decide), if_neg (show ¬ (32 : Int32) = 16 by decide), ite00, ite10, if_true, if_false]
      · rcases hb with rfl | rfl | rfl | rfl
        · refine Op_find hI (-1000007) 6 (by decide) (by decide) ?_ ?_
          · simp only [fX10_slip, e10_isWithin, e10_isQuestion, e10_isYear, e10_isKind, e10_isSlip, e10_isRoom, e10_isChild, e10_isWay, e10_areHours, q1, q2, q3, Option.bind_some, b2_pos h1, h2, ite00, ite10, if_true, if_false]
          · simp only [fX11_slip, e11_within, e11_isQuestion, e11_isYear, e11_isSlip, e11_is1f, e11_is2f, e11_is3f, e11_areHours, fndC_84, fndC_83, fndC_88, fndC_89, fndC_90, Option.bind_some, b2_pos h1, h2, ite00, ite10, if_true, if_false]
        · refine Op_find hI (-1000007) 6 (by decide) (by decide) ?_ ?_
          · simp only [fX10_slip, e10_isWithin, e10_isQuestion, e10_isYear, e10_isKind, e10_isSlip, e10_isRoom, e10_isChild, e10_isWay, e10_areHours, q1, q2, q3, Option.bind_some, b2_pos h1, h2, if_neg (show ¬ (8 : Int32) = 0 by decide), ite00, ite10, if_true, if_false]
          · simp only [fX11_slip, e11_within, e11_isQuestion, e11_isYear, e11_isSlip, e11_is1f, e11_is2f, e11_is3f, e11_areHours, fndC_84, fndC_83, fndC_88, fndC_89, fndC_90, Option.bind_some, b2_pos h1, h2, if_neg (show ¬ (8 : Int32) = 0 by decide), ite00, ite10, if_true, if_false]
        · refine Op_find hI (-1000007) 6 (by decide) (by decide) ?_ ?_
          · simp only [fX10_slip, e10_isWithin, e10_isQuestion, e10_isYear, e10_isKind, e10_isSlip, e10_isRoom, e10_isChild, e10_isWay, e10_areHours, q1, q2, q3, Option.bind_some, b2_pos h1, h2, if_neg (show ¬ (16 : Int32) = 0 by decide), if_neg (show ¬ (16 : Int32) = 8 by decide), ite00, ite10, if_true, if_false]
          · simp only [fX11_slip, e11_within, e11_isQuestion, e11_isYear, e11_isSlip, e11_is1f, e11_is2f, e11_is3f, e11_areHours, fndC_84, fndC_83, fndC_88, fndC_89, fndC_90, Option.bind_some, b2_pos h1, h2, if_neg (show ¬ (16 : Int32) = 0 by decide), if_neg (show ¬ (16 : Int32) = 8 by decide), ite00, ite10, if_true, if_false]
        · refine Op_find hI (-1000007) 6 (by decide) (by decide) ?_ ?_
          · simp only [fX10_slip, e10_isWithin, e10_isQuestion, e10_isYear, e10_isKind, e10_isSlip, e10_isRoom, e10_isChild, e10_isWay, e10_areHours, q1, q2, q3, Option.bind_some, b2_pos h1, h2, if_neg (show ¬ (32 : Int32) = 0 by decide), if_neg (show ¬ (32 : Int32) = 8 by decide), if_neg (show ¬ (32 : Int32) = 16 by decide), ite00, ite10, if_true, if_false]
          · simp only [fX11_slip, e11_within, e11_isQuestion, e11_isYear, e11_isSlip, e11_is1f, e11_is2f, e11_is3f, e11_areHours, fndC_84, fndC_83, fndC_88, fndC_89, fndC_90, Option.bind_some, b2_pos h1, h2, if_neg (show ¬ (32 : Int32) = 0 by decide), if_neg (show ¬ (32 : Int32) = 8 by decide), if_neg (show ¬ (32 : Int32) = 16 by decide), ite00, ite10, if_true, if_false]
    · have n0 : ¬ x2 = 0 := fun h => hb (Or.inl h)
      have n8 : ¬ x2 = 8 := fun h => hb (Or.inr (Or.inl h))
      have n16 : ¬ x2 = 16 := fun h => hb (Or.inr (Or.inr (Or.inl h)))
      have n32 : ¬ x2 = 32 := fun h => hb (Or.inr (Or.inr (Or.inr h)))
      refine Op_find hI (-1000001) 0 (by decide) (by decide) ?_ ?_
      · simp only [fX10_slip, e10_isWithin, e10_isQuestion, e10_isYear, e10_isKind, e10_isSlip, e10_isRoom, e10_isChild, e10_isWay, e10_areHours, q1, q2, q3, Option.bind_some, b2_pos h1, if_neg n0, if_neg n8, if_neg n16, if_neg n32, ite00, ite10, if_true, if_false]
      · simp only [fX11_slip, e11_within, e11_isQuestion, e11_isYear, e11_isSlip, e11_is1f, e11_is2f, e11_is3f, e11_areHours, fndC_84, fndC_83, fndC_88, fndC_89, fndC_90, Option.bind_some, b2_pos h1, if_neg n0, if_neg n8, if_neg n16, if_neg n32, ite00, ite10, if_true, if_false]
  · refine Op_find hI (-1000001) 0 (by decide) (by decide) ?_ ?_
    · simp only [fX10_slip, e10_isWithin, e10_isQuestion, e10_isYear, e10_isKind, e10_isSlip, e10_isRoom, e10_isChild, e10_isWay, e10_areHours, q1, q2, q3, Option.bind_some, b2_neg h1, ite00, ite10, if_true, if_false]
    · simp only [fX11_slip, e11_within, e11_isQuestion, e11_isYear, e11_isSlip, e11_is1f, e11_is2f, e11_is3f, e11_areHours, fndC_84, fndC_83, fndC_88, fndC_89, fndC_90, Option.bind_some, b2_neg h1, ite00, ite10, if_true, if_false]
