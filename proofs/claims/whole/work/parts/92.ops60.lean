/-! LEVEL 2: says, judges -/
def lkV (A B : ruA) : Prop := ∀ k, k ≠ 65 ∧ k ≠ 66 ∧ k ≠ 68 ∧ k ≠ 69 ∧ k ≠ 70 → B.1 k = A.1 k
theorem lkV_refl (A : ruA) : lkV A A := fun _ _ => rfl
theorem lkV_trans {A B C : ruA} (h : lkV A B) (h2 : lkV B C) : lkV A C := fun k hk => (h2 k hk).trans (h k hk)
theorem lkV_C {A B C : ruA} (h : lkV A B) (h2 : lkC B C) : lkV A C := fun k hk => (h2 k ⟨hk.1, hk.2.1, hk.2.2.1⟩).trans (h k hk)
theorem roC_lkV {A B : ruA} {N : Nat → Int32} {m : Nat} (h : roC A N m) (hB : lkV A B) : roC B N m := by
  refine ⟨shC_keep h.1 fun k hk => hB k (by omega), fun c hc => ?_, ?_, h.2.2.2⟩
  · rw [hB 5 (by omega)]
    exact h.2.1 c hc
  · rw [hB 2 (by omega)]
    exact h.2.2.1
def valW (N : Nat → Int32) (E : List Int32) (x : Int32) (y m : Nat) : Int32 := ((evs (fun k => vM N k x y m) E []).getD []).headD 0
/-- way w of the class, and its steps -/
def wayC (A : ruA) (w n : Nat) (E : List Int32) : Prop := w < 6 ∧ n ≤ 100 ∧ A.1 22 w = iN n ∧
  ∀ (B : ruA) (tc mc : Nat), rudI tc = some 100 → tc ≠ 70 → rudI mc = some 6 → mc ≠ 70 → (∀ i, i < n → B.1 tc i = A.1 (16 + w) i) → ∃ v F', fX4_worthOf tc (iN n) mc B = some (v, stQ (rusetm (rusett B tc) mc) F') ∧ ∀ σ, evs (B.1 mc) E σ = some (v :: σ)
def wayN (N : Nat → Int32) (w : Nat) (E : List Int32) : Prop := E.length ≤ 100 ∧ N (4160 + 104 * w) = iN E.length ∧ ∀ i, i < E.length → N (4160 + 104 * w + 1 + i) = E.getD i 0
theorem wayC_lk {A B : ruA} {w n : Nat} {E : List Int32} (h : wayC A w n E) (hB : lkV A B) : wayC B w n E := by
  obtain ⟨h1, h2, h3, h4⟩ := h
  refine ⟨h1, h2, by rw [hB 22 (by omega)]; exact h3, ?_⟩
  rw [hB (16 + w) (by omega)]
  exact h4
theorem c_comes {A : ruA} {N : Nat → Int32} {m : Nat} (h : roC A N m) {y w n : Nat} {E : List Int32} (hy : y < 6) (hW : wayC A w n E) (x : Int32) : ∃ B, lkV A B ∧ fX10_comesTo (iN w) x (iN y) A = some (valW N E x y m, B) ∧ evs (fun k => vM N k x y m) E [] = some [valW N E x y m] := by
  unfold fX10_comesTo
  refine loop_gen (fun f j (B : ruA) => fX10_comesTo_l3 (iN w) x (iN y) (fun A4 => (rulr A4 15 6 (iN w)).bind fun c5 => (ruld (A4.1 22) 6 (iN w)).bind fun v6 => ruB2 (fX4_worthOf c5 v6 69 A4) fun v7 A8 => some (v7, A8)) f (iN j) B) 6 (fun j B => lkV A B ∧ ∀ k, k < j → B.1 69 k = vM N k x y m) (fun o => ∃ B, lkV A B ∧ o = some (valW N E x y m, B) ∧ evs (fun k => vM N k x y m) E [] = some [valW N E x y m]) ?_ ?_ ruF 0 A (by decide) (by decide) ⟨lkV_refl A, fun k hk => by omega⟩
  · rintro f B ⟨h1, h2⟩
    obtain ⟨w1, w2, w3, w4⟩ := wayC_lk hW h1
    obtain ⟨v, F', g1, g2⟩ := w4 B (16 + w) 69 (wy_I w1) (by omega) rfl (by decide) (fun i _ => rfl)
    have g3 : evs (fun k => vM N k x y m) E [] = some [v] := by
      rw [evs_congr (M' := B.1 69) (fun k hk => (h2 k hk).symm)]
      exact g2 []
    have hval : valW N E x y m = v := by
      unfold valW
      rw [g3]
      rfl
    refine ⟨stQ (rusetm (rusett B (16 + w)) 69) F', fun k hk => ?_, ?_, ?_⟩
    · rw [stQ_k _ _ hk.2.2.2.2]
      exact h1 k hk
    · show fX10_comesTo_l3 (iN w) x (iN y) (fun A4 => (rulr A4 15 6 (iN w)).bind fun c5 => (ruld (A4.1 22) 6 (iN w)).bind fun v6 => ruB2 (fX4_worthOf c5 v6 69 A4) fun v7 A8 => some (v7, A8)) (f + 1) (iN 6) B = _
      rw [fX10_comesTo_l3, if_pos (by decide), wy_ref B w1, Option.bind_some, ruld_iN w1 (by decide), Option.bind_some, w3, g1, ruB2_some, hval]
    · rw [hval]
      exact g3
  · rintro f j B hj ⟨h1, h2⟩
    right
    obtain ⟨C, c1, c2⟩ := c_of (roC_lkV h h1) hy (k := j) (by omega) x
    refine ⟨ruset C 69 j (vM N j x y m), ?_, fun k hk => ?_, fun k hk => ?_⟩
    · show fX10_comesTo_l3 (iN w) x (iN y) (fun A4 => (rulr A4 15 6 (iN w)).bind fun c5 => (ruld (A4.1 22) 6 (iN w)).bind fun v6 => ruB2 (fX4_worthOf c5 v6 69 A4) fun v7 A8 => some (v7, A8)) (f + 1) (iN j) B = _
      rw [fX10_comesTo_l3, li6, if_neg (by rw [iN_le (by omega) (by omega)]; omega), c1, ruB2_some, rust_iN hj (by decide), Option.bind_some, iN_add1]
    · rw [rs_ne _ _ _ hk.2.2.2.1]
      exact lkV_C h1 c2 k hk
    · rw [rs_eq]
      by_cases e : k = j
      · rw [e, upd_same]
      · rw [upd_ne _ _ e, c2 69 (by decide)]
        exact h2 k (by omega)
theorem Inv.looksV {W : ruWy} {A B C : ruA} (hI : Inv W A) (h1 : lkV A B) (h2 : lkP B C) : Inv W C := by
  have e : ∀ k, k ≠ 65 ∧ k ≠ 66 ∧ k ≠ 68 ∧ k ≠ 69 ∧ k ≠ 70 ∧ k ≠ 83 ∧ k ≠ 93 → C.1 k = A.1 k := fun k hk => (h2.1 k hk.2.2.2.2.2).trans (h1 k ⟨hk.1, hk.2.1, hk.2.2.1, hk.2.2.2.1, hk.2.2.2.2.1⟩)
  have e8 : ∀ j, j ≠ 10 ∧ j ≠ 11 ∧ j ≠ 12 → C.1 83 j = A.1 83 j := fun j hj => (h2.2 j hj).trans (by rw [h1 83 (by decide)])
  exact hI.same ⟨fun k hk => e k (by omega), ⟨by rw [e 0 (by decide)], by rw [e 0 (by decide)], by rw [e 0 (by decide)]⟩, ⟨e8 _ (by decide), e8 _ (by decide), e8 _ (by decide)⟩⟩ ⟨fun k hk => e k (by omega), e 84 (by decide)⟩
theorem way_of {A : ruA} (hw : CBw wyW A.1 1 (A.1 84)) {w : Nat} (h : w < cn (A.1 84) 3) (h6 : cn (A.1 84) 3 ≤ 6) : ∃ n E, wayC A w n E ∧ wayN (A.1 84) w E := by
  obtain ⟨n, E, g1, g2, g3, g4, g5, g6⟩ := hw w h
  refine ⟨n, E, ⟨by omega, g1, g2, fun B tc mc b1 b2 b3 b4 b5 => g6 B tc mc b1 b2 b3 b4 (fun i hi => ?_)⟩, g3, ?_, fun i hi => ?_⟩
  · rw [b5 i hi]
    unfold cutF
    rw [if_pos (by omega), show 1 + 15 + w = 16 + w by omega]
  · unfold cutF at g4
    rw [if_pos (by decide)] at g4
    exact g4
  · have := g5 i hi
    unfold cutF at this
    rw [if_pos (by omega)] at this
    rw [Nat.add_assoc]
    exact this
theorem op_says {A : ruA} (hI : Inv wyW A) (x1 x2 x3 : Int32) : Op2 wyW (fX10_says x1 x2 x3) (fX11_says x1 x2 x3) A := by
  obtain ⟨⟨hn, hq, hc, hs, hb, hr, hh, hf, hw⟩, hK, hMf, hMt, hMs⟩ := id hI
  obtain ⟨m0, m1, m2, m3, m4, m5⟩ := id hn
  have q0 : A.1 2 0 = A.1 84 0 := m0.1
  have q1 : A.1 2 1 = A.1 84 1 := m1.1
  have q2 : A.1 2 2 = A.1 84 2 := m2.1
  have q3 : A.1 14 0 = A.1 84 3 := m3.1
  have q4 : A.1 23 0 = A.1 84 4 := m4.1
  have q5 : A.1 29 0 = A.1 84 5 := m5.1
  have sh : shC A (A.1 84) := ⟨hq, hs, hb, hr⟩
  have ro : roC A (A.1 84) (cn (A.1 84) 2) := ⟨sh, fun c h => (hc c h).1, q2.trans m2.2.1, m2.2.2⟩
  have hkd : ∀ s, s < 144 → ∀ q, q < 12 → 0 ≤ A.1 84 (141 + 28 * s + q) ∧ A.1 84 (141 + 28 * s + q) ≤ 7 := fun s hs9 q hq9 => (hb s hs9 q hq9).2.2.2
  by_cases h1 : 0 ≤ x1 ∧ x1 ≤ A.1 84 3 - 1
  · by_cases h2 : 0 ≤ x2 ∧ x2 ≤ A.1 84 1 - 1
    · by_cases h3 : 0 ≤ x3 ∧ x3 ≤ 5
      · obtain ⟨w, hw9, rfl⟩ := ch_of m3.2.1 (by omega) h1
        obtain ⟨r, hr9, rfl⟩ := ch_of m1.2.1 (by omega) h2
        obtain ⟨y, hy, rfl⟩ := yr_of h3
        obtain ⟨n, E, wC, wN⟩ := way_of hw hw9 m3.2.2
        have hle := cN_le (p := fun c => inR (A.1 84) (iN r) y c) (cn (A.1 84) 2)
        have hm24 := m2.2.2
        have g1 := c_has ro hy r
        by_cases hp : hsP (A.1 84) y (cn (A.1 84) 2) r
        · obtain ⟨B, bV, b2', b3⟩ := c_comes ro hy wC (iN r)
          have e84 : B.1 84 = A.1 84 := bV 84 (by decide)
          obtain ⟨C, cP, c2⟩ := r_worked (A := B) (M := fun k => vM (A.1 84) k (iN r) y (cn (A.1 84) 2)) hm24 e84 m2.2.1 hkd hy wC.1 wN.1 wN.2.1 wN.2.2 (fun _ _ => rfl) b3
          have hI2 : fX11_is (iN r) 1 B = some (b2 (0 ≤ iN r ∧ iN r ≤ A.1 84 1 - 1)) := by rw [e11_is1, e84]
          have hI3 : fX11_is (iN w) 3 B = some (b2 (0 ≤ iN w ∧ iN w ≤ A.1 84 3 - 1)) := by rw [e11_is3, e84]
          refine ⟨valW (A.1 84) E (iN r) y (cn (A.1 84) 2), B, C, ?_, ?_, hI.looksV bV cP⟩
          · unfold fX10_says
            rw [e10_isWay, Option.bind_some, q3, b2_pos h1, ite10, e10_isRoom, Option.bind_some, q1, b2_pos h2, ite10, e10_isYear, Option.bind_some, b2_pos h3, ite10, g1, Option.bind_some, b2_pos hp, ite10, b2', ruB2_some]
          · unfold fX11_says
            rw [hI3, Option.bind_some, b2_pos h1, ite10, hI2, Option.bind_some, b2_pos h2, ite10, e11_isYear, Option.bind_some, b2_pos h3, ite10, r_has hm24 e84 m2.2.1 hy, Option.bind_some, if_neg (show ¬ iN (cN (fun c => inR (A.1 84) (iN r) y c) (cn (A.1 84) 2)) = 0 by rw [eq0_iN (by omega)]; omega), c2, ruB2_some]
        · have g2 : fX11_sheetsOf (iN r) (iN y) (fndC A 3) = some 0 := by
            rw [r_has hm24 (fndC_84 A 3) m2.2.1 hy, show cN (fun c => inR (A.1 84) (iN r) y c) (cn (A.1 84) 2) = 0 by omega]
            rfl
          refine Op_find hI (-1000004) 3 (by decide) (by decide) ?_ ?_
          · simp only [fX10_says, e10_isWithin, e10_isQuestion, e10_isYear, e10_isKind, e10_isSlip, e10_isRoom, e10_isChild, e10_isWay, e10_areHours, q1, q2, q3, Option.bind_some, ite00, ite10, if_true, if_false, b2_pos h1, b2_pos h2, b2_pos h3, g1, b2_neg hp]
          · simp only [fX11_says, e11_within, e11_isQuestion, e11_isYear, e11_isSlip, e11_is1f, e11_is2f, e11_is3f, e11_areHours, fndC_84, fndC_83, fndC_88, fndC_89, fndC_90, Option.bind_some, ite00, ite10, if_true, if_false, b2_pos h1, b2_pos h2, b2_pos h3, g2]
      · refine Op_find hI (-1000001) 0 (by decide) (by decide) ?_ ?_
        · simp only [fX10_says, e10_isWithin, e10_isQuestion, e10_isYear, e10_isKind, e10_isSlip, e10_isRoom, e10_isChild, e10_isWay, e10_areHours, q1, q2, q3, Option.bind_some, b2_pos h1, b2_pos h2, b2_neg h3, ite00, ite10, if_true, if_false]
        · simp only [fX11_says, e11_within, e11_isQuestion, e11_isYear, e11_isSlip, e11_is1f, e11_is2f, e11_is3f, e11_areHours, fndC_84, fndC_83, fndC_88, fndC_89, fndC_90, Option.bind_some, b2_pos h1, b2_pos h2, b2_neg h3, ite00, ite10, if_true, if_false]
    · refine Op_find hI (-1000001) 0 (by decide) (by decide) ?_ ?_
      · simp only [fX10_says, e10_isWithin, e10_isQuestion, e10_isYear, e10_isKind, e10_isSlip, e10_isRoom, e10_isChild, e10_isWay, e10_areHours, q1, q2, q3, Option.bind_some, b2_pos h1, b2_neg h2, ite00, ite10, if_true, if_false]
      · simp only [fX11_says, e11_within, e11_isQuestion, e11_isYear, e11_isSlip, e11_is1f, e11_is2f, e11_is3f, e11_areHours, fndC_84, fndC_83, fndC_88, fndC_89, fndC_90, Option.bind_some, b2_pos h1, b2_neg h2, ite00, ite10, if_true, if_false]
  · refine Op_find hI (-1000001) 0 (by decide) (by decide) ?_ ?_
    · simp only [fX10_says, e10_isWithin, e10_isQuestion, e10_isYear, e10_isKind, e10_isSlip, e10_isRoom, e10_isChild, e10_isWay, e10_areHours, q1, q2, q3, Option.bind_some, b2_neg h1, ite00, ite10, if_true, if_false]
    · simp only [fX11_says, e11_within, e11_isQuestion, e11_isYear, e11_isSlip, e11_is1f, e11_is2f, e11_is3f, e11_areHours, fndC_84, fndC_83, fndC_88, fndC_89, fndC_90, Option.bind_some, b2_neg h1, ite00, ite10, if_true, if_false]
theorem c_flag {A : ruA} {N : Nat → Int32} {m R : Nat} (h : roC A N m) (hR : R ≤ 6) (e1 : A.1 2 1 = iN R) {y w n : Nat} {E : List Int32} (hy : y < 6) (hW : wayC A w n E) : ∃ B, lkV A B ∧ fX10_flaggedBy (iN w) (iN y) A = some (sB (fun r => hsP N y m r ∧ ¬ valW N E (iN r) y m = 0) R, B) := by
  unfold fX10_flaggedBy
  refine loop_gen (fun f r (s : Int32 × ruA) => fX10_flaggedBy_l5 (iN w) (iN y) (fun v6 A7 => some (v6, A7)) f s.1 (iN r) s.2) R (fun r s => s.1 = sB (fun r => hsP N y m r ∧ ¬ valW N E (iN r) y m = 0) r ∧ lkV A s.2) (fun o => ∃ B, lkV A B ∧ o = some (sB (fun r => hsP N y m r ∧ ¬ valW N E (iN r) y m = 0) R, B)) ?_ ?_ ruF 0 (0, A) (Nat.zero_le _) (by rw [ruF_eq]; omega) ⟨rfl, lkV_refl A⟩
  · rintro f s ⟨h1, h2⟩
    refine ⟨s.2, h2, ?_⟩
    show fX10_flaggedBy_l5 (iN w) (iN y) (fun v6 A7 => some (v6, A7)) (f + 1) s.1 (iN R) s.2 = _
    rw [fX10_flaggedBy_l5, h2 2 (by decide), e1, if_pos ((iN_le (by omega) (by omega)).mpr (Nat.le_refl _)), h1]
  · rintro f r s hr ⟨h1, h2⟩
    right
    show ∃ s' : Int32 × ruA, fX10_flaggedBy_l5 (iN w) (iN y) (fun v6 A7 => some (v6, A7)) (f + 1) s.1 (iN r) s.2 = _ ∧ s'.1 = sB (fun r => hsP N y m r ∧ ¬ valW N E (iN r) y m = 0) r ||| (if hsP N y m r ∧ ¬ valW N E (iN r) y m = 0 then (1 : Int32) <<< (iN r &&& 31) else 0) ∧ _
    rw [fX10_flaggedBy_l5, h2 2 (by decide), e1, if_neg (by rw [iN_le (by omega) (by omega)]; omega), c_has (roC_lkV h h2) hy r, Option.bind_some, b2_ne, iN_add1]
    by_cases c1 : hsP N y m r
    · obtain ⟨B, b1, b2', -⟩ := c_comes (roC_lkV h h2) hy (wayC_lk hW h2) (iN r)
      rw [if_pos c1, b2', ruB2_some]
      by_cases c2 : valW N E (iN r) y m = 0
      · rw [if_pos c2, ruB2_some]
        exact ⟨(s.1, B), rfl, by rw [if_neg (fun h => h.2 c2), Int32.or_zero, h1], lkV_trans h2 b1⟩
      · rw [if_neg c2, ruB2_some]
        exact ⟨(s.1 ||| (1 : Int32) <<< (iN r &&& 31), B), rfl, by rw [if_pos ⟨c1, c2⟩, h1], lkV_trans h2 b1⟩
    · rw [if_neg c1, ruB2_some]
      exact ⟨s, rfl, by rw [if_neg (fun h => c1 h.1), Int32.or_zero, h1], h2⟩
/-- what judges asks of a room -/
def pJ (x3 : Int32) (fl pu : Bool) : Bool := if x3 = 0 then fl else if x3 = 1 then fl && !pu else !fl && pu
abbrev jgP (N : Nat → Int32) (E : List Int32) (x3 : Int32) (y m r : Nat) : Prop := hsP N y m r ∧ pJ x3 (decide (¬ valW N E (iN r) y m = 0)) (decide (quP N y m r)) = true
theorem r_judge {B : ruA} {N : Nat → Int32} {m R : Nat} (hm : m ≤ 24) (hR : R ≤ 6) (e84 : B.1 84 = N) (e2 : N 2 = iN m) (e1 : N 1 = iN R) (hkd : ∀ s, s < 144 → ∀ q, q < 12 → 0 ≤ N (141 + 28 * s + q) ∧ N (141 + 28 * s + q) ≤ 7) {y w : Nat} {E : List Int32} (hy : y < 6) (hw : w < 6) (wN : wayN N w E) (hE : ∀ r, evs (fun k => vM N k (iN r) y m) E [] = some [valW N E (iN r) y m]) (x3 : Int32) : ∃ C, lkP B C ∧ fX11_judges_l38 (iN w) (iN y) x3 (fun v19 A20 => some (v19, A20)) ruF 0 0 B = some (sB (fun r => jgP N E x3 y m r) R, C) := by
  refine loop_gen (fun f r (s : Int32 × ruA) => fX11_judges_l38 (iN w) (iN y) x3 (fun v19 A20 => some (v19, A20)) f s.1 (iN r) s.2) R (fun r s => s.1 = sB (fun r => jgP N E x3 y m r) r ∧ lkP B s.2) (fun o => ∃ C, lkP B C ∧ o = some (sB (fun r => jgP N E x3 y m r) R, C)) ?_ ?_ ruF 0 (0, B) (Nat.zero_le _) (by rw [ruF_eq]; omega) ⟨rfl, lkP_refl B⟩
  · rintro f s ⟨h1, h2⟩
    refine ⟨s.2, h2, ?_⟩
    show fX11_judges_l38 (iN w) (iN y) x3 (fun v19 A20 => some (v19, A20)) (f + 1) s.1 (iN R) s.2 = _
    rw [fX11_judges_l38, l1A, h2.1 84 (by decide), e84, e1, Option.bind_some, if_pos ((iN_le (by omega) (by omega)).mpr (Nat.le_refl _)), h1]
  · rintro f r s hr ⟨h1, h2⟩
    right
    have e84s : s.2.1 84 = N := (h2.1 84 (by decide)).trans e84
    have hle := cN_le (p := fun c => inR N (iN r) y c) m
    show ∃ s' : Int32 × ruA, fX11_judges_l38 (iN w) (iN y) x3 (fun v19 A20 => some (v19, A20)) (f + 1) s.1 (iN r) s.2 = _ ∧ s'.1 = sB (fun r => jgP N E x3 y m r) r ||| (if jgP N E x3 y m r then (1 : Int32) <<< (iN r &&& 31) else 0) ∧ _
    rw [fX11_judges_l38, l1A, e84s, e1, Option.bind_some, if_neg (by rw [iN_le (by omega) (by omega)]; omega), r_has hm e84s e2 hy, Option.bind_some, iN_add1]
    by_cases c1 : hsP N y m r
    · obtain ⟨C, c2, c3⟩ := r_worked (A := s.2) (M := fun k => vM N k (iN r) y m) hm e84s e2 hkd hy hw wN.1 wN.2.1 wN.2.2 (fun _ _ => rfl) (hE r)
      have e84c : C.1 84 = N := (c2.1 84 (by decide)).trans e84s
      obtain ⟨D, d2, d3⟩ := r_of (A := C) hm (by rw [e84c]; exact e2) (by rw [e84c]; exact hkd) hy (k := 6) (by decide) (iN r)
      rw [e84c] at d2
      have d2 : fX11_measured (iN r) (iN y) 6 C = some (vM N 6 (iN r) y m, D) := d2
      have hfin : ∀ g : Int32, g = (if jgP N E x3 y m r then (1 : Int32) <<< (iN r &&& 31) else 0) → ∃ s' : Int32 × ruA, fX11_judges_l38 (iN w) (iN y) x3 (fun v19 A20 => some (v19, A20)) f (s.1 ||| g) (iN (r + 1)) D = fX11_judges_l38 (iN w) (iN y) x3 (fun v19 A20 => some (v19, A20)) f s'.1 (iN (r + 1)) s'.2 ∧ s'.1 = sB (fun r => jgP N E x3 y m r) r ||| (if jgP N E x3 y m r then (1 : Int32) <<< (iN r &&& 31) else 0) ∧ lkP B s'.2 := by
        intro g hg
        exact ⟨(s.1 ||| g, D), rfl, by rw [h1, hg], lkP_trans h2 (lkP_trans c2 (lkP_R d3))⟩
      rw [if_neg (by rw [le0_iN (by omega)]; omega), c3, ruB2_some, ite_some, Option.bind_some, d2, ruB2_some, ite_some, Option.bind_some]
      have hjg : ∀ fl pu b, decide (¬ valW N E (iN r) y m = 0) = fl → decide (quP N y m r) = pu → pJ x3 fl pu = b → (if jgP N E x3 y m r then (1 : Int32) <<< (iN r &&& 31) else 0) = if b = true then (1 : Int32) <<< (iN r &&& 31) else 0 := by
        intro fl pu b hf9 hp9 hb9
        subst hf9
        subst hp9
        cases b with
        | true => rw [if_pos ⟨c1, hb9⟩, if_pos rfl]
        | false => rw [if_neg (fun h => by
            have h9 := h.2
            rw [hb9] at h9
            cases h9), if_neg (by decide)]
      by_cases cv : valW N E (iN r) y m = 0
      · skip
        rw [if_pos cv]
        by_cases cq : vM N 6 (iN r) y m ≤ 0
        · skip
          rw [if_pos cq]
          by_cases x0 : x3 = 0
          · rw [if_pos x0, if_pos rfl, Option.bind_some, ruB2_some]
            exact hfin _ (by rw [hjg false false false (decide_eq_false (fun h => h cv)) (decide_eq_false (fun h => h cq)) (by unfold pJ; rw [if_pos x0])]; rfl)
          · by_cases x1 : x3 = 1
            · rw [if_neg x0, if_pos x1, if_pos rfl, Option.bind_some, ruB2_some]
              exact hfin _ (by rw [hjg false false false (decide_eq_false (fun h => h cv)) (decide_eq_false (fun h => h cq)) (by unfold pJ; rw [if_neg x0, if_pos x1]; rfl)]; rfl)
            · rw [if_neg x0, if_neg x1, if_pos rfl, if_pos rfl, Option.bind_some, ruB2_some]
              exact hfin _ (by rw [hjg false false false (decide_eq_false (fun h => h cv)) (decide_eq_false (fun h => h cq)) (by unfold pJ; rw [if_neg x0, if_neg x1]; rfl)]; rfl)
        · skip
          rw [if_neg cq]
          by_cases x0 : x3 = 0
          · rw [if_pos x0, if_pos rfl, Option.bind_some, ruB2_some]
            exact hfin _ (by rw [hjg false true false (decide_eq_false (fun h => h cv)) (decide_eq_true cq) (by unfold pJ; rw [if_pos x0])]; rfl)
          · by_cases x1 : x3 = 1
            · rw [if_neg x0, if_pos x1, if_pos rfl, Option.bind_some, ruB2_some]
              exact hfin _ (by rw [hjg false true false (decide_eq_false (fun h => h cv)) (decide_eq_true cq) (by unfold pJ; rw [if_neg x0, if_pos x1]; rfl)]; rfl)
            · rw [if_neg x0, if_neg x1, if_pos rfl, if_neg (by decide), Option.bind_some, ruB2_some]
              exact hfin _ (by rw [hjg false true true (decide_eq_false (fun h => h cv)) (decide_eq_true cq) (by unfold pJ; rw [if_neg x0, if_neg x1]; rfl)]; rfl)
      · skip
        rw [if_neg cv]
        by_cases cq : vM N 6 (iN r) y m ≤ 0
        · skip
          rw [if_pos cq]
          by_cases x0 : x3 = 0
          · rw [if_pos x0, if_neg (by decide), Option.bind_some, ruB2_some]
            exact hfin _ (by rw [hjg true false true (decide_eq_true cv) (decide_eq_false (fun h => h cq)) (by unfold pJ; rw [if_pos x0])]; rfl)
          · by_cases x1 : x3 = 1
            · rw [if_neg x0, if_pos x1, if_neg (by decide), if_pos rfl, Option.bind_some, ruB2_some]
              exact hfin _ (by rw [hjg true false true (decide_eq_true cv) (decide_eq_false (fun h => h cq)) (by unfold pJ; rw [if_neg x0, if_pos x1]; rfl)]; rfl)
            · rw [if_neg x0, if_neg x1, if_neg (by decide), Option.bind_some, ruB2_some]
              exact hfin _ (by rw [hjg true false false (decide_eq_true cv) (decide_eq_false (fun h => h cq)) (by unfold pJ; rw [if_neg x0, if_neg x1]; rfl)]; rfl)
        · skip
          rw [if_neg cq]
          by_cases x0 : x3 = 0
          · rw [if_pos x0, if_neg (by decide), Option.bind_some, ruB2_some]
            exact hfin _ (by rw [hjg true true true (decide_eq_true cv) (decide_eq_true cq) (by unfold pJ; rw [if_pos x0])]; rfl)
          · by_cases x1 : x3 = 1
            · rw [if_neg x0, if_pos x1, if_neg (by decide), if_neg (by decide), Option.bind_some, ruB2_some]
              exact hfin _ (by rw [hjg true true false (decide_eq_true cv) (decide_eq_true cq) (by unfold pJ; rw [if_neg x0, if_pos x1]; rfl)]; rfl)
            · rw [if_neg x0, if_neg x1, if_neg (by decide), Option.bind_some, ruB2_some]
              exact hfin _ (by rw [hjg true true false (decide_eq_true cv) (decide_eq_true cq) (by unfold pJ; rw [if_neg x0, if_neg x1]; rfl)]; rfl)
    · rw [if_pos (by rw [le0_iN (by omega)]; omega), ruB2_some]
      exact ⟨s, rfl, by rw [if_neg (fun h => c1 h.1), Int32.or_zero, h1], h2⟩
theorem op_judges {A : ruA} (hI : Inv wyW A) (x1 x2 x3 : Int32) : Op2 wyW (fX10_judges x1 x2 x3) (fX11_judges x1 x2 x3) A := by
  obtain ⟨⟨hn, hq, hc, hs, hb, hr, hh, hf, hw⟩, hK, hMf, hMt, hMs⟩ := id hI
  obtain ⟨m0, m1, m2, m3, m4, m5⟩ := id hn
  have q0 : A.1 2 0 = A.1 84 0 := m0.1
  have q1 : A.1 2 1 = A.1 84 1 := m1.1
  have q2 : A.1 2 2 = A.1 84 2 := m2.1
  have q3 : A.1 14 0 = A.1 84 3 := m3.1
  have q4 : A.1 23 0 = A.1 84 4 := m4.1
  have q5 : A.1 29 0 = A.1 84 5 := m5.1
  have sh : shC A (A.1 84) := ⟨hq, hs, hb, hr⟩
  have ro : roC A (A.1 84) (cn (A.1 84) 2) := ⟨sh, fun c h => (hc c h).1, q2.trans m2.2.1, m2.2.2⟩
  have hkd : ∀ s, s < 144 → ∀ q, q < 12 → 0 ≤ A.1 84 (141 + 28 * s + q) ∧ A.1 84 (141 + 28 * s + q) ≤ 7 := fun s hs9 q hq9 => (hb s hs9 q hq9).2.2.2
  by_cases h1 : 0 ≤ x1 ∧ x1 ≤ A.1 84 3 - 1
  · by_cases h2 : 0 ≤ x2 ∧ x2 ≤ 5
    · by_cases h3 : 0 ≤ x3 ∧ x3 ≤ 2
      · obtain ⟨w, hw9, rfl⟩ := ch_of m3.2.1 (by omega) h1
        obtain ⟨y, hy, rfl⟩ := yr_of h2
        obtain ⟨n, E, wC, wN⟩ := way_of hw hw9 m3.2.2
        obtain ⟨-, e1, hR6⟩ := m1
        obtain ⟨-, e2, hm24⟩ := m2
        generalize cn (A.1 84) 1 = R at *
        generalize cn (A.1 84) 2 = m at *
        obtain ⟨B, bV, b2'⟩ := c_flag ro hR6 (q1.trans e1) hy wC
        have e84 : B.1 84 = A.1 84 := bV 84 (by decide)
        have hE : ∀ r, evs (fun k => vM (A.1 84) k (iN r) y m) E [] = some [valW (A.1 84) E (iN r) y m] := fun r => by
          obtain ⟨-, -, -, b3⟩ := c_comes ro hy wC (iN r)
          exact b3
        obtain ⟨C, cP, c2⟩ := r_judge (B := B) hm24 hR6 e84 e2 e1 hkd hy wC.1 wN hE x3
        have g4 := c_puts (roC_lkV ro bV) hR6 (by rw [bV 2 (by decide)]; exact q1.trans e1) hy
        have hI3 : fX11_is (iN w) 3 B = some (b2 (0 ≤ iN w ∧ iN w ≤ A.1 84 3 - 1)) := by rw [e11_is3, e84]
        refine ⟨_, B, C, ?_, (show _ = some (sB (fun r => jgP (A.1 84) E x3 y m r) R, C) from ?_), hI.looksV bV cP⟩
        · unfold fX10_judges
          rw [e10_isWay, Option.bind_some, q3, b2_pos h1, ite10, e10_isYear, Option.bind_some, b2_pos h2, ite10, e10_isWithin, Option.bind_some, b2_pos h3, ite10, b2', ruB2_some, g4, ruB2_some]
          by_cases x0 : x3 = 0
          · rw [if_pos x0]
            congr 2
            refine bt_ext fun j _ => ?_
            rw [Bool.eq_iff_iff, bt_sB_iff (by omega), bt_sB_iff (by omega)]
            unfold jgP pJ
            rw [if_pos x0, decide_eq_true_eq]
          · rw [if_neg x0]
            by_cases x1 : x3 = 1
            · rw [if_pos x1]
              congr 2
              refine bt_ext fun j hj => ?_
              rw [Bool.eq_iff_iff, bt_and, Bool.and_eq_true, bt_not hj, bt_sB_iff (by omega), bt_sB_iff (by omega), bt_sB_iff (by omega)]
              unfold jgP pJ
              rw [if_neg x0, if_pos x1, Bool.and_eq_true, decide_eq_true_eq, Bool.not_eq_true', decide_eq_false_iff_not]
              constructor
              · rintro ⟨⟨a, b, c⟩, d⟩
                exact ⟨a, b, c, fun q => d ⟨a, q⟩⟩
              · rintro ⟨a, b, c, d⟩
                exact ⟨⟨a, b, c⟩, fun q => d q.2⟩
            · rw [if_neg x1]
              congr 2
              refine bt_ext fun j hj => ?_
              rw [Bool.eq_iff_iff, bt_and, Bool.and_eq_true, bt_not hj, bt_sB_iff (by omega), bt_sB_iff (by omega), bt_sB_iff (by omega)]
              unfold jgP pJ
              rw [if_neg x0, if_neg x1, Bool.and_eq_true, decide_eq_true_eq, Bool.not_eq_true', decide_eq_false_iff_not]
              constructor
              · rintro ⟨⟨a, b⟩, c⟩
                exact ⟨a, no_puts b, fun q => c ⟨a, no_puts b, q⟩, b⟩
              · rintro ⟨a, b, c, d⟩
                exact ⟨⟨a, d⟩, fun q => c q.2.2⟩
        · unfold fX11_judges
          rw [hI3, Option.bind_some, b2_pos h1, ite10, e11_isYear, Option.bind_some, b2_pos h2, ite10, e11_within, Option.bind_some, b2_pos h3, ite10, c2]
      · refine Op_find hI (-1000001) 0 (by decide) (by decide) ?_ ?_
        · simp only [fX10_judges, e10_isWithin, e10_isQuestion, e10_isYear, e10_isKind, e10_isSlip, e10_isRoom, e10_isChild, e10_isWay, e10_areHours, q1, q2, q3, Option.bind_some, b2_pos h1, b2_pos h2, b2_neg h3, ite00, ite10, if_true, if_false]
        · simp only [fX11_judges, e11_within, e11_isQuestion, e11_isYear, e11_isSlip, e11_is1f, e11_is2f, e11_is3f, e11_areHours, fndC_84, fndC_83, fndC_88, fndC_89, fndC_90, Option.bind_some, b2_pos h1, b2_pos h2, b2_neg h3, ite00, ite10, if_true, if_false]
    · refine Op_find hI (-1000001) 0 (by decide) (by decide) ?_ ?_
      · simp only [fX10_judges, e10_isWithin, e10_isQuestion, e10_isYear, e10_isKind, e10_isSlip, e10_isRoom, e10_isChild, e10_isWay, e10_areHours, q1, q2, q3, Option.bind_some, b2_pos h1, b2_neg h2, ite00, ite10, if_true, if_false]
      · simp only [fX11_judges, e11_within, e11_isQuestion, e11_isYear, e11_isSlip, e11_is1f, e11_is2f, e11_is3f, e11_areHours, fndC_84, fndC_83, fndC_88, fndC_89, fndC_90, Option.bind_some, b2_pos h1, b2_neg h2, ite00, ite10, if_true, if_false]
  · refine Op_find hI (-1000001) 0 (by decide) (by decide) ?_ ?_
    · simp only [fX10_judges, e10_isWithin, e10_isQuestion, e10_isYear, e10_isKind, e10_isSlip, e10_isRoom, e10_isChild, e10_isWay, e10_areHours, q1, q2, q3, Option.bind_some, b2_neg h1, ite00, ite10, if_true, if_false]
    · simp only [fX11_judges, e11_within, e11_isQuestion, e11_isYear, e11_isSlip, e11_is1f, e11_is2f, e11_is3f, e11_areHours, fndC_84, fndC_83, fndC_88, fndC_89, fndC_90, Option.bind_some, b2_neg h1, ite00, ite10, if_true, if_false]
