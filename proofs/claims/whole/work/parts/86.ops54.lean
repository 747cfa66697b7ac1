/-! LEVEL 2: both readers: a part -/
def rPar (e : ruA → Option ruA) (A : ruA) : Option ruA :=
  (fX11_isSign (40 : Int32) A).bind fun v5 =>
  ((if v5 = 0 then
  some (0 : Int32)
else
  (if (6 : Int32) ≤ (A.1 83 18) then
  some (0 : Int32)
else
  some (1 : Int32)))).bind fun v6 =>
  (fX11_need v6 A).bind fun A7 =>
  (some (ruset A7 83 18 ((A7.1 83 18) + (1 : Int32)))).bind fun A8 =>
  ((if (A8.1 83 17) = 0 then
  (e A8).bind fun A10 =>
  some A10
else
  some A8)).bind fun A9 =>
  (fX11_isSign (41 : Int32) A9).bind fun v11 =>
  (fX11_need v11 A9).bind fun A12 =>
  (some (ruset A12 83 18 ((A12.1 83 18) - (1 : Int32)))).bind fun A13 =>
  some A13
def rNam (v4 : Int32) (A : ruA) : Option ruA := (fX11_emit ((10000 : Int32) + v4) A).bind fun A14 => (fX11_need (1 : Int32) A14).bind fun A15 => some A15
theorem part_eq (e : ruA → Option ruA) (A : ruA) : fX11_part e A = fX11_part_l4 A (fun v4 => if A.1 83 17 = 0 then (if A.1 83 14 = (2 : Int32) then (if (4 : Int32) < A.1 83 16 - A.1 83 15 then (if v4 < 0 then rPar e A else rNam v4 A) else fX11_part_l73 e A (fun v39 => (fX11_emit v39 A).bind fun A40 => (fX11_need (1 : Int32) A40).bind fun A41 => some A41) ruF (0 : Int32) (A.1 83 15)) else (if v4 < 0 then rPar e A else rNam v4 A)) else (if v4 < 0 then rPar e A else rNam v4 A)) ruF (-1 : Int32) (0 : Int32) := rfl
theorem back18 (G : Nat → Int32) (x : Int32) (h : G 18 = x) : upd (upd G 18 (x + 1)) 18 (x + 1 - 1) = G := by
  rw [upd_twoT, Int32.add_sub_cancel]
  exact upd_selfT h
theorem rPar_bad (e : ruA → Option ruA) (B : ruA) {G H : Nat → Int32} (h : G 17 = 1) : rPar e (stP B G H) = some (stP B G H) := by
  have h17 : (upd G 18 (G 18 + 1)) 17 = 1 := by rw [upd_ne _ _ (by decide)]; exact h
  unfold rPar
  rw [p_signB B h, Option.bind_some, if_pos rfl, Option.bind_some, p_needB B h, Option.bind_some, stP_83, stP_set, Option.bind_some, stP_83, h17, if_neg (by decide), Option.bind_some, p_signB B h17, Option.bind_some, p_needB B h17, Option.bind_some, stP_83, upd_same, stP_set, Option.bind_some, back18 G _ rfl]
theorem rPar_fail (e : ruA → Option ruA) {B : ruA} {T : Nat → Int32} {n : Nat} (hb : bsR B T n) (hn : n ≤ 100) {G H : Nat → Int32} {s d : Nat} (h : goodR T n G s) (hd : d ≤ 6) (h18 : G 18 = iN d) (hc : ¬ (tG T n s = 40 ∧ d < 6)) : rPar e (stP B G H) = some (stP B (upd G 17 1) H) ∧ badR (upd G 17 1) s := by
  obtain ⟨n1, n2⟩ := p_need0 (B := B) (H := H) h
  refine ⟨?_, n2⟩
  have hv : (if b2 (tG T n s = 40) = 0 then some (0 : Int32) else if (6 : Int32) ≤ iN d then some 0 else some 1) = some 0 := by
    rw [b2_ne]
    by_cases c1 : tG T n s = 40
    · rw [if_pos c1, li6, if_pos ((iN_le (by omega) (by omega)).mpr (by
        by_cases c2 : d < 6
        · exact absurd ⟨c1, c2⟩ hc
        · omega))]
    · rw [if_neg c1]
  have g18 : (upd G 17 1) 18 = iN d := by rw [upd_ne _ _ (by decide)]; exact h18
  have h17 : (upd (upd G 17 1) 18 (iN d + 1)) 17 = 1 := by rw [upd_ne _ _ (by decide), upd_same]
  unfold rPar
  rw [p_sign hb hn h (by decide), Option.bind_some, stP_83, h18, hv, Option.bind_some, n1, Option.bind_some, stP_83, g18, stP_set, Option.bind_some, stP_83, h17, if_neg (by decide), Option.bind_some, p_signB B h17, Option.bind_some, p_needB B h17, Option.bind_some, stP_83, upd_same, stP_set, Option.bind_some, back18 (upd G 17 1) _ g18]
theorem B11_part (e : ruA → Option ruA) : B11 (fX11_part e) := by
  intro B G H h
  rw [part_eq, p_l4B B h, stP_83, h, if_neg (by decide), if_pos (by decide), rPar_bad e B h]
theorem B4_part (e : Int32 → ruA → Option (Int32 × ruA)) (x : Int32) : B4 (fX4_part e x) := by
  intro A n F s h hs
  refine ⟨0, ?_⟩
  unfold fX4_part
  rw [stQ_70, h.2.1, if_neg (by decide), if_neg (by decide), q_failB h hs, Option.bind_some]
theorem code_ok {T : Nat → Int32} {n s : Nat} (hn : n ≤ 100) (hT : ∀ i, i < n → 0 ≤ T i ∧ T i ≤ 255) (h : tG T n s = 256) (M : Nat → Int32) (σ : List Int32) : stR1 M (tC T n s) σ = some (tV T n M s :: σ) := by
  have hs : s < n := tG_lt (by rw [h]; decide)
  have hns : ¬ n ≤ s := by omega
  have hle := tE_le (T := T) (Nat.le_of_lt hs)
  unfold tC tV
  by_cases c1 : isDi (T s)
  · rw [if_pos c1, if_pos c1]
    unfold tG at h
    rw [if_neg hns, if_pos c1] at h
    have h4 : tE T n s - s ≤ 4 := by
      by_cases c : tE T n s - s ≤ 4
      · exact c
      · rw [if_neg c] at h
        exact absurd h (by decide)
    obtain ⟨v, h5, h6⟩ := dg_small (T := T) (s := s) (tE T n s - s) (fun i hi => by
      have e : tE T n s = rnT (cDi T n) 101 s := by
        unfold tE
        rw [if_neg hns, if_pos c1]
      rw [e] at hi
      exact (cDi_iff.mp (rnT_in (c := cDi T n) 101 s (s + i) (by omega) (by omega))).2)
    rw [h5]
    have : 10 ^ (tE T n s - s) ≤ 10 ^ 4 := Nat.pow_le_pow_right (by decide) h4
    exact stR1_num M (by omega) σ
  · rw [if_neg c1, if_neg c1]
    unfold tG at h
    rw [if_neg hns, if_neg c1] at h
    by_cases c2 : isLe (T s)
    · rw [if_pos c2] at h
      cases hz : tI T s (tE T n s) 6 with
      | none =>
        rw [hz] at h
        exact absurd h (by decide)
      | some m => exact stR1_name M (tI_lt 6 hz) σ
    · rw [if_neg c2] at h
      have := (hT s hs).2
      rw [h] at this
      exact absurd this (by decide)
/-- what the reference does at a token that is a number or a name -/
theorem p_tok {B : ruA} {T : Nat → Int32} {n : Nat} (hb : bsR B T n) (hn : n ≤ 100) (hT : ∀ i, i < n → 0 ≤ T i ∧ T i ≤ 255) (e : ruA → Option ruA) {G H : Nat → Int32} {s : Nat} (h : goodR T n G s) (hG : tG T n s = 256) : fX11_part e (stP B G H) = (fX11_emit (tC T n s) (stP B G H)).bind fun A40 => (fX11_need (1 : Int32) A40).bind fun A41 => some A41 := by
  have hs : s < n := tG_lt (by rw [hG]; decide)
  have hns : ¬ n ≤ s := by omega
  have hle := tE_le (T := T) (Nat.le_of_lt hs)
  have hgt := tE_gt (T := T) hn hs
  rw [part_eq, p_l4 hb hn h (Nat.le_of_lt hs), stP_83, if_pos h.2, h.1.1, h.1.2.1, h.1.2.2, iN_sub (by omega)]
  unfold tS tC tW
  unfold tG at hG
  rw [if_neg hns] at hG ⊢
  by_cases c2 : isLe (T s)
  · have c1 : ¬ isDi (T s) := fun h => di_not_le h c2
    rw [if_neg c1, if_pos c2] at hG
    rw [if_pos c2, if_neg (show ¬ (1 : Int32) = 2 by decide), if_pos (show ¬ n ≤ s ∧ isLe (T s) from ⟨hns, c2⟩), if_neg c1]
    cases hz : tI T s (tE T n s) 6 with
    | none =>
      rw [hz] at hG
      exact absurd hG (by decide)
    | some m =>
      have hm := tI_lt 6 hz
      show (if iN m < 0 then _ else rNam (iN m) (stP B G H)) = _
      rw [if_neg (iN_lt_zero (by omega))]
      unfold rNam
      rw [li10000, iN_add]
      rfl
  · rw [if_neg c2] at hG ⊢
    by_cases c1 : isDi (T s)
    · rw [if_pos c1] at hG ⊢
      have h4 : tE T n s - s ≤ 4 := by
        by_cases c : tE T n s - s ≤ 4
        · exact c
        · rw [if_neg c] at hG
          exact absurd hG (by decide)
      rw [if_pos rfl, li4, if_neg (by rw [iN_lt (by omega) (by omega)]; omega), p_l73 hb hn h.1.2.2 (Nat.le_of_lt hgt) hle, if_pos c1]
    · rw [if_neg c1] at hG
      have := (hT s hs).2
      rw [hG] at this
      exact absurd this (by decide)
/-- what the reference does at any other token -/
theorem p_par {B : ruA} {T : Nat → Int32} {n : Nat} (hb : bsR B T n) (hn : n ≤ 100) (e : ruA → Option ruA) {G H : Nat → Int32} {s : Nat} (h : goodR T n G s) (hs : s ≤ n) (hG : ¬ tG T n s = 256) : fX11_part e (stP B G H) = rPar e (stP B G H) := by
  have hle := tE_le (T := T) hs
  rw [part_eq, p_l4 hb hn h hs, stP_83, if_pos h.2, h.1.1, h.1.2.1, h.1.2.2]
  have hnone : tW T n s 6 = none := by
    unfold tW
    by_cases c : ¬ n ≤ s ∧ isLe (T s)
    · rw [if_pos c]
      unfold tG at hG
      rw [if_neg c.1, if_neg (fun h => di_not_le h c.2), if_pos c.2] at hG
      cases hz : tI T s (tE T n s) 6 with
      | none => rfl
      | some m =>
        rw [hz] at hG
        exact absurd rfl hG
    · rw [if_neg c]
  rw [hnone]
  show (if tS T n s = 2 then (if (4 : Int32) < iN (tE T n s) - iN s then (if (-1 : Int32) < 0 then _ else _) else _) else (if (-1 : Int32) < 0 then _ else _)) = _
  rw [if_pos (show (-1 : Int32) < 0 by decide)]
  by_cases c2 : tS T n s = 2
  · rw [if_pos c2]
    unfold tS at c2
    by_cases c0 : n ≤ s
    · rw [if_pos c0] at c2
      exact absurd c2 (by decide)
    · rw [if_neg c0] at c2
      by_cases c1 : isLe (T s)
      · rw [if_pos c1] at c2
        exact absurd c2 (by decide)
      · rw [if_neg c1] at c2
        by_cases c3 : isDi (T s)
        · have hgt := tE_gt (T := T) hn (show s < n by omega)
          unfold tG at hG
          rw [if_neg c0, if_pos c3] at hG
          have h4 : ¬ tE T n s - s ≤ 4 := fun c => hG (if_pos c)
          rw [iN_sub (by omega), li4, if_pos ((iN_lt (by omega) (by omega)).mpr (by omega))]
        · rw [if_neg c3] at c2
          exact absurd c2 (by decide)
  · rw [if_neg c2]
theorem sim_part {T : Nat → Int32} {n : Nat} (hn : n ≤ 100) (hT : ∀ i, i < n → 0 ≤ T i ∧ T i ≤ 255) {e4 : Int32 → ruA → Option (Int32 × ruA)} {e11 : ruA → Option ruA} {d : Nat} (hd : d ≤ 6) (hE : d < 6 → Sim T n (e4 (iN (d + 1))) e11 (d + 1)) : Sim T n (fX4_part e4 (iN d)) (fX11_part e11) d := by
  intro s hs
  by_cases hG : tG T n s = 256
  · have hsn : s < n := tG_lt (by rw [hG]; decide)
    have hgt := nx_gt (T := T) hn hsn
    refine ⟨true, nx T n s, [tC T n s], by omega, nx_le hs, by show 1 + s ≤ _; omega, ?_, ?_⟩
    · intro A F hb hF
      obtain ⟨F1, b1, b2⟩ := q_next hb hn hT hF hs
      refine ⟨tV T n (A.1 A.2.2.2) s, F1, ?_, fun _ => ⟨b2, fun σ => ?_⟩, fun h => by cases h⟩
      · unfold fX4_part
        rw [stQ_70, hF.2.2.2.1, if_pos hG, b1, Option.bind_some, hF.2.2.2.2.2 hG]
      · rw [evs_one]
        exact code_ok hn hT hG _ σ
    · intro B G H k hb hR h6 h18 h20 hk
      obtain ⟨G1, b1, b2, b3⟩ := p_need1 (H := upd H k (tC T n s)) hb hn (goodR_20 hR (iN (k + 1))) (by rw [upd_ne _ _ (by decide)]; exact h6) hs (show ¬ (1 : Int32) = 0 by decide)
      refine ⟨G1, upd H k (tC T n s), ?_, fun j hj => ?_, ?_, ?_, stp_upd k H _, fun _ => b2, fun h => by cases h⟩
      · rw [p_tok hb hn hT e11 hR hG, p_emit B hR.2 (by omega) h20, Option.bind_some, b1, Option.bind_some]
      · rw [b3 j ⟨hj.1, hj.2.1, hj.2.2.1⟩, upd_ne _ _ hj.2.2.2.2.2]
      · rw [b3 18 (by decide), upd_ne _ _ (by decide)]
        exact h18
      · rw [b3 20 (by decide), upd_same]
        rfl
  · by_cases hP : tG T n s = 40 ∧ d < 6
    · have hsn : s < n := tG_lt (by rw [hP.1]; decide)
      have hgt := nx_gt (T := T) hn hsn
      obtain ⟨ok1, s2, E1, a1, a2, a3, a4, a5⟩ := hE hP.2 (nx T n s) (nx_le hs)
      have q4 : ∀ (A : ruA) (F F1 : Nat → Int32), good4 T n (A.1 A.2.2.2) F s → fX4_step (stQ A F) = some (stQ A F1) → fX4_part e4 (iN d) (stQ A F) = ruB2 (e4 (iN (d + 1)) (stQ A F1)) fun v3 A4 => ((if (A4.1 70 4) = (41 : Int32) then (fX4_step A4).bind fun A7 => some A7 else (fX4_fail A4).bind fun A6 => some A6)).bind fun A5 => some (v3, A5) := by
        intro A F F1 hF b1
        unfold fX4_part
        rw [stQ_70, hF.2.2.2.1, if_neg hG, if_pos hP.1, li6, if_pos ((iN_lt (by omega) (by omega)).mpr hP.2), b1, Option.bind_some, iN_add1]
      have q11 : ∀ (B : ruA) (G H G1 : Nat → Int32), bsR B T n → goodR T n G s → G 18 = iN d → fX11_need 1 (stP B G H) = some (stP B G1 H) → G1 17 = 0 → G1 18 = iN d → fX11_part e11 (stP B G H) = (e11 (stP B (upd G1 18 (iN (d + 1))) H)).bind fun A9 => (fX11_isSign (41 : Int32) A9).bind fun v11 => (fX11_need v11 A9).bind fun A12 => some (ruset A12 83 18 ((A12.1 83 18) - (1 : Int32))) := by
        intro B G H G1 hb hR h18 b1 b17 b18
        have h17 : (upd G1 18 (iN (d + 1))) 17 = 0 := by rw [upd_ne _ _ (by decide)]; exact b17
        rw [p_par hb hn e11 hR hs hG]
        unfold rPar
        rw [p_sign hb hn hR (by decide), Option.bind_some, b2_ne, if_pos hP.1, stP_83, h18, li6, if_neg (by rw [iN_le (by omega) (by omega)]; omega), Option.bind_some, b1, Option.bind_some, stP_83, b18, iN_add1, stP_set, Option.bind_some, stP_83, h17, if_pos rfl]
        cases e11 (stP B (upd G1 18 (iN (d + 1))) H) <;> rfl
      cases ok1 with
      | false =>
        refine ⟨false, s2, E1, by omega, a2, by omega, ?_, ?_⟩
        · intro A F hb hF
          obtain ⟨F1, b1, b2⟩ := q_next hb hn hT hF hs
          obtain ⟨v, F2, c1, -, c3⟩ := a4 A F1 hb b2
          have c3 := c3 rfl
          refine ⟨v, F2, ?_, fun h => (by cases h), fun _ => c3⟩
          rw [q4 A F F1 hF b1, c1, ruB2_some, stQ_70, c3.2.1, if_neg (by decide), q_failB c3 (by omega), Option.bind_some, Option.bind_some]
        · intro B G H k hb hR h6 h18 h20 hk
          obtain ⟨G1, b1, b2, b3⟩ := p_need1 (H := H) hb hn hR h6 hs (show ¬ (1 : Int32) = 0 by decide)
          obtain ⟨G2, H2, c1, c2, c3, c4, c5, -, c7⟩ := a5 B (upd G1 18 (iN (d + 1))) H k hb (goodR_18 b2 _) (by rw [upd_ne _ _ (by decide), b3 6 (by decide)]; exact h6) (upd_same _ _ _) (by rw [upd_ne _ _ (by decide), b3 20 (by decide)]; exact h20) (by omega)
          have c7 := c7 rfl
          refine ⟨upd G2 18 (iN d), H2, ?_, fun j hj => ?_, upd_same _ _ _, ?_, c5, fun h => (by cases h), fun _ => ⟨?_, ?_⟩⟩
          · rw [q11 B G H G1 hb hR h18 b1 b2.2 ((b3 18 (by decide)).trans h18), c1, Option.bind_some, p_signB B c7.2, Option.bind_some, p_needB B c7.2, Option.bind_some, stP_83, c3, stP_set, iN_sub1 (by omega)]
            rfl
          · rw [upd_ne _ _ hj.2.2.2.2.1, c2 j hj, upd_ne _ _ hj.2.2.2.2.1, b3 j ⟨hj.1, hj.2.1, hj.2.2.1⟩]
          · rw [upd_ne _ _ (by decide)]
            exact c4
          · rw [upd_ne _ _ (by decide)]
            exact c7.1
          · rw [upd_ne _ _ (by decide)]
            exact c7.2
      | true =>
        by_cases h41 : tG T n s2 = 41
        · have hsn2 : s2 < n := tG_lt (by rw [h41]; decide)
          have hgt2 := nx_gt (T := T) hn hsn2
          refine ⟨true, nx T n s2, E1, by omega, nx_le a2, by omega, ?_, ?_⟩
          · intro A F hb hF
            obtain ⟨F1, b1, b2⟩ := q_next hb hn hT hF hs
            obtain ⟨v, F2, c1, c2, -⟩ := a4 A F1 hb b2
            obtain ⟨c2, c3⟩ := c2 rfl
            obtain ⟨F3, d1, d2⟩ := q_next hb hn hT c2 a2
            refine ⟨v, F3, ?_, fun _ => ⟨d2, c3⟩, fun h => by cases h⟩
            rw [q4 A F F1 hF b1, c1, ruB2_some, stQ_70, c2.2.2.2.1, if_pos h41, d1, Option.bind_some, Option.bind_some]
          · intro B G H k hb hR h6 h18 h20 hk
            obtain ⟨G1, b1, b2, b3⟩ := p_need1 (H := H) hb hn hR h6 hs (show ¬ (1 : Int32) = 0 by decide)
            obtain ⟨G2, H2, c1, c2, c3, c4, c5, c6, -⟩ := a5 B (upd G1 18 (iN (d + 1))) H k hb (goodR_18 b2 _) (by rw [upd_ne _ _ (by decide), b3 6 (by decide)]; exact h6) (upd_same _ _ _) (by rw [upd_ne _ _ (by decide), b3 20 (by decide)]; exact h20) (by omega)
            have c6 := c6 rfl
            have k6 : G2 6 = iN n := by rw [c2 6 (by decide), upd_ne _ _ (by decide), b3 6 (by decide)]; exact h6
            obtain ⟨G3, d1, d2, d3⟩ := p_need1 (H := H2) hb hn c6 k6 a2 (show ¬ (1 : Int32) = 0 by decide)
            refine ⟨upd G3 18 (iN d), H2, ?_, fun j hj => ?_, upd_same _ _ _, ?_, c5, fun _ => goodR_18 d2 _, fun h => by cases h⟩
            · rw [q11 B G H G1 hb hR h18 b1 b2.2 ((b3 18 (by decide)).trans h18), c1, Option.bind_some, p_sign hb hn c6 (by decide), Option.bind_some, b2_pos h41, d1, Option.bind_some, stP_83, d3 18 (by decide), c3, stP_set, iN_sub1 (by omega)]
              rfl
            · rw [upd_ne _ _ hj.2.2.2.2.1, d3 j ⟨hj.1, hj.2.1, hj.2.2.1⟩, c2 j hj, upd_ne _ _ hj.2.2.2.2.1, b3 j ⟨hj.1, hj.2.1, hj.2.2.1⟩]
            · rw [upd_ne _ _ (by decide), d3 20 (by decide)]
              exact c4
        · refine ⟨false, s2, E1, by omega, a2, by omega, ?_, ?_⟩
          · intro A F hb hF
            obtain ⟨F1, b1, b2⟩ := q_next hb hn hT hF hs
            obtain ⟨v, F2, c1, c2, -⟩ := a4 A F1 hb b2
            obtain ⟨c2, -⟩ := c2 rfl
            obtain ⟨F3, d1, d2⟩ := q_fail (A := A) c2
            refine ⟨v, F3, ?_, fun h => (by cases h), fun _ => d2⟩
            rw [q4 A F F1 hF b1, c1, ruB2_some, stQ_70, c2.2.2.2.1, if_neg h41, d1, Option.bind_some, Option.bind_some]
          · intro B G H k hb hR h6 h18 h20 hk
            obtain ⟨G1, b1, b2, b3⟩ := p_need1 (H := H) hb hn hR h6 hs (show ¬ (1 : Int32) = 0 by decide)
            obtain ⟨G2, H2, c1, c2, c3, c4, c5, c6, -⟩ := a5 B (upd G1 18 (iN (d + 1))) H k hb (goodR_18 b2 _) (by rw [upd_ne _ _ (by decide), b3 6 (by decide)]; exact h6) (upd_same _ _ _) (by rw [upd_ne _ _ (by decide), b3 20 (by decide)]; exact h20) (by omega)
            have c6 := c6 rfl
            obtain ⟨d1, d2⟩ := p_need0 (B := B) (H := H2) c6
            refine ⟨upd (upd G2 17 1) 18 (iN d), H2, ?_, fun j hj => ?_, upd_same _ _ _, ?_, c5, fun h => (by cases h), fun _ => ⟨?_, ?_⟩⟩
            · rw [q11 B G H G1 hb hR h18 b1 b2.2 ((b3 18 (by decide)).trans h18), c1, Option.bind_some, p_sign hb hn c6 (by decide), Option.bind_some, b2_neg h41, d1, Option.bind_some, stP_83, upd_ne _ _ (show 18 ≠ 17 by decide), c3, stP_set, iN_sub1 (by omega)]
              rfl
            · rw [upd_ne _ _ hj.2.2.2.2.1, upd_ne _ _ hj.2.2.2.1, c2 j hj, upd_ne _ _ hj.2.2.2.2.1, b3 j ⟨hj.1, hj.2.1, hj.2.2.1⟩]
            · rw [upd_ne _ _ (by decide), upd_ne _ _ (by decide)]
              exact c4
            · rw [upd_ne _ _ (by decide)]
              exact d2.1
            · rw [upd_ne _ _ (by decide)]
              exact d2.2
    · refine ⟨false, s, [], Nat.le_refl _, hs, by show 0 + s ≤ s; omega, ?_, ?_⟩
      · intro A F hb hF
        obtain ⟨F1, b1, b2⟩ := q_fail (A := A) hF
        refine ⟨0, F1, ?_, fun h => (by cases h), fun _ => b2⟩
        unfold fX4_part
        rw [stQ_70, hF.2.2.2.1, if_neg hG]
        by_cases c1 : tG T n s = 40
        · have c2 : ¬ d < 6 := fun c => hP ⟨c1, c⟩
          rw [if_pos c1, li6, if_neg (by rw [iN_lt (by omega) (by omega)]; exact c2), b1, Option.bind_some]
        · rw [if_neg c1, b1, Option.bind_some]
      · intro B G H k hb hR h6 h18 h20 hk
        obtain ⟨b1, b2⟩ := rPar_fail (H := H) e11 hb hn hR hd h18 hP
        refine ⟨upd G 17 1, H, ?_, fun j hj => upd_ne _ _ hj.2.2.2.1, ?_, ?_, stp_nil k H, fun h => (by cases h), fun _ => b2⟩
        · rw [p_par hb hn e11 hR hs hG, b1]
        · rw [upd_ne _ _ (by decide)]
          exact h18
        · rw [upd_ne _ _ (by decide)]
          exact h20
