/-! LEVEL 2: both readers: sums, comparisons, and so on up -/
theorem ite_pair1 {c : Prop} [Decidable c] (a b : Int32) (A : ruA) : (if c then some (a, A) else some (b, A)) = some (if c then a else b, A) := by split <;> rfl
section UP
variable {T : Nat → Int32} {n : Nat}
theorem sim_sum (hn : n ≤ 100) (hT : ∀ i, i < n → 0 ≤ T i ∧ T i ≤ 255) {g4 : Int32 → ruA → Option (Int32 × ruA)} {g11 : ruA → Option ruA} {d : Nat} (hS : Sim T n (g4 (iN d)) g11 d) : Sim T n (fX4_sum g4 (iN d)) (fX11_sum g11) d := by
  have h45 : ¬ (45 : Int32) = 43 := by decide
  refine sim_chain hn hT (fun g => g = 43 ∨ g = 45) (fun g => if g = 43 then 10100 else 10101) (fun g a b => if g = 43 then a + b else a - b) (fX4_sum_l8 g4 (iN d) (fun v13 A14 => some (v13, A14))) (fX11_sum_l4 g11 (fun A14 => some A14)) hS (by decide) ?_ ?_ ?_ ?_ ?_ ?_
  · rintro g (rfl | rfl)
    · exact ⟨by decide, by decide, fun a b => rfl⟩
    · exact ⟨by decide, by decide, fun a b => rfl⟩
  · intro f v x A h
    rw [fX4_sum_l8, if_neg (fun e => h (Or.inl e)), if_neg (fun e => h (Or.inr e))]
    split <;> rfl
  · intro f v j A hj h
    rw [fX4_sum_l8, li100, if_neg (by rw [iN_le (by omega) (by omega)]; omega)]
    rcases h with h | h
    · simp only [h, eq_self, if_true, ite10, Option.bind_some, iN_add1]
    · simp only [h, h45, eq_self, if_true, if_false, ite00, Option.bind_some, iN_add1]
  · intro f B G H s hb hG h
    rw [fX11_sum_l4, p_sign hb hn hG (by decide), Option.bind_some, b2_neg (fun e => h (Or.inl e)), if_pos rfl, p_sign hb hn hG (by decide), Option.bind_some, b2_neg (fun e => h (Or.inr e)), if_pos rfl]
  · intro f B G H h
    rw [fX11_sum_l4, p_signB B h, Option.bind_some, if_pos rfl, p_signB B h, Option.bind_some, if_pos rfl]
  · intro f B G H s hb hG h
    rcases h with h | h
    · rw [fX11_sum_l4, p_sign hb hn hG (by decide), Option.bind_some, b2_pos h, ite10, Option.bind_some, ite10, Option.bind_some]
      simp only [h, eq_self, if_true]
    · rw [fX11_sum_l4, p_sign hb hn hG (by decide), Option.bind_some, b2_neg (show ¬ tG T n s = 43 by rw [h]; decide), ite00, p_sign hb hn hG (by decide), Option.bind_some, b2_pos h, ite10, Option.bind_some, ite00, Option.bind_some]
      simp only [h, h45, if_false]
theorem sim_both (hn : n ≤ 100) (hT : ∀ i, i < n → 0 ≤ T i ∧ T i ≤ 255) {g4 : Int32 → ruA → Option (Int32 × ruA)} {g11 : ruA → Option ruA} {d : Nat} (hS : Sim T n (g4 (iN d)) g11 d) : Sim T n (fX4_both g4 (iN d)) (fX11_both g11) d := by
  refine sim_chain hn hT (fun g => g = 38) (fun _ => 10105) (fun _ a b => if a = 0 then 0 else if b = 0 then 0 else 1) (fX4_both_l8 g4 (iN d) (fun v7 A8 => some (v7, A8))) (fX11_both_l4 g11 (fun A6 => some A6)) hS (by decide) ?_ ?_ ?_ ?_ ?_ ?_
  · rintro g rfl
    refine ⟨by decide, by decide, fun a b => ?_⟩
    show (if a = 0 then some (0 : Int32) else if b = 0 then some 0 else some 1) = some (if a = 0 then 0 else if b = 0 then 0 else 1)
    by_cases c1 : a = 0
    · rw [if_pos c1, if_pos c1]
    · rw [if_neg c1, if_neg c1]
      by_cases c2 : b = 0
      · rw [if_pos c2, if_pos c2]
      · rw [if_neg c2, if_neg c2]
  · intro f v x A h
    rw [fX4_both_l8, if_neg h]
    split <;> rfl
  · intro f v j A hj h
    rw [fX4_both_l8, li100, if_neg (by rw [iN_le (by omega) (by omega)]; omega), if_pos h]
    simp only [ite_some, Option.bind_some, iN_add1]
  · intro f B G H s hb hG h
    rw [fX11_both_l4, p_sign hb hn hG (by decide), Option.bind_some, b2_neg h, if_pos rfl]
  · intro f B G H h
    rw [fX11_both_l4, p_signB B h, Option.bind_some, if_pos rfl]
  · intro f B G H s hb hG h
    rw [fX11_both_l4, p_sign hb hn hG (by decide), Option.bind_some, b2_pos h, ite10]
theorem sim_either (hn : n ≤ 100) (hT : ∀ i, i < n → 0 ≤ T i ∧ T i ≤ 255) {g4 : Int32 → ruA → Option (Int32 × ruA)} {g11 : ruA → Option ruA} {d : Nat} (hS : Sim T n (g4 (iN d)) g11 d) : Sim T n (fX4_either g4 (iN d)) (fX11_either g11) d := by
  refine sim_chain hn hT (fun g => g = 124) (fun _ => 10106) (fun _ a b => if a = 0 then (if b = 0 then 0 else 1) else 1) (fX4_either_l8 g4 (iN d) (fun v7 A8 => some (v7, A8))) (fX11_either_l4 g11 (fun A6 => some A6)) hS (by decide) ?_ ?_ ?_ ?_ ?_ ?_
  · rintro g rfl
    refine ⟨by decide, by decide, fun a b => ?_⟩
    show (if a = 0 then (if b = 0 then some (0 : Int32) else some 1) else some 1) = some (if a = 0 then (if b = 0 then 0 else 1) else 1)
    by_cases c1 : a = 0
    · rw [if_pos c1, if_pos c1]
      by_cases c2 : b = 0
      · rw [if_pos c2, if_pos c2]
      · rw [if_neg c2, if_neg c2]
    · rw [if_neg c1, if_neg c1]
  · intro f v x A h
    rw [fX4_either_l8, if_neg h]
    split <;> rfl
  · intro f v j A hj h
    rw [fX4_either_l8, li100, if_neg (by rw [iN_le (by omega) (by omega)]; omega), if_pos h]
    simp only [ite_some, Option.bind_some, iN_add1]
  · intro f B G H s hb hG h
    rw [fX11_either_l4, p_sign hb hn hG (by decide), Option.bind_some, b2_neg h, if_pos rfl]
  · intro f B G H h
    rw [fX11_either_l4, p_signB B h, Option.bind_some, if_pos rfl]
  · intro f B G H s hb hG h
    rw [fX11_either_l4, p_sign hb hn hG (by decide), Option.bind_some, b2_pos h, ite10]
/-- the reference's comparison -/
def rCmp (g : ruA → Option ruA) (A : ruA) : Option ruA :=
  (g A).bind fun A2 =>
  (fX11_isSign (60 : Int32) A2).bind fun v3 =>
  ((if v3 = 0 then
  (fX11_isSign (61 : Int32) A2).bind fun v5 =>
  (if v5 = 0 then
  (fX11_isSign (62 : Int32) A2).bind fun v6 =>
  (if v6 = 0 then
  some (0 : Int32)
else
  some (10104 : Int32))
else
  some (10103 : Int32))
else
  some (10102 : Int32))).bind fun v4 =>
  (if v4 ≤ 0 then
  some A2
else
  (fX11_need (1 : Int32) A2).bind fun A7 =>
  (g A7).bind fun A8 =>
  (fX11_emit v4 A8).bind fun A9 =>
  some A9)
def cOp (g a b : Int32) : Int32 := if g = 60 then (if b ≤ a then 0 else 1) else if g = 61 then (if a = b then 1 else 0) else (if a ≤ b then 0 else 1)
def cCo (g : Int32) : Int32 := if g = 60 then 10102 else if g = 61 then 10103 else 10104
theorem cmp_yes (g4 : Int32 → ruA → Option (Int32 × ruA)) (x : Int32) {A A2 : ruA} {v1 : Int32} (h : g4 x A = some (v1, A2)) (hop : A2.1 70 4 = 60 ∨ A2.1 70 4 = 61 ∨ A2.1 70 4 = 62) : fX4_compared g4 x A = (fX4_step A2).bind fun A3 => ruB2 (g4 x A3) fun v4 A5 => some (cOp (A2.1 70 4) v1 v4, A5) := by
  have n1 : ¬ (61 : Int32) = 60 := by decide
  have n2 : ¬ (62 : Int32) = 60 := by decide
  have n3 : ¬ (62 : Int32) = 61 := by decide
  unfold fX4_compared cOp
  rw [h, ruB2_some]
  rcases hop with e | e | e
  · simp only [e, eq_self, if_true, ite_pair1]
  · simp only [e, n1, eq_self, if_true, if_false, ite_pair1]
  · simp only [e, n2, n3, eq_self, if_true, if_false, ite_pair1]
theorem cmp_no (g4 : Int32 → ruA → Option (Int32 × ruA)) (x : Int32) {A A2 : ruA} {v1 : Int32} (h : g4 x A = some (v1, A2)) (hop : ¬ (A2.1 70 4 = 60 ∨ A2.1 70 4 = 61 ∨ A2.1 70 4 = 62)) : fX4_compared g4 x A = some (v1, A2) := by
  unfold fX4_compared
  rw [h, ruB2_some, if_neg (fun e => hop (Or.inl e)), if_neg (fun e => hop (Or.inr (Or.inl e))), if_neg (fun e => hop (Or.inr (Or.inr e)))]
theorem sim_cmp (hn : n ≤ 100) (hT : ∀ i, i < n → 0 ≤ T i ∧ T i ≤ 255) {g4 : Int32 → ruA → Option (Int32 × ruA)} {g11 : ruA → Option ruA} {d : Nat} (hS : Sim T n (g4 (iN d)) g11 d) : Sim T n (fX4_compared g4 (iN d)) (rCmp g11) d := by
  intro s hs
  obtain ⟨ok1, s2, E1, a1, a2, a3, a4, a5⟩ := hS s hs
  cases ok1 with
  | false =>
    refine ⟨false, s2, E1, a1, a2, a3, ?_, ?_⟩
    · intro A F hb hF
      obtain ⟨v, F2, c1, -, c3⟩ := a4 A F hb hF
      have c3 := c3 rfl
      refine ⟨v, F2, cmp_no g4 (iN d) c1 ?_, fun h => (by cases h), fun _ => c3⟩
      rw [stQ_70, c3.2.1]
      decide
    · intro B G H k hb hG h6 h18 h20 hk
      obtain ⟨G2, H2, c1, c2, c3, c4, c5, -, c7⟩ := a5 B G H k hb hG h6 h18 h20 hk
      have c7 := c7 rfl
      refine ⟨G2, H2, ?_, c2, c3, c4, c5, fun h => (by cases h), fun _ => c7⟩
      unfold rCmp
      rw [c1, Option.bind_some, p_signB B c7.2, Option.bind_some, if_pos rfl, p_signB B c7.2, Option.bind_some, if_pos rfl, p_signB B c7.2, Option.bind_some, if_pos rfl, Option.bind_some, if_pos (by decide)]
  | true =>
    by_cases hop : tG T n s2 = 60 ∨ tG T n s2 = 61 ∨ tG T n s2 = 62
    · have hsn : s2 < n := tG_lt (by rcases hop with e | e | e <;> rw [e] <;> decide)
      have hgt := nx_gt (T := T) hn hsn
      obtain ⟨ok3, s3, E3, e1, e2, e3, e4, e5⟩ := hS (nx T n s2) (nx_le a2)
      have hco : 10100 ≤ cCo (tG T n s2) ∧ ¬ cCo (tG T n s2) = 10107 ∧ ∀ a b, fX11_done (cCo (tG T n s2)) a b = some (cOp (tG T n s2) a b) := by
        rcases hop with e | e | e
        · rw [e]
          exact ⟨by decide, by decide, fun a b => ite_some _ _⟩
        · rw [e]
          exact ⟨by decide, by decide, fun a b => ite_some _ _⟩
        · rw [e]
          exact ⟨by decide, by decide, fun a b => ite_some _ _⟩
      have r11 : ∀ (B : ruA) (G G2 H H2 : Nat → Int32), bsR B T n → g11 (stP B G H) = some (stP B G2 H2) → goodR T n G2 s2 → rCmp g11 (stP B G H) = (fX11_need (1 : Int32) (stP B G2 H2)).bind fun A7 => (g11 A7).bind fun A8 => (fX11_emit (cCo (tG T n s2)) A8).bind fun A9 => some A9 := by
        intro B G G2 H H2 hb c1 c6
        unfold rCmp
        rw [c1, Option.bind_some, p_sign hb hn c6 (by decide), Option.bind_some, p_sign hb hn c6 (by decide), Option.bind_some, p_sign hb hn c6 (by decide), Option.bind_some, b2_ne, b2_ne, b2_ne]
        rcases hop with e | e | e
        · rw [e]
          rfl
        · rw [e]
          rfl
        · rw [e]
          rfl
      cases ok3 with
      | false =>
        refine ⟨false, s3, E1 ++ E3, by omega, e2, by rw [List.length_append]; omega, ?_, ?_⟩
        · intro A F hb hF
          obtain ⟨v, F2, c1, c2, -⟩ := a4 A F hb hF
          obtain ⟨c2, -⟩ := c2 rfl
          obtain ⟨F3, b1, b2⟩ := q_next hb hn hT c2 a2
          obtain ⟨v4, F4, d1, -, d3⟩ := e4 A F3 hb b2
          refine ⟨cOp (tG T n s2) v v4, F4, ?_, fun h => (by cases h), d3⟩
          rw [cmp_yes g4 (iN d) c1 (by rw [stQ_70, c2.2.2.2.1]; exact hop), b1, Option.bind_some, d1, ruB2_some, stQ_70, c2.2.2.2.1]
        · intro B G H k hb hG h6 h18 h20 hk
          obtain ⟨G2, H2, c1, c2, c3, c4, c5, c6, -⟩ := a5 B G H k hb hG h6 h18 h20 hk
          have c6 := c6 rfl
          obtain ⟨G3, b1, b2, b3⟩ := p_need1 (H := H2) hb hn c6 ((c2 6 (by decide)).trans h6) a2 (show ¬ (1 : Int32) = 0 by decide)
          obtain ⟨G4, H4, d1, d2, d3, d4, d5, -, d7⟩ := e5 B G3 H2 (k + E1.length) hb b2 ((b3 6 (by decide)).trans ((c2 6 (by decide)).trans h6)) ((b3 18 (by decide)).trans c3) ((b3 20 (by decide)).trans c4) (by omega)
          have d7 := d7 rfl
          refine ⟨G4, H4, ?_, kpG_trans c2 (kpG_trans (kpG_3 b3) d2), d3, ?_, stp_app c5 d5, fun h => (by cases h), fun _ => d7⟩
          · rw [r11 B G G2 H H2 hb c1 c6, b1, Option.bind_some, d1, Option.bind_some, p_emitB B d7.2, Option.bind_some]
          · rw [d4, List.length_append, Nat.add_assoc]
      | true =>
        refine ⟨true, s3, E1 ++ (E3 ++ [cCo (tG T n s2)]), by omega, e2, ?_, ?_, ?_⟩
        · rw [List.length_append, List.length_append]
          show E1.length + (E3.length + 1) + s ≤ s3
          omega
        · intro A F hb hF
          obtain ⟨v, F2, c1, c2, -⟩ := a4 A F hb hF
          obtain ⟨c2, c3⟩ := c2 rfl
          obtain ⟨F3, b1, b2⟩ := q_next hb hn hT c2 a2
          obtain ⟨v4, F4, d1, d2, -⟩ := e4 A F3 hb b2
          obtain ⟨d2, d3⟩ := d2 rfl
          refine ⟨cOp (tG T n s2) v v4, F4, ?_, fun _ => ⟨d2, fun σ => ?_⟩, fun h => by cases h⟩
          · rw [cmp_yes g4 (iN d) c1 (by rw [stQ_70, c2.2.2.2.1]; exact hop), b1, Option.bind_some, d1, ruB2_some, stQ_70, c2.2.2.2.1]
          · rw [evs_app, c3, Option.bind_some, evs_app, d3, Option.bind_some, evs_one, stR1_bin _ hco.1 hco.2.1 v v4 _ (hco.2.2 v v4)]
        · intro B G H k hb hG h6 h18 h20 hk
          obtain ⟨G2, H2, c1, c2, c3, c4, c5, c6, -⟩ := a5 B G H k hb hG h6 h18 h20 hk
          have c6 := c6 rfl
          obtain ⟨G3, b1, b2, b3⟩ := p_need1 (H := H2) hb hn c6 ((c2 6 (by decide)).trans h6) a2 (show ¬ (1 : Int32) = 0 by decide)
          obtain ⟨G4, H4, d1, d2, d3, d4, d5, d6, -⟩ := e5 B G3 H2 (k + E1.length) hb b2 ((b3 6 (by decide)).trans ((c2 6 (by decide)).trans h6)) ((b3 18 (by decide)).trans c3) ((b3 20 (by decide)).trans c4) (by omega)
          have d6 := d6 rfl
          refine ⟨upd G4 20 (iN (k + E1.length + E3.length + 1)), upd H4 (k + E1.length + E3.length) (cCo (tG T n s2)), ?_, ?_, ?_, ?_, stp_app c5 (stp_app d5 (stp_upd _ _ _)), fun _ => goodR_20 d6 _, fun h => by cases h⟩
          · rw [r11 B G G2 H H2 hb c1 c6, b1, Option.bind_some, d1, Option.bind_some, p_emit B d6.2 (by omega) d4, Option.bind_some]
          · exact kpG_trans c2 (kpG_trans (kpG_3 b3) (kpG_trans d2 (fun j hj => upd_ne _ _ hj.2.2.2.2.2)))
          · rw [upd_ne _ _ (by decide)]
            exact d3
          · rw [upd_same, List.length_append, List.length_append]
            congr 1
            show k + E1.length + E3.length + 1 = k + (E1.length + (E3.length + 1))
            omega
    · refine ⟨true, s2, E1, a1, a2, a3, ?_, ?_⟩
      · intro A F hb hF
        obtain ⟨v, F2, c1, c2, -⟩ := a4 A F hb hF
        obtain ⟨c2, c3⟩ := c2 rfl
        refine ⟨v, F2, cmp_no g4 (iN d) c1 ?_, fun _ => ⟨c2, c3⟩, fun h => by cases h⟩
        rw [stQ_70, c2.2.2.2.1]
        exact hop
      · intro B G H k hb hG h6 h18 h20 hk
        obtain ⟨G2, H2, c1, c2, c3, c4, c5, c6, -⟩ := a5 B G H k hb hG h6 h18 h20 hk
        have c6 := c6 rfl
        refine ⟨G2, H2, ?_, c2, c3, c4, c5, fun _ => c6, fun h => by cases h⟩
        unfold rCmp
        rw [c1, Option.bind_some, p_sign hb hn c6 (by decide), Option.bind_some, b2_neg (fun e => hop (Or.inl e)), if_pos rfl, p_sign hb hn c6 (by decide), Option.bind_some, b2_neg (fun e => hop (Or.inr (Or.inl e))), if_pos rfl, p_sign hb hn c6 (by decide), Option.bind_some, b2_neg (fun e => hop (Or.inr (Or.inr e))), if_pos rfl, Option.bind_some, if_pos (by decide)]
theorem not_eq (g : ruA → Option ruA) (h : ruA → Option ruA) (A : ruA) : fX11_not g h A = (fX11_isSign (33 : Int32) A).bind fun v1 => (if v1 = 0 then rCmp g A else ((if (6 : Int32) ≤ (A.1 83 18) then some (0 : Int32) else some (1 : Int32))).bind fun v10 => (fX11_need v10 A).bind fun A11 => (some (ruset A11 83 18 ((A11.1 83 18) + (1 : Int32)))).bind fun A12 => (h A12).bind fun A13 => (some (ruset A13 83 18 ((A13.1 83 18) - (1 : Int32)))).bind fun A14 => (fX11_emit (10107 : Int32) A14).bind fun A15 => some A15) := rfl
theorem B11_cmp {g : ruA → Option ruA} (hg : B11 g) : B11 (rCmp g) := by
  intro B G H h
  unfold rCmp
  rw [hg B G H h, Option.bind_some, p_signB B h, Option.bind_some, if_pos rfl, p_signB B h, Option.bind_some, if_pos rfl, p_signB B h, Option.bind_some, if_pos rfl, Option.bind_some, if_pos (by decide)]
theorem B11_sum {g : ruA → Option ruA} (hg : B11 g) : B11 (fX11_sum g) := by
  intro B G H h
  unfold fX11_sum
  rw [hg B G H h, Option.bind_some, show ruF = 19999 + 1 from rfl, fX11_sum_l4, p_signB B h, Option.bind_some, if_pos rfl, p_signB B h, Option.bind_some, if_pos rfl]
theorem B11_not {g : ruA → Option ruA} (hg : B11 g) (h : ruA → Option ruA) : B11 (fX11_not g h) := by
  intro B G H h17
  rw [not_eq, p_signB B h17, Option.bind_some, if_pos rfl, B11_cmp hg B G H h17]
theorem sim_not (hn : n ≤ 100) (hT : ∀ i, i < n → 0 ≤ T i ∧ T i ≤ 255) {n4 c4 : Int32 → ruA → Option (Int32 × ruA)} {g11 n11 : ruA → Option ruA} {d : Nat} (hd : d ≤ 6) (hC : Sim T n (c4 (iN d)) (rCmp g11) d) (hN : d < 6 → Sim T n (n4 (iN (d + 1))) n11 (d + 1)) (bN : ¬ d < 6 → B11 n11) : Sim T n (fX4_denied n4 c4 (iN d)) (fX11_not g11 n11) d := by
  intro s hs
  by_cases hG : tG T n s = 33
  · have hsn : s < n := tG_lt (by rw [hG]; decide)
    have hgt := nx_gt (T := T) hn hsn
    by_cases hd6 : d < 6
    · obtain ⟨ok1, s2, E1, a1, a2, a3, a4, a5⟩ := hN hd6 (nx T n s) (nx_le hs)
      have q4 : ∀ (A : ruA) (F F1 : Nat → Int32), good4 T n (A.1 A.2.2.2) F s → fX4_step (stQ A F) = some (stQ A F1) → fX4_denied n4 c4 (iN d) (stQ A F) = ruB2 (n4 (iN (d + 1)) (stQ A F1)) fun v2 A3 => some (if v2 = 0 then 1 else 0, A3) := by
        intro A F F1 hF b1
        unfold fX4_denied
        rw [stQ_70, hF.2.2.2.1, if_pos hG, li6, if_pos ((iN_lt (by omega) (by omega)).mpr hd6), b1, Option.bind_some, iN_add1]
        simp only [ite_pair1]
      have q11 : ∀ (B : ruA) (G H G1 : Nat → Int32), bsR B T n → goodR T n G s → G 18 = iN d → fX11_need 1 (stP B G H) = some (stP B G1 H) → G1 18 = iN d → fX11_not g11 n11 (stP B G H) = (n11 (stP B (upd G1 18 (iN (d + 1))) H)).bind fun A13 => (fX11_emit (10107 : Int32) (ruset A13 83 18 ((A13.1 83 18) - (1 : Int32)))) := by
        intro B G H G1 hb hR h18 b1 b18
        rw [not_eq, p_sign hb hn hR (by decide), Option.bind_some, b2_pos hG, ite10, stP_83, h18, li6, if_neg (by rw [iN_le (by omega) (by omega)]; omega), Option.bind_some, b1, Option.bind_some, stP_83, b18, iN_add1, stP_set, Option.bind_some]
        cases n11 (stP B (upd G1 18 (iN (d + 1))) H) with
        | none => rfl
        | some A13 =>
          rw [Option.bind_some, Option.bind_some, Option.bind_some]
          cases fX11_emit 10107 (ruset A13 83 18 (A13.1 83 18 - 1)) <;> rfl
      cases ok1 with
      | false =>
        refine ⟨false, s2, E1, by omega, a2, by omega, ?_, ?_⟩
        · intro A F hb hF
          obtain ⟨F1, b1, b2⟩ := q_next hb hn hT hF hs
          obtain ⟨v, F2, c1, -, c3⟩ := a4 A F1 hb b2
          refine ⟨if v = 0 then 1 else 0, F2, ?_, fun h => (by cases h), c3⟩
          rw [q4 A F F1 hF b1, c1, ruB2_some]
        · intro B G H k hb hR h6 h18 h20 hk
          obtain ⟨G1, b1, b2, b3⟩ := p_need1 (H := H) hb hn hR h6 hs (show ¬ (1 : Int32) = 0 by decide)
          obtain ⟨G2, H2, c1, c2, c3, c4, c5, -, c7⟩ := a5 B (upd G1 18 (iN (d + 1))) H k hb (goodR_18 b2 _) (by rw [upd_ne _ _ (by decide), b3 6 (by decide)]; exact h6) (upd_same _ _ _) (by rw [upd_ne _ _ (by decide), b3 20 (by decide)]; exact h20) (by omega)
          have c7 := c7 rfl
          have d17 : (upd G2 18 (iN d)) 17 = 1 := by rw [upd_ne _ _ (by decide)]; exact c7.2
          refine ⟨upd G2 18 (iN d), H2, ?_, fun j hj => ?_, upd_same _ _ _, ?_, c5, fun h => (by cases h), fun _ => ⟨?_, d17⟩⟩
          · rw [q11 B G H G1 hb hR h18 b1 ((b3 18 (by decide)).trans h18), c1, Option.bind_some, stP_83, c3, iN_sub1 (by omega), stP_set, Nat.add_sub_cancel, p_emitB B d17]
          · rw [upd_ne _ _ hj.2.2.2.2.1, c2 j hj, upd_ne _ _ hj.2.2.2.2.1, b3 j ⟨hj.1, hj.2.1, hj.2.2.1⟩]
          · rw [upd_ne _ _ (by decide)]
            exact c4
          · rw [upd_ne _ _ (by decide)]
            exact c7.1
      | true =>
        refine ⟨true, s2, E1 ++ [10107], by omega, a2, ?_, ?_, ?_⟩
        · rw [List.length_append]
          show E1.length + 1 + s ≤ s2
          omega
        · intro A F hb hF
          obtain ⟨F1, b1, b2⟩ := q_next hb hn hT hF hs
          obtain ⟨v, F2, c1, c2, -⟩ := a4 A F1 hb b2
          obtain ⟨c2, c3⟩ := c2 rfl
          refine ⟨if v = 0 then 1 else 0, F2, ?_, fun _ => ⟨c2, fun σ => ?_⟩, fun h => by cases h⟩
          · rw [q4 A F F1 hF b1, c1, ruB2_some]
          · rw [evs_app, c3, Option.bind_some, evs_one, stR1_not]
        · intro B G H k hb hR h6 h18 h20 hk
          obtain ⟨G1, b1, b2, b3⟩ := p_need1 (H := H) hb hn hR h6 hs (show ¬ (1 : Int32) = 0 by decide)
          obtain ⟨G2, H2, c1, c2, c3, c4, c5, c6, -⟩ := a5 B (upd G1 18 (iN (d + 1))) H k hb (goodR_18 b2 _) (by rw [upd_ne _ _ (by decide), b3 6 (by decide)]; exact h6) (upd_same _ _ _) (by rw [upd_ne _ _ (by decide), b3 20 (by decide)]; exact h20) (by omega)
          have c6 := goodR_18 (c6 rfl) (iN d)
          refine ⟨upd (upd G2 18 (iN d)) 20 (iN (k + E1.length + 1)), upd H2 (k + E1.length) 10107, ?_, fun j hj => ?_, ?_, ?_, stp_app c5 (stp_upd _ _ _), fun _ => goodR_20 c6 _, fun h => by cases h⟩
          · rw [q11 B G H G1 hb hR h18 b1 ((b3 18 (by decide)).trans h18), c1, Option.bind_some, stP_83, c3, iN_sub1 (by omega), stP_set, Nat.add_sub_cancel, p_emit B c6.2 (k := k + E1.length) (by omega) (by rw [upd_ne _ _ (by decide)]; exact c4)]
          · rw [upd_ne _ _ hj.2.2.2.2.2, upd_ne _ _ hj.2.2.2.2.1, c2 j hj, upd_ne _ _ hj.2.2.2.2.1, b3 j ⟨hj.1, hj.2.1, hj.2.2.1⟩]
          · rw [upd_ne _ _ (by decide), upd_same]
          · rw [upd_same, List.length_append]
            rfl
    · refine ⟨false, s, [], Nat.le_refl _, hs, by show 0 + s ≤ s; omega, ?_, ?_⟩
      · intro A F hb hF
        obtain ⟨F1, b1, b2⟩ := q_fail (A := A) hF
        refine ⟨0, F1, ?_, fun h => (by cases h), fun _ => b2⟩
        unfold fX4_denied
        rw [stQ_70, hF.2.2.2.1, if_pos hG, li6, if_neg (by rw [iN_lt (by omega) (by omega)]; exact hd6), b1, Option.bind_some]
      · intro B G H k hb hR h6 h18 h20 hk
        obtain ⟨n1, n2⟩ := p_need0 (B := B) (H := H) hR
        have g18 : (upd G 17 1) 18 = iN d := by rw [upd_ne _ _ (by decide)]; exact h18
        have h17 : (upd (upd G 17 1) 18 (iN d + 1)) 17 = 1 := by rw [upd_ne _ _ (by decide), upd_same]
        refine ⟨upd G 17 1, H, ?_, fun j hj => upd_ne _ _ hj.2.2.2.1, g18, ?_, stp_nil k H, fun h => (by cases h), fun _ => n2⟩
        · rw [not_eq, p_sign hb hn hR (by decide), Option.bind_some, b2_pos hG, ite10, stP_83, h18, li6, if_pos ((iN_le (by omega) (by omega)).mpr (by omega)), Option.bind_some, n1, Option.bind_some, stP_83, g18, stP_set, Option.bind_some, bN hd6 B _ H h17, Option.bind_some, stP_83, upd_same, stP_set, Option.bind_some, back18 (upd G 17 1) _ g18, p_emitB B n2.2, Option.bind_some]
        · rw [upd_ne _ _ (by decide)]
          exact h20
  · obtain ⟨ok1, s2, E1, a1, a2, a3, a4, a5⟩ := hC s hs
    refine ⟨ok1, s2, E1, a1, a2, a3, ?_, ?_⟩
    · intro A F hb hF
      obtain ⟨v, F2, c1, c2⟩ := a4 A F hb hF
      refine ⟨v, F2, ?_, c2⟩
      unfold fX4_denied
      rw [stQ_70, hF.2.2.2.1, if_neg hG, c1, ruB2_some]
    · intro B G H k hb hR h6 h18 h20 hk
      obtain ⟨G2, H2, c1, c2⟩ := a5 B G H k hb hR h6 h18 h20 hk
      refine ⟨G2, H2, ?_, c2⟩
      rw [not_eq, p_sign hb hn hR (by decide), Option.bind_some, b2_neg hG, if_pos rfl, c1]
theorem B11_notK (e : ruA → Option ruA) (m : Nat) : B11 (fX11_notK e (m + 1)) := by
  intro B G H h
  rw [fX11_notK]
  exact B11_not (B11_sum (B11_part e)) _ B G H h
theorem sim_notK (hn : n ≤ 100) (hT : ∀ i, i < n → 0 ≤ T i ∧ T i ≤ 255) {e4 : Int32 → ruA → Option (Int32 × ruA)} {e11 : ruA → Option ruA} : ∀ m d, d ≤ 6 → 8 ≤ m + d → (∀ d', d ≤ d' → d' < 6 → Sim T n (e4 (iN (d' + 1))) e11 (d' + 1)) → Sim T n (fX4_deniedK e4 m (iN d)) (fX11_notK e11 m) d
  | 0, d, hd, hm, _ => by omega
  | m + 1, d, hd, hm, hE => by
    have h1 : fX4_deniedK e4 (m + 1) (iN d) = fX4_denied (fX4_deniedK e4 m) (fX4_compared (fX4_sum (fX4_part e4))) (iN d) := by
      funext A
      rw [fX4_deniedK]
    have h2 : fX11_notK e11 (m + 1) = fX11_not (fX11_sum (fX11_part e11)) (fX11_notK e11 m) := by
      funext A
      rw [fX11_notK]
    rw [h1, h2]
    refine sim_not hn hT hd (sim_cmp hn hT (sim_sum hn hT (sim_part hn hT hd (fun h => hE d (Nat.le_refl _) h)))) (fun h => sim_notK hn hT m (d + 1) (by omega) (by omega) (fun d' a b => hE d' (by omega) b)) (fun h => ?_)
    obtain ⟨m, rfl⟩ : ∃ k, m = k + 1 := ⟨m - 1, by omega⟩
    exact B11_notK e11 m
theorem sim_eitherK (hn : n ≤ 100) (hT : ∀ i, i < n → 0 ≤ T i ∧ T i ≤ 255) : ∀ m d, d ≤ 6 → 7 ≤ m + d → Sim T n (fX4_eitherK m (iN d)) (fX11_eitherK m) d
  | 0, d, hd, hm => by omega
  | m + 1, d, hd, hm => by
    have h1 : fX4_eitherK (m + 1) (iN d) = fX4_either (fX4_both (fX4_deniedK (fX4_eitherK m) 10)) (iN d) := by
      funext A
      rw [fX4_eitherK]
    have h2 : fX11_eitherK (m + 1) = fX11_either (fX11_both (fX11_notK (fX11_eitherK m) 10)) := by
      funext A
      rw [fX11_eitherK]
    rw [h1, h2]
    exact sim_either hn hT (sim_both hn hT (sim_notK hn hT 10 d hd (by omega) (fun d' a b => sim_eitherK hn hT m (d' + 1) (by omega) (by omega))))
end UP
