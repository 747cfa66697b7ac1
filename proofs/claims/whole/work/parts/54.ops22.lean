/-! LEVEL 2: could -/
def inS (v : Int32) (M : Nat → Int32) : Nat → (Nat → Int32)
  | 0 => M
  | k + 1 => upd (inS v M k) k (inS v M k k + b2 (bt v k = true))
theorem inS_at (v : Int32) (M : Nat → Int32) : ∀ k j, inS v M k j = if j < k then M j + b2 (bt v j = true) else M j
  | 0, j => by rw [if_neg (by omega)]; rfl
  | k + 1, j => by
    show upd (inS v M k) k (inS v M k k + b2 (bt v k = true)) j = _
    by_cases e : j = k
    · rw [e, upd_same, if_pos (by omega), inS_at v M k k, if_neg (by omega)]
    · rw [upd_ne _ _ e, inS_at v M k j]
      by_cases c : j < k
      · rw [if_pos c, if_pos (by omega)]
      · rw [if_neg c, if_neg (by omega)]
def ouS (w : Nat → Int32) (Z : Nat → Int32) : Nat → (Nat → Int32)
  | 0 => Z
  | q + 1 => inS (w q) (ouS w Z q) 10
def cntS (w : Nat → Int32) (q k : Nat) : Int32 := sumI (fun i => b2 (bt (w i) k = true)) q
theorem ouS_at {w Z : Nat → Int32} {j : Nat} (hj : j < 10) (hZ : Z j = 0) : ∀ q, ouS w Z q j = cntS w q j
  | 0 => hZ
  | q + 1 => by
    show inS (w q) (ouS w Z q) 10 j = cntS w q j + b2 (bt (w q) j = true)
    rw [inS_at, if_pos hj, ouS_at hj hZ q]
theorem f10_l30 {β : Type} (A : ruA) (M : Nat → Int32) (x1 x2 x4 x5 v : Int32) (K : ruA → Option β) : fX2_holdersOfAtLeast_l30 x1 x2 x4 x5 v K ruF 0 (rusetA A 28 M) = K (rusetA A 28 (inS v M 10)) := by
  refine loop_inv (fun f k (S : Nat → Int32) => fX2_holdersOfAtLeast_l30 x1 x2 x4 x5 v K f (iN k) (rusetA A 28 S)) 10 (fun k => inS v M k) _ ?_ ?_ ruF 0 (by decide) (by decide)
  · intro f
    show fX2_holdersOfAtLeast_l30 x1 x2 x4 x5 v K (f + 1) (iN 10) _ = _
    rw [fX2_holdersOfAtLeast_l30, if_pos (by decide)]
  · intro f k hk
    show fX2_holdersOfAtLeast_l30 x1 x2 x4 x5 v K (f + 1) (iN k) (rusetA A 28 (inS v M k)) = fX2_holdersOfAtLeast_l30 x1 x2 x4 x5 v K f (iN (k + 1)) (rusetA A 28 (upd (inS v M k) k (inS v M k k + b2 (bt v k = true))))
    have e : ruushr v (iN k) &&& 1 = b2 (bt v k = true) := by
      rw [and1b, bt_ushr (by omega)]
      rfl
    rw [fX2_holdersOfAtLeast_l30, li10, if_neg (by rw [iN_le (by omega) (by omega)]; omega), rsA_same, ruld_iN hk (by decide), Option.bind_some, rust_iN hk (by decide), Option.bind_some, ruset_eq, rsA_same, rusetA_two, e, iN_add1]
theorem kyC_28 {A : ruA} {N : Nat → Int32} {n : Nat} (h : kyC A N n) (M : Nat → Int32) : kyC (rusetA A 28 M) N n := h
theorem f10_l11 {β : Type} {A : ruA} {N : Nat → Int32} {n : Nat} (h : kyC A N n) (Z : Nat → Int32) (x1 room : Int32) {a d : Nat} (had : a + d ≤ 99) (K : ruA → Option β) : fX2_holdersOfAtLeast_l11 x1 room (iN (a + d)) K ruF (iN a) (rusetA A 28 Z) = K (rusetA A 28 (ouS (fun q => hAt N room (iN (a + q)) n) Z d)) := by
  refine loop_inv (fun f q (S : Nat → Int32) => fX2_holdersOfAtLeast_l11 x1 room (iN (a + d)) K f (iN (a + q)) (rusetA A 28 S)) d (fun q => ouS (fun q => hAt N room (iN (a + q)) n) Z q) _ ?_ ?_ ruF 0 (Nat.zero_le _) (by rw [ruF_eq]; omega)
  · intro f
    show fX2_holdersOfAtLeast_l11 x1 room (iN (a + d)) K (f + 1) (iN (a + d)) _ = _
    rw [fX2_holdersOfAtLeast_l11, if_pos ((iN_le (by omega) (by omega)).mpr (Nat.le_refl _))]
  · intro f q hq
    show fX2_holdersOfAtLeast_l11 x1 room (iN (a + d)) K (f + 1) (iN (a + q)) _ = fX2_holdersOfAtLeast_l11 x1 room (iN (a + d)) K f (iN (a + q + 1)) (rusetA A 28 (inS (hAt N room (iN (a + q)) n) (ouS (fun q => hAt N room (iN (a + q)) n) Z q) 10))
    rw [fX2_holdersOfAtLeast_l11, if_neg (by rw [iN_le (by omega) (by omega)]; omega), f10_holdersAt (kyC_28 h _), Option.bind_some, f10_l30, iN_add1]
/-- those who reach x -/
def reS (c : Nat → Int32) (x : Int32) : Nat → Int32
  | 0 => 0
  | k + 1 => reS c x k ||| (if c k < x then (0 : Int32) else 1 <<< (iN k &&& 31))
theorem f10_l72 (A : ruA) (c : Nat → Int32) (hc : ∀ k, k < 10 → A.1 28 k = c k) (x : Int32) : fX2_holdersOfAtLeast_l72 x A (fun v9 => some (v9, A)) ruF 0 0 = some (reS c x 10, A) := by
  refine loop_inv (fun f k z => fX2_holdersOfAtLeast_l72 x A (fun v9 => some (v9, A)) f z (iN k)) 10 (fun k => reS c x k) _ ?_ ?_ ruF 0 (by decide) (by decide)
  · intro f
    show fX2_holdersOfAtLeast_l72 x A (fun v9 => some (v9, A)) (f + 1) _ (iN 10) = _
    rw [fX2_holdersOfAtLeast_l72, if_pos (by decide)]
  · intro f k hk
    show fX2_holdersOfAtLeast_l72 x A (fun v9 => some (v9, A)) (f + 1) (reS c x k) (iN k) = fX2_holdersOfAtLeast_l72 x A (fun v9 => some (v9, A)) f (reS c x k ||| (if c k < x then (0 : Int32) else 1 <<< (iN k &&& 31))) (iN (k + 1))
    rw [fX2_holdersOfAtLeast_l72, li10, if_neg (by rw [iN_le (by omega) (by omega)]; omega), ruld_iN hk (by decide), Option.bind_some, hc k hk, iN_add1]
    by_cases c1 : c k < x
    · rw [if_pos c1, Option.bind_some, if_pos c1, Int32.or_zero]
    · rw [if_neg c1, Option.bind_some, if_neg c1]
theorem f10_fill28 (A : ruA) : fJ7_fill_53178 28 0 A = some (rusetA A 28 (fillF (A.1 28) 0 (fun _ => 0) 10)) := by
  have hI28 : rudI 28 = some 10 := rfl
  simp only [fJ7_fill_53178, hI28, Option.bind_some, iN_eq]
  refine loop_fill (fun n q B => fJ7_fill_53178_l5 28 0 (iN 10) (fun A4 => some A4) n (iN q) B) A 28 0 10 (fun _ => 0) (fun B => some B) ?_ ?_ ruF (by decide)
  · intro n B
    rw [fJ7_fill_53178_l5, if_pos (by decide)]
  · intro n q hq
    simp (disch := omega) only [fJ7_fill_53178_l5, iN_le, hI28, Option.bind_some, rust_iN, iN_add1, Nat.zero_add]
    rw [if_neg (by omega)]
theorem op_could {W : ruWy} {A : ruA} (hI : Inv W A) (x1 x2 x3 x4 : Int32) : Op2 W (fX10_could x1 x2 x3 x4) (fX11_could x1 x2 x3 x4) A := by
  obtain ⟨⟨hn, hq, hc, hs, hb, hr, hh, hf, hw⟩, hK, hMf, hMt, hMs⟩ := id hI
  obtain ⟨m0, m1, m2, m3, m4, m5⟩ := id hn
  have q0 : A.1 2 0 = A.1 84 0 := m0.1
  have q1 : A.1 2 1 = A.1 84 1 := m1.1
  have q2 : A.1 2 2 = A.1 84 2 := m2.1
  have q3 : A.1 14 0 = A.1 84 3 := m3.1
  have q4 : A.1 23 0 = A.1 84 4 := m4.1
  have q5 : A.1 29 0 = A.1 84 5 := m5.1
  by_cases h1 : 0 ≤ x1 ∧ x1 ≤ A.1 84 1 - 1
  · by_cases h2 : 0 ≤ x2 ∧ x2 < x3 ∧ x3 ≤ 99
    · by_cases h3 : 1 ≤ x4 ∧ x4 ≤ 99
      · obtain ⟨a, d, had, ea, ed⟩ := hours_of h2
        obtain ⟨-, e4, h30⟩ := m4
        have ky := kyC_of hh q4 e4 h30
        generalize cn (A.1 84) 4 = n at *
        have kj : ∀ h, h < n → ∃ j, j ≤ 9 ∧ A.1 84 (4784 + 4 * h) = iN j := fun h hh9 => (ky.2.2 h hh9).2.2.2.2
        generalize hZ : fillF (A.1 28) 0 (fun _ => 0) 10 = Z
        have hZ0 : ∀ j, j < 10 → Z j = 0 := by
          intro j hj
          have := fillF_in (f := A.1 28) (off := 0) (v := fun _ => 0) (m := 10) hj
          rw [Nat.zero_add, hZ] at this
          exact this
        have hcl : fX2_holdersOfAtLeast x4 x1 x2 x3 A = some (reS (cntS (fun q => hAt (A.1 84) x1 (iN (a + q)) n) d) x4 10, rusetA A 28 (ouS (fun q => hAt (A.1 84) x1 (iN (a + q)) n) Z d)) := by
          unfold fX2_holdersOfAtLeast
          rw [f10_fill28, hZ, Option.bind_some, ea, ed, f10_l11 ky Z x4 x1 had]
          refine f10_l72 _ _ ?_ x4
          intro k hk
          rw [rsA_same, ouS_at hk (hZ0 k hk)]
        generalize hA1 : rusetA A 28 (ouS (fun q => hAt (A.1 84) x1 (iN (a + q)) n) Z d) = A1 at *
        have eK : ∀ k, k ≠ 28 → A1.1 k = A.1 k := fun k hk => by rw [← hA1, rsA_ne _ _ hk]
        clear hA1
        refine ⟨_, A1, A1, (show _ = some (reS (cntS (fun q => hAt (A.1 84) x1 (iN (a + q)) n) d) x4 10, A1) from ?_), ?_, hI.same ⟨fun k hk => eK k (by omega), ⟨by rw [eK 0 (by omega)], by rw [eK 0 (by omega)], by rw [eK 0 (by omega)]⟩, ⟨by rw [eK 83 (by omega)], by rw [eK 83 (by omega)], by rw [eK 83 (by omega)]⟩⟩ ⟨fun k hk => eK k hk.2.2, eK 84 (by omega)⟩⟩
        · simp only [fX10_could, e10_isWithin, e10_isQuestion, e10_isYear, e10_isKind, e10_isSlip, e10_isRoom, e10_isChild, e10_isWay, e10_areHours, q1, q2, q3, Option.bind_some, ite10, b2_pos h1, b2_pos h2, b2_pos h3, hcl, ruB2_some]
        · have e84 := eK 84 (by omega)
          have hI2 : fX11_is x1 1 A1 = some (b2 (0 ≤ x1 ∧ x1 ≤ A.1 84 1 - 1)) := by rw [e11_is1, e84]
          have e41 : A1.1 84 4 = iN n := by rw [e84, e4]
          have hin : ∀ (k : Nat) (z : Int32) (K : Int32 → Option (Int32 × ruA)), k < 10 → fX11_could_l54 x1 x2 x3 x4 z (iN k) A1 K ruF 0 x2 = K (cntS (fun q => hAt (A.1 84) x1 (iN (a + q)) n) d k) := by
            intro k z K hk
            rw [ea, ed]
            refine loop_sum (fun f q s => fX11_could_l54 x1 (iN a) (iN (a + d)) x4 z (iN k) A1 K f s (iN (a + q))) d _ K ?_ ?_ ruF (by rw [ruF_eq]; omega)
            · intro f s
              rw [fX11_could_l54, if_pos ((iN_le (by omega) (by omega)).mpr (Nat.le_refl _))]
            · intro f q s hq9
              have hb9 := bt_hAt (N := A.1 84) (room := x1) (hour := iN (a + q)) (k := k) (by omega) n kj
              rw [fX11_could_l54, if_neg (by rw [iN_le (by omega) (by omega)]; omega), f11_heldBy A1 h30 e41 _ _ hk, e84, Option.bind_some, ← hb9, b2_ne, iN_add1]
              by_cases c1 : bt (hAt (A.1 84) x1 (iN (a + q)) n) k = true
              · rw [if_pos c1, Option.bind_some, b2_pos c1]
                rfl
              · rw [if_neg c1, Option.bind_some, b2_neg c1]
                rfl
          have hout : fX11_could_l41 x1 x2 x3 x4 A1 (fun v12 => some (v12, A1)) ruF 0 0 = some (reS (cntS (fun q => hAt (A.1 84) x1 (iN (a + q)) n) d) x4 10, A1) := by
            refine loop_inv (fun f k z => fX11_could_l41 x1 x2 x3 x4 A1 (fun v12 => some (v12, A1)) f z (iN k)) 10 (fun k => reS (cntS (fun q => hAt (A.1 84) x1 (iN (a + q)) n) d) x4 k) _ ?_ ?_ ruF 0 (by decide) (by decide)
            · intro f
              show fX11_could_l41 x1 x2 x3 x4 A1 (fun v12 => some (v12, A1)) (f + 1) _ (iN 10) = _
              rw [fX11_could_l41, if_pos (by decide)]
            · intro f k hk
              show fX11_could_l41 x1 x2 x3 x4 A1 (fun v12 => some (v12, A1)) (f + 1) (reS (cntS (fun q => hAt (A.1 84) x1 (iN (a + q)) n) d) x4 k) (iN k) = fX11_could_l41 x1 x2 x3 x4 A1 (fun v12 => some (v12, A1)) f (reS (cntS (fun q => hAt (A.1 84) x1 (iN (a + q)) n) d) x4 k ||| (if cntS (fun q => hAt (A.1 84) x1 (iN (a + q)) n) d k < x4 then (0 : Int32) else 1 <<< (iN k &&& 31))) (iN (k + 1))
              rw [fX11_could_l41, li10, if_neg (by rw [iN_le (by omega) (by omega)]; omega), hin k _ _ hk, ite_some, Option.bind_some, iN_add1]
          simp only [fX11_could, hI2, e11_within, e11_areHours, Option.bind_some, ite10, b2_pos h1, b2_pos h2, b2_pos h3, hout]
      · refine Op_find hI (-1000001) 0 (by decide) (by decide) ?_ ?_
        · simp only [fX10_could, e10_isWithin, e10_isQuestion, e10_isYear, e10_isKind, e10_isSlip, e10_isRoom, e10_isChild, e10_isWay, e10_areHours, q1, q2, q3, Option.bind_some, b2_pos h1, b2_pos h2, b2_neg h3, ite00, ite10, if_true, if_false]
        · simp only [fX11_could, e11_within, e11_isQuestion, e11_isYear, e11_isSlip, e11_is1f, e11_is2f, e11_is3f, e11_areHours, fndC_84, fndC_83, fndC_88, fndC_89, fndC_90, Option.bind_some, b2_pos h1, b2_pos h2, b2_neg h3, ite00, ite10, if_true, if_false]
    · refine Op_find hI (-1000001) 0 (by decide) (by decide) ?_ ?_
      · simp only [fX10_could, e10_isWithin, e10_isQuestion, e10_isYear, e10_isKind, e10_isSlip, e10_isRoom, e10_isChild, e10_isWay, e10_areHours, q1, q2, q3, Option.bind_some, b2_pos h1, b2_neg h2, ite00, ite10, if_true, if_false]
      · simp only [fX11_could, e11_within, e11_isQuestion, e11_isYear, e11_isSlip, e11_is1f, e11_is2f, e11_is3f, e11_areHours, fndC_84, fndC_83, fndC_88, fndC_89, fndC_90, Option.bind_some, b2_pos h1, b2_neg h2, ite00, ite10, if_true, if_false]
  · refine Op_find hI (-1000001) 0 (by decide) (by decide) ?_ ?_
    · simp only [fX10_could, e10_isWithin, e10_isQuestion, e10_isYear, e10_isKind, e10_isSlip, e10_isRoom, e10_isChild, e10_isWay, e10_areHours, q1, q2, q3, Option.bind_some, b2_neg h1, ite00, ite10, if_true, if_false]
    · simp only [fX11_could, e11_within, e11_isQuestion, e11_isYear, e11_isSlip, e11_is1f, e11_is2f, e11_is3f, e11_areHours, fndC_84, fndC_83, fndC_88, fndC_89, fndC_90, Option.bind_some, b2_neg h1, ite00, ite10, if_true, if_false]
