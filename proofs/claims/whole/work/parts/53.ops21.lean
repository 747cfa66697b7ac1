/-! LEVEL 2: who holds a key; gaps, could -/
def anyB (p : Nat → Bool) : Nat → Bool
  | 0 => false
  | n + 1 => anyB p n || p n
theorem anyB_true {p : Nat → Bool} : ∀ n, anyB p n = true → ∃ j, j < n ∧ p j = true
  | 0, h => by cases h
  | n + 1, h => by
    have h : (anyB p n || p n) = true := h
    rw [Bool.or_eq_true] at h
    rcases h with h | h
    · obtain ⟨j, h1, h2⟩ := anyB_true n h
      exact ⟨j, by omega, h2⟩
    · exact ⟨n, by omega, h⟩
theorem anyB_of {p : Nat → Bool} {j : Nat} (hp : p j = true) : ∀ n, j < n → anyB p n = true
  | 0, h => by omega
  | n + 1, h => by
    show (anyB p n || p n) = true
    by_cases e : j = n
    · rw [← e, hp, Bool.or_true]
    · rw [anyB_of hp n (by omega), Bool.true_or]
/-- key h opens the room at the hour -/
def opB (N : Nat → Int32) (room hour : Int32) (h : Nat) : Bool := decide (N (4785 + 4 * h) = room ∧ ¬ hour < N (4786 + 4 * h) ∧ ¬ N (4787 + 4 * h) ≤ hour)
def ofB (N : Nat → Int32) (k : Nat) (h : Nat) : Bool := decide (N (4784 + 4 * h) = iN k)
/-- the class has its keys as N has them -/
def kyC (A : ruA) (N : Nat → Int32) (n : Nat) : Prop := n ≤ 30 ∧ A.1 23 0 = iN n ∧ ∀ h, h < n → A.1 24 h = N (4784 + 4 * h) ∧ A.1 25 h = N (4785 + 4 * h) ∧ A.1 26 h = N (4786 + 4 * h) ∧ A.1 27 h = N (4787 + 4 * h) ∧ ∃ j, j ≤ 9 ∧ N (4784 + 4 * h) = iN j
theorem kyC_of {A : ruA} {N : Nat → Int32} (hh : CBh A.1 1 N) (q4 : A.1 23 0 = N 4) (e4 : N 4 = iN (cn N 4)) (h30 : cn N 4 ≤ 30) : kyC A N (cn N 4) := by
  refine ⟨h30, q4.trans e4, fun h hh9 => ?_⟩
  obtain ⟨u1, u2, u3, u4, u5, u6⟩ := hh h hh9
  obtain ⟨j, j1, j2⟩ := iN_of (m := 9) u5 (by decide) u6
  exact ⟨u1, u2, u3, u4, j, j1, j2⟩
def hAt (N : Nat → Int32) (room hour : Int32) : Nat → Int32
  | 0 => 0
  | h + 1 => if opB N room hour h = true then hAt N room hour h ||| (1 <<< (N (4784 + 4 * h) &&& 31)) else hAt N room hour h
theorem f10_holdersAt {A : ruA} {N : Nat → Int32} {n : Nat} (hk : kyC A N n) (room hour : Int32) : fX2_holdersAt room hour A = some (hAt N room hour n) := by
  obtain ⟨hn, e23, hh⟩ := hk
  unfold fX2_holdersAt
  refine loop_inv (fun f h x => fX2_holdersAt_l5 room hour A (fun v6 => some v6) f x (iN h)) n (fun h => hAt N room hour h) _ ?_ ?_ ruF 0 (Nat.zero_le _) (by rw [ruF_eq]; omega)
  · intro f
    rw [fX2_holdersAt_l5, e23, if_pos ((iN_le (by omega) (by omega)).mpr (Nat.le_refl _))]
  · intro f h hlt
    obtain ⟨a1, a2, a3, a4, -⟩ := hh h hlt
    show fX2_holdersAt_l5 room hour A (fun v6 => some v6) (f + 1) (hAt N room hour h) (iN h) = fX2_holdersAt_l5 room hour A (fun v6 => some v6) f (if opB N room hour h = true then hAt N room hour h ||| (1 <<< (N (4784 + 4 * h) &&& 31)) else hAt N room hour h) (iN (h + 1))
    rw [fX2_holdersAt_l5, e23, if_neg (by rw [iN_le (by omega) (by omega)]; omega), ruld_iN (by omega) (by decide), ruld_iN (by omega) (by decide), ruld_iN (by omega) (by decide), ruld_iN (by omega) (by decide), a1, a2, a3, a4, Option.bind_some, Option.bind_some, Option.bind_some, Option.bind_some, iN_add1]
    unfold opB
    by_cases c1 : N (4785 + 4 * h) = room
    · by_cases c2 : hour < N (4786 + 4 * h)
      · rw [if_pos c1, if_pos c2, Option.bind_some, if_neg (by rw [decide_eq_true_eq]; exact fun h => h.2.1 c2)]
      · by_cases c3 : N (4787 + 4 * h) ≤ hour
        · rw [if_pos c1, if_neg c2, if_pos c3, Option.bind_some, if_neg (by rw [decide_eq_true_eq]; exact fun h => h.2.2 c3)]
        · rw [if_pos c1, if_neg c2, if_neg c3, Option.bind_some, if_pos (by rw [decide_eq_true_eq]; exact ⟨c1, c2, c3⟩)]
    · rw [if_neg c1, Option.bind_some, if_neg (by rw [decide_eq_true_eq]; exact fun h => c1 h.1)]
theorem bt_hAt {N : Nat → Int32} {room hour : Int32} {k : Nat} (hk : k < 32) : ∀ n, (∀ h, h < n → ∃ j, j ≤ 9 ∧ N (4784 + 4 * h) = iN j) → bt (hAt N room hour n) k = anyB (fun h => opB N room hour h && ofB N k h) n
  | 0, _ => bt_zero k
  | n + 1, hj => by
    have ih := bt_hAt (N := N) (room := room) (hour := hour) hk n (fun h hh => hj h (by omega))
    show bt (if opB N room hour n = true then hAt N room hour n ||| (1 <<< (N (4784 + 4 * n) &&& 31)) else hAt N room hour n) k = (anyB (fun h => opB N room hour h && ofB N k h) n || (opB N room hour n && ofB N k n))
    by_cases c1 : opB N room hour n = true
    · obtain ⟨j, hj9, ej⟩ := hj n (by omega)
      rw [if_pos c1, c1, Bool.true_and, bt_or, ih, ej, bt_bit (by omega)]
      congr 1
      unfold ofB
      rw [ej]
      by_cases e : k = j
      · rw [e]
        simp
      · rw [decide_eq_false e, decide_eq_false (fun h => e ((iN_inj (by omega) (by omega)).mp h).symm)]
    · have c1' : opB N room hour n = false := by
        cases hh : opB N room hour n
        · rfl
        · exact absurd hh c1
      rw [if_neg c1, c1', ih, Bool.false_and, Bool.or_false]
theorem hAt_zero {N : Nat → Int32} {room hour : Int32} {n : Nat} (hj : ∀ h, h < n → ∃ j, j ≤ 9 ∧ N (4784 + 4 * h) = iN j) : hAt N room hour n = 0 ↔ ¬ anyB (opB N room hour) n = true := by
  constructor
  · intro h0 hA
    obtain ⟨h, h1, h2⟩ := anyB_true n hA
    obtain ⟨j, hj9, ej⟩ := hj h h1
    have hb := bt_hAt (N := N) (room := room) (hour := hour) (k := j) (by omega) n hj
    rw [h0, bt_zero, anyB_of (j := h) (by
      show (opB N room hour h && ofB N j h) = true
      unfold ofB
      rw [h2, ej, decide_eq_true rfl]
      rfl) n h1] at hb
    cases hb
  · intro hA
    have key : ∀ m, m ≤ n → hAt N room hour m = 0 := by
      intro m
      induction m with
      | zero => exact fun _ => rfl
      | succ m ih =>
        intro hm
        show (if opB N room hour m = true then hAt N room hour m ||| (1 <<< (N (4784 + 4 * m) &&& 31)) else hAt N room hour m) = 0
        rw [if_neg (fun h => hA (anyB_of h n (by omega))), ih (by omega)]
    exact key n (Nat.le_refl _)
theorem f11_held_l (A : ruA) {n : Nat} (hn : n ≤ 30) (e4 : A.1 84 4 = iN n) (who room hour : Int32) (p : Nat → Bool) (hp : ∀ h, h < n → p h = (opB (A.1 84) room hour h && decide (who < 0 ∨ A.1 84 (4784 + 4 * h) = who))) : fX11_isHeld who room hour A = some (b2 (anyB p n = true)) := by
  unfold fX11_isHeld
  refine loop_inv (fun f h x => fX11_isHeld_l6 who room hour A (fun v10 => (rubz v10).bind fun _ => some v10) f x (iN h)) n (fun h => b2 (anyB p h = true)) _ ?_ ?_ ruF 0 (Nat.zero_le _) (by rw [ruF_eq]; omega)
  · intro f
    have l4 : ruld (A.1 84) 4920 4 = some (iN n) := by rw [← e4]; exact l84 A (i := 4) (by decide)
    rw [fX11_isHeld_l6, l4, Option.bind_some, if_pos ((iN_le (by omega) (by omega)).mpr (Nat.le_refl _)), rubz_b2, Option.bind_some]
  · intro f h hlt
    have l4 : ruld (A.1 84) 4920 4 = some (iN n) := by rw [← e4]; exact l84 A (i := 4) (by decide)
    have r0 : ruld (A.1 84) 4920 (4784 + 4 * iN h) = some (A.1 84 (4784 + 4 * h)) := by rw [li4, li4784, iN_mul, iN_add, l84 A (by omega)]
    have r1 : ruld (A.1 84) 4920 (4784 + 4 * iN h + 1) = some (A.1 84 (4785 + 4 * h)) := by
      rw [li4, li4784, iN_mul, iN_add, iN_add1, l84 A (by omega), show 4784 + 4 * h + 1 = 4785 + 4 * h by omega]
    have r2 : ruld (A.1 84) 4920 (4784 + 4 * iN h + 2) = some (A.1 84 (4786 + 4 * h)) := by
      rw [li4, li4784, li2, iN_mul, iN_add, iN_add, l84 A (by omega), show 4784 + 4 * h + 2 = 4786 + 4 * h by omega]
    have r3 : ruld (A.1 84) 4920 (4784 + 4 * iN h + 3) = some (A.1 84 (4787 + 4 * h)) := by
      rw [li4, li4784, li3, iN_mul, iN_add, iN_add, l84 A (by omega), show 4784 + 4 * h + 3 = 4787 + 4 * h by omega]
    have e2 : (anyB p (h + 1) = true) = ((anyB p h || p h) = true) := rfl
    show fX11_isHeld_l6 who room hour A (fun v10 => (rubz v10).bind fun _ => some v10) (f + 1) (b2 (anyB p h = true)) (iN h) = fX11_isHeld_l6 who room hour A (fun v10 => (rubz v10).bind fun _ => some v10) f (b2 ((anyB p h || p h) = true)) (iN (h + 1))
    rw [fX11_isHeld_l6, l4, Option.bind_some, if_neg (by rw [iN_le (by omega) (by omega)]; omega), r0, r1, r2, r3]
    simp only [Option.bind_some]
    rw [b2_ne, iN_add1, hp h hlt]
    unfold opB
    by_cases c0 : anyB p h = true
    · rw [if_pos c0, Option.bind_some, c0, Bool.true_or, b2_pos rfl]
    · have c0' : anyB p h = false := by
        cases hh : anyB p h
        · rfl
        · exact absurd hh c0
      rw [if_neg c0, c0', Bool.false_or]
      by_cases w : who < 0
      · rw [if_pos w, decide_eq_true (Or.inl w : who < 0 ∨ _), Bool.and_true]
        by_cases c1 : A.1 84 (4785 + 4 * h) = room
        · by_cases c2 : hour < A.1 84 (4786 + 4 * h)
          · rw [if_pos c1, if_pos c2, Option.bind_some, b2_neg (by rw [decide_eq_true_eq]; exact fun h => h.2.1 c2)]
          · by_cases c3 : A.1 84 (4787 + 4 * h) ≤ hour
            · rw [if_pos c1, if_neg c2, if_pos c3, Option.bind_some, b2_neg (by rw [decide_eq_true_eq]; exact fun h => h.2.2 c3)]
            · rw [if_pos c1, if_neg c2, if_neg c3, Option.bind_some, b2_pos (by rw [decide_eq_true_eq]; exact ⟨c1, c2, c3⟩)]
        · rw [if_neg c1, Option.bind_some, b2_neg (by rw [decide_eq_true_eq]; exact fun h => c1 h.1)]
      · rw [if_neg w]
        by_cases v : A.1 84 (4784 + 4 * h) = who
        · rw [if_pos v, decide_eq_true (Or.inr v : who < 0 ∨ _), Bool.and_true]
          by_cases c1 : A.1 84 (4785 + 4 * h) = room
          · by_cases c2 : hour < A.1 84 (4786 + 4 * h)
            · rw [if_pos c1, if_pos c2, Option.bind_some, b2_neg (by rw [decide_eq_true_eq]; exact fun h => h.2.1 c2)]
            · by_cases c3 : A.1 84 (4787 + 4 * h) ≤ hour
              · rw [if_pos c1, if_neg c2, if_pos c3, Option.bind_some, b2_neg (by rw [decide_eq_true_eq]; exact fun h => h.2.2 c3)]
              · rw [if_pos c1, if_neg c2, if_neg c3, Option.bind_some, b2_pos (by rw [decide_eq_true_eq]; exact ⟨c1, c2, c3⟩)]
          · rw [if_neg c1, Option.bind_some, b2_neg (by rw [decide_eq_true_eq]; exact fun h => c1 h.1)]
        · rw [if_neg v, Option.bind_some, decide_eq_false (show ¬ (who < 0 ∨ A.1 84 (4784 + 4 * h) = who) from fun h => h.elim w v), Bool.and_false, b2_neg (by decide)]
theorem f11_heldAny (A : ruA) {n : Nat} (hn : n ≤ 30) (e4 : A.1 84 4 = iN n) (room hour : Int32) : fX11_isHeld (-1) room hour A = some (b2 (anyB (opB (A.1 84) room hour) n = true)) :=
  f11_held_l A hn e4 (-1) room hour (opB (A.1 84) room hour) fun h _ => by
    rw [decide_eq_true (Or.inl (by decide) : (-1 : Int32) < 0 ∨ _), Bool.and_true]
theorem f11_heldBy (A : ruA) {n : Nat} (hn : n ≤ 30) (e4 : A.1 84 4 = iN n) (room hour : Int32) {k : Nat} (hk : k < 10) : fX11_isHeld (iN k) room hour A = some (b2 (anyB (fun h => opB (A.1 84) room hour h && ofB (A.1 84) k h) n = true)) :=
  f11_held_l A hn e4 (iN k) room hour _ fun h _ => by
    show (opB (A.1 84) room hour h && ofB (A.1 84) k h) = _
    unfold ofB
    congr 1
    by_cases e : A.1 84 (4784 + 4 * h) = iN k
    · rw [decide_eq_true e, decide_eq_true (Or.inr e)]
    · rw [decide_eq_false e, decide_eq_false (fun h => h.elim (iN_lt_zero (by omega)) e)]
/-- the first hour with a gap -/
def fstG (g : Nat → Prop) [DecidablePred g] (a : Nat) : Nat → Int32
  | 0 => -1
  | q + 1 => if g q then (if 0 ≤ fstG g a q then fstG g a q else iN (a + q)) else fstG g a q
theorem fstG_stay {g : Nat → Prop} [DecidablePred g] {a q : Nat} (h : 0 ≤ fstG g a q) : ∀ j, fstG g a (q + j) = fstG g a q
  | 0 => rfl
  | j + 1 => by
    show (if g (q + j) then (if 0 ≤ fstG g a (q + j) then fstG g a (q + j) else iN (a + (q + j))) else fstG g a (q + j)) = _
    rw [fstG_stay h j, if_pos h]
    split <;> rfl
theorem hours_of {x y : Int32} (h : 0 ≤ x ∧ x < y ∧ y ≤ 99) : ∃ a d, a + d ≤ 99 ∧ x = iN a ∧ y = iN (a + d) := by
  obtain ⟨h1, h2, h3⟩ := h
  have hy0 : 0 ≤ y := by
    rw [Int32.le_iff_toInt_le] at h1 ⊢
    rw [Int32.lt_iff_toInt_lt] at h2
    omega
  obtain ⟨b, hb, eb⟩ := iN_of (m := 99) hy0 (by decide) h3
  have hx9 : x ≤ iN 99 := by
    rw [Int32.le_iff_toInt_le] at h3 ⊢
    rw [Int32.lt_iff_toInt_lt] at h2
    have e : (iN 99).toInt = (99 : Int32).toInt := rfl
    omega
  obtain ⟨a, ha, ea⟩ := iN_of (m := 99) h1 (by decide) hx9
  rw [ea, eb, iN_lt (by omega) (by omega)] at h2
  exact ⟨a, b - a, by omega, ea, by rw [eb]; congr 1; omega⟩
theorem op_gaps {W : ruWy} {A : ruA} (hI : Inv W A) (x1 x2 x3 x4 : Int32) : Op2 W (fX10_gaps x1 x2 x3 x4) (fX11_gaps x1 x2 x3 x4) A := by
  obtain ⟨⟨hn, hq, hc, hs, hb, hr, hh, hf, hw⟩, hK, hMf, hMt, hMs⟩ := id hI
  obtain ⟨m0, m1, m2, m3, m4, m5⟩ := id hn
  have q0 : A.1 2 0 = A.1 84 0 := m0.1
  have q1 : A.1 2 1 = A.1 84 1 := m1.1
  have q2 : A.1 2 2 = A.1 84 2 := m2.1
  have q3 : A.1 14 0 = A.1 84 3 := m3.1
  have q4 : A.1 23 0 = A.1 84 4 := m4.1
  have q5 : A.1 29 0 = A.1 84 5 := m5.1
  by_cases h1 : 0 ≤ x1 ∧ x1 ≤ A.1 84 1 - 1
  · by_cases h2 : 0 ≤ x2 ∧ x2 < x3 ∧ x3 ≤ 99
    · by_cases h3 : 0 ≤ x4 ∧ x4 ≤ 1
      · obtain ⟨a, d, had, ea, ed⟩ := hours_of h2
        obtain ⟨-, e4, h30⟩ := m4
        have ky := kyC_of hh q4 e4 h30
        generalize cn (A.1 84) 4 = n at *
        have kj : ∀ h, h < n → ∃ j, j ≤ 9 ∧ A.1 84 (4784 + 4 * h) = iN j := fun h hh9 => (ky.2.2 h hh9).2.2.2.2
        generalize hg9 : (fun q : Nat => ¬ anyB (opB (A.1 84) x1 (iN (a + q))) n = true) = g
        have hg : ∀ q, g q ↔ ¬ anyB (opB (A.1 84) x1 (iN (a + q))) n = true := fun q => by rw [← hg9]
        clear hg9
        haveI : DecidablePred g := fun q => decidable_of_iff _ (hg q).symm
        have z10 : ∀ q, hAt (A.1 84) x1 (iN (a + q)) n = 0 ↔ g q := fun q => (hAt_zero kj).trans (hg q).symm
        have href : ∀ (K : Int32 → Int32 → Option (Int32 × ruA)), fX11_gaps_l43 x1 x3 x4 A K ruF 0 (-1) x2 = K (sumI (fun q => b2 (g q)) d) (fstG g a d) := by
          intro K
          rw [ea, ed]
          refine loop_inv (fun f q (z : Int32 × Int32) => fX11_gaps_l43 x1 (iN (a + d)) x4 A K f z.1 z.2 (iN (a + q))) d (fun q => (sumI (fun q => b2 (g q)) q, fstG g a q)) _ ?_ ?_ ruF 0 (Nat.zero_le _) (by rw [ruF_eq]; omega)
          · intro f
            show fX11_gaps_l43 x1 (iN (a + d)) x4 A K (f + 1) (sumI (fun q => b2 (g q)) d) (fstG g a d) (iN (a + d)) = _
            rw [fX11_gaps_l43, if_pos ((iN_le (by omega) (by omega)).mpr (Nat.le_refl _))]
          · intro f q hq9
            show fX11_gaps_l43 x1 (iN (a + d)) x4 A K (f + 1) (sumI (fun q => b2 (g q)) q) (fstG g a q) (iN (a + q)) = fX11_gaps_l43 x1 (iN (a + d)) x4 A K f (sumI (fun q => b2 (g q)) q + b2 (g q)) (if g q then (if 0 ≤ fstG g a q then fstG g a q else iN (a + q)) else fstG g a q) (iN (a + q + 1))
            rw [fX11_gaps_l43, if_neg (by rw [iN_le (by omega) (by omega)]; omega), f11_heldAny A h30 e4, Option.bind_some, b2_ne, iN_add1, ite_some, Option.bind_some]
            by_cases c1 : g q
            · rw [if_neg ((hg q).mp c1), ruB2_some, b2_pos c1, if_pos c1]
            · rw [if_pos (Decidable.of_not_not (fun h => c1 ((hg q).mpr h))), ruB2_some, b2_neg c1, if_neg c1, Int32.add_zero]
        by_cases c4 : x4 = 0
        · refine ⟨sumI (fun q => b2 (g q)) d, A, A, ?_, ?_, hI⟩
          · have hcl : fX2_gapCount x1 x2 x3 A = some (sumI (fun q => b2 (g q)) d) := by
              unfold fX2_gapCount
              rw [ea, ed]
              refine loop_sum (fun f q z => fX2_gapCount_l6 x1 (iN (a + d)) A (fun v3 => some v3) f z (iN (a + q))) d (fun q => b2 (g q)) (fun v => some v) ?_ ?_ ruF (by rw [ruF_eq]; omega)
              · intro f z
                rw [fX2_gapCount_l6, if_pos ((iN_le (by omega) (by omega)).mpr (Nat.le_refl _))]
              · intro f q z hq9
                rw [fX2_gapCount_l6, if_neg (by rw [iN_le (by omega) (by omega)]; omega), f10_holdersAt ky, Option.bind_some, iN_add1]
                by_cases c1 : g q
                · rw [if_pos ((z10 q).mpr c1), Option.bind_some, b2_pos c1]
                  rfl
                · rw [if_neg (fun h => c1 ((z10 q).mp h)), Option.bind_some, b2_neg c1, Int32.add_zero]
                  rfl
            simp only [fX10_gaps, e10_isWithin, e10_isQuestion, e10_isYear, e10_isKind, e10_isSlip, e10_isRoom, e10_isChild, e10_isWay, e10_areHours, q1, q2, q3, Option.bind_some, ite10, b2_pos h1, b2_pos h2, b2_pos h3, if_pos c4, hcl]
          · simp only [fX11_gaps, e11_is1, e11_within, e11_areHours, Option.bind_some, ite10, b2_pos h1, b2_pos h2, b2_pos h3, href, if_pos c4]
        · refine ⟨fstG g a d, A, A, ?_, ?_, hI⟩
          · have hcl : fX2_firstGap x1 x2 x3 A = some (fstG g a d) := by
              unfold fX2_firstGap
              rw [ea, ed]
              refine loop_gen (fun f q (_ : Unit) => fX2_firstGap_l3 x1 (iN (a + d)) A (fun v2 => some v2) (some (-1)) f (iN (a + q))) d (fun q _ => fstG g a q = -1) (fun r => r = some (fstG g a d)) ?_ ?_ ruF 0 () (Nat.zero_le _) (by rw [ruF_eq]; omega) rfl
              · intro f _ hz
                rw [fX2_firstGap_l3, if_pos ((iN_le (by omega) (by omega)).mpr (Nat.le_refl _)), hz]
              · intro f q _ hq9 hz
                have e1 : fX2_firstGap_l3 x1 (iN (a + d)) A (fun v2 => some v2) (some (-1)) (f + 1) (iN (a + q)) = if hAt (A.1 84) x1 (iN (a + q)) n = 0 then some (iN (a + q)) else fX2_firstGap_l3 x1 (iN (a + d)) A (fun v2 => some v2) (some (-1)) f (iN (a + (q + 1))) := by
                  rw [fX2_firstGap_l3, if_neg (by rw [iN_le (by omega) (by omega)]; omega), f10_holdersAt ky, Option.bind_some, iN_add1]
                  rfl
                by_cases c1 : g q
                · left
                  have e2 : fstG g a (q + 1) = iN (a + q) := by
                    show (if g q then (if 0 ≤ fstG g a q then fstG g a q else iN (a + q)) else fstG g a q) = _
                    rw [if_pos c1, hz, if_neg (by decide)]
                  have e3 := fstG_stay (g := g) (a := a) (q := q + 1) (by rw [e2]; exact iN_nonneg (by omega)) (d - (q + 1))
                  rw [show q + 1 + (d - (q + 1)) = d by omega] at e3
                  rw [e1, if_pos ((z10 q).mpr c1), e3, e2]
                · right
                  refine ⟨(), ?_, ?_⟩
                  · rw [e1, if_neg (fun h => c1 ((z10 q).mp h))]
                  · show (if g q then (if 0 ≤ fstG g a q then fstG g a q else iN (a + q)) else fstG g a q) = _
                    rw [if_neg c1, hz]
            simp only [fX10_gaps, e10_isWithin, e10_isQuestion, e10_isYear, e10_isKind, e10_isSlip, e10_isRoom, e10_isChild, e10_isWay, e10_areHours, q1, q2, q3, Option.bind_some, ite10, b2_pos h1, b2_pos h2, b2_pos h3, if_neg c4, hcl]
          · simp only [fX11_gaps, e11_is1, e11_within, e11_areHours, Option.bind_some, ite10, b2_pos h1, b2_pos h2, b2_pos h3, href, if_neg c4]
      · refine Op_find hI (-1000001) 0 (by decide) (by decide) ?_ ?_
        · simp only [fX10_gaps, e10_isWithin, e10_isQuestion, e10_isYear, e10_isKind, e10_isSlip, e10_isRoom, e10_isChild, e10_isWay, e10_areHours, q1, q2, q3, Option.bind_some, b2_pos h1, b2_pos h2, b2_neg h3, ite00, ite10, if_true, if_false]
        · simp only [fX11_gaps, e11_within, e11_isQuestion, e11_isYear, e11_isSlip, e11_is1f, e11_is2f, e11_is3f, e11_areHours, fndC_84, fndC_83, fndC_88, fndC_89, fndC_90, Option.bind_some, b2_pos h1, b2_pos h2, b2_neg h3, ite00, ite10, if_true, if_false]
    · refine Op_find hI (-1000001) 0 (by decide) (by decide) ?_ ?_
      · simp only [fX10_gaps, e10_isWithin, e10_isQuestion, e10_isYear, e10_isKind, e10_isSlip, e10_isRoom, e10_isChild, e10_isWay, e10_areHours, q1, q2, q3, Option.bind_some, b2_pos h1, b2_neg h2, ite00, ite10, if_true, if_false]
      · simp only [fX11_gaps, e11_within, e11_isQuestion, e11_isYear, e11_isSlip, e11_is1f, e11_is2f, e11_is3f, e11_areHours, fndC_84, fndC_83, fndC_88, fndC_89, fndC_90, Option.bind_some, b2_pos h1, b2_neg h2, ite00, ite10, if_true, if_false]
  · refine Op_find hI (-1000001) 0 (by decide) (by decide) ?_ ?_
    · simp only [fX10_gaps, e10_isWithin, e10_isQuestion, e10_isYear, e10_isKind, e10_isSlip, e10_isRoom, e10_isChild, e10_isWay, e10_areHours, q1, q2, q3, Option.bind_some, b2_neg h1, ite00, ite10, if_true, if_false]
    · simp only [fX11_gaps, e11_within, e11_isQuestion, e11_isYear, e11_isSlip, e11_is1f, e11_is2f, e11_is3f, e11_areHours, fndC_84, fndC_83, fndC_88, fndC_89, fndC_90, Option.bind_some, b2_neg h1, ite00, ite10, if_true, if_false]
