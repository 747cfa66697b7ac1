/-! LEVEL 2: puts -/
abbrev pSt : Type := Nat × (Nat → Int32)
def pQ (n s : Nat) (p : pSt) (q : Nat) : pSt := if n ≤ p.1 then p else if ¬ p.2 (129 + 28 * s + q) = -1 ∧ ¬ p.2 (129 + 28 * s + q) = p.2 (8 + q) then (p.1 + 1, nMark p.2 s q 5 (p.2 (8 + q))) else p
def pS (n s : Nat) (p : pSt) : Nat → pSt
  | 0 => p
  | q + 1 => pQ n s (pS n s p q) q
def pC (n : Nat) (x : Int32) (y : Nat) (p : pSt) (c : Nat) : pSt := if p.2 (32 + 4 * c) = x ∧ p.2 (128 + 28 * (6 * c + y)) = 1 then pS n (6 * c + y) p 12 else p
def pT (n : Nat) (x : Int32) (y : Nat) (p : pSt) : Nat → pSt
  | 0 => p
  | c + 1 => pC n x y (pT n x y p c) c
theorem pQ_stop {n s : Nat} {p : pSt} {q : Nat} (h : n ≤ p.1) : pQ n s p q = p := if_pos h
theorem pS_stop {n s : Nat} {p : pSt} {q : Nat} (h : n ≤ (pS n s p q).1) : ∀ j, pS n s p (q + j) = pS n s p q
  | 0 => rfl
  | j + 1 => by
    show pQ n s (pS n s p (q + j)) (q + j) = _
    rw [pS_stop h j, pQ_stop h]
theorem pC_stop {n : Nat} {x : Int32} {y : Nat} {p : pSt} {c : Nat} (h : n ≤ p.1) : pC n x y p c = p := by
  unfold pC
  split
  · exact pS_stop (q := 0) h 12
  · rfl
theorem pT_stop {n : Nat} {x : Int32} {y : Nat} {p : pSt} {c : Nat} (h : n ≤ (pT n x y p c).1) : ∀ j, pT n x y p (c + j) = pT n x y p c
  | 0 => rfl
  | j + 1 => by
    show pC n x y (pT n x y p (c + j)) (c + j) = _
    rw [pT_stop h j, pC_stop h]
theorem pQ_le {n s : Nat} {p : pSt} {q : Nat} (h : p.1 ≤ n) : p.1 ≤ (pQ n s p q).1 ∧ (pQ n s p q).1 ≤ n := by
  unfold pQ
  repeat' split
  · exact ⟨Nat.le_refl _, h⟩
  · exact ⟨Nat.le_succ _, by show p.1 + 1 ≤ n; omega⟩
  · exact ⟨Nat.le_refl _, h⟩
theorem pS_le {n s : Nat} {p : pSt} (h : p.1 ≤ n) : ∀ q, p.1 ≤ (pS n s p q).1 ∧ (pS n s p q).1 ≤ n
  | 0 => ⟨Nat.le_refl _, h⟩
  | q + 1 => by
    have ih := pS_le (s := s) h q
    have := pQ_le (s := s) (q := q) ih.2
    exact ⟨Nat.le_trans ih.1 this.1, this.2⟩
theorem pT_le {n : Nat} {x : Int32} {y : Nat} {p : pSt} (h : p.1 ≤ n) : ∀ c, (pT n x y p c).1 ≤ n
  | 0 => h
  | c + 1 => by
    show (pC n x y (pT n x y p c) c).1 ≤ n
    have ih := pT_le (x := x) (y := y) h c
    unfold pC
    split
    · exact (pS_le ih 12).2
    · exact ih
theorem pQ_keep {n s : Nat} {p : pSt} {q : Nat} (hs : s < 144) (hq : q < 12) : (∀ i, i < 128 → (pQ n s p q).2 i = p.2 i) ∧ ∀ t, (pQ n s p q).2 (128 + 28 * t) = p.2 (128 + 28 * t) := by
  unfold pQ
  repeat' split
  · exact ⟨fun _ _ => rfl, fun _ => rfl⟩
  · exact ⟨fun i hi => nMark_out hs hq (by omega), fun t => nMark_th hq t⟩
  · exact ⟨fun _ _ => rfl, fun _ => rfl⟩
theorem pS_keep {n s : Nat} {p : pSt} (hs : s < 144) : ∀ q, q ≤ 12 → (∀ i, i < 128 → (pS n s p q).2 i = p.2 i) ∧ ∀ t, (pS n s p q).2 (128 + 28 * t) = p.2 (128 + 28 * t)
  | 0, _ => ⟨fun _ _ => rfl, fun _ => rfl⟩
  | q + 1, h => by
    have ih := pS_keep (n := n) (p := p) hs q (by omega)
    have hk := pQ_keep (n := n) (s := s) (p := pS n s p q) (q := q) hs (by omega)
    exact ⟨fun i hi => (hk.1 i hi).trans (ih.1 i hi), fun t => (hk.2 t).trans (ih.2 t)⟩
theorem pT_keep {n : Nat} {x : Int32} {y : Nat} {p : pSt} (hy : y < 6) : ∀ c, c ≤ 24 → ∀ i, i < 128 → (pT n x y p c).2 i = p.2 i
  | 0, _, _, _ => rfl
  | c + 1, h, i, hi => by
    show (pC n x y (pT n x y p c) c).2 i = _
    have ih := pT_keep (n := n) (x := x) (p := p) hy c (by omega) i hi
    unfold pC
    split
    · rw [(pS_keep (by omega) 12 (Nat.le_refl _)).1 i hi, ih]
    · exact ih
theorem f10_putRight {A0 A : ruA} {N0 N : Nat → Int32} (h : coup A0 A N0 N) {s n a : Nat} (hs : s < 144) (hn : n ≤ 99) (ha : a < n) : ∃ B, fX10_putRight (iN s) (iN (n - a)) A = some (iN ((pS n s (a, N) 12).1 - a), B) ∧ coup A0 B N0 (pS n s (a, N) 12).2 := by
  unfold fX10_putRight
  refine loop_gen (fun f q (z : Int32 × ruA) => fX10_putRight_l5 (iN s) (iN (n - a)) (fun v7 A8 => some (v7, A8)) f z.1 (iN q) z.2) 12 (fun q z => z.1 = iN ((pS n s (a, N) q).1 - a) ∧ coup A0 z.2 N0 (pS n s (a, N) q).2) (fun r => ∃ B, r = some (iN ((pS n s (a, N) 12).1 - a), B) ∧ coup A0 B N0 (pS n s (a, N) 12).2) ?_ ?_ ruF 0 (0, A) (by decide) (by decide) ⟨?_, h⟩
  · intro f z hz
    refine ⟨z.2, ?_, hz.2⟩
    show fX10_putRight_l5 (iN s) (iN (n - a)) (fun v7 A8 => some (v7, A8)) (f + 1) z.1 (iN 12) z.2 = _
    rw [fX10_putRight_l5, if_pos (by decide), hz.1]
  · intro f q z hq hz
    obtain ⟨x, B⟩ := z
    obtain ⟨hx, hB⟩ := hz
    have hx : x = iN ((pS n s (a, N) q).1 - a) := hx
    have hB : coup A0 B N0 (pS n s (a, N) q).2 := hB
    have hle : a ≤ (pS n s (a, N) q).1 ∧ (pS n s (a, N) q).1 ≤ n := pS_le (p := (a, N)) (by show a ≤ n; omega) q
    show (∃ B', fX10_putRight_l5 (iN s) (iN (n - a)) (fun v7 A8 => some (v7, A8)) (f + 1) x (iN q) B = _ ∧ _) ∨ ∃ z' : Int32 × ruA, fX10_putRight_l5 (iN s) (iN (n - a)) (fun v7 A8 => some (v7, A8)) (f + 1) x (iN q) B = fX10_putRight_l5 (iN s) (iN (n - a)) (fun v7 A8 => some (v7, A8)) f z'.1 (iN (q + 1)) z'.2 ∧ z'.1 = iN ((pQ n s (pS n s (a, N) q) q).1 - a) ∧ coup A0 z'.2 N0 (pQ n s (pS n s (a, N) q) q).2
    by_cases c0 : n ≤ (pS n s (a, N) q).1
    · left
      have e12 : pS n s (a, N) 12 = pS n s (a, N) q := by
        have := pS_stop c0 (12 - q)
        rw [show q + (12 - q) = 12 by omega] at this
        exact this
      rw [e12]
      refine ⟨B, ?_, hB⟩
      rw [fX10_putRight_l5, li12, if_neg (by rw [iN_le (by omega) (by omega)]; omega), hx, if_pos ((iN_le (by omega) (by omega)).mpr (by omega))]
    · right
      generalize pS n s (a, N) q = p at *
      obtain ⟨b, M⟩ := p
      have c0 : ¬ n ≤ b := c0
      have hle : a ≤ b ∧ b ≤ n := hle
      have hx : x = iN (b - a) := hx
      have hB : coup A0 B N0 M := hB
      have hstep : fX10_putRight_l5 (iN s) (iN (n - a)) (fun v7 A8 => some (v7, A8)) (f + 1) x (iN q) B = ruB2 (if M (129 + 28 * s + q) = -1 then some (x, B) else (ruB2 (fX10_marks (iN s) (iN q) 5 (M (8 + q)) B) fun v5 A6 => if v5 = 0 then some (x, A6) else some (x + 1, A6))) fun v2 A3 => fX10_putRight_l5 (iN s) (iN (n - a)) (fun v7 A8 => some (v7, A8)) f v2 (iN (q + 1)) A3 := by
        rw [fX10_putRight_l5, li12, if_neg (by rw [iN_le (by omega) (by omega)]; omega), hx, if_neg (by rw [iN_le (by omega) (by omega)]; omega), f10_choiceAt hB.1 hs hq, Option.bind_some, f10_key hB.1 hq, Option.bind_some, iN_add1 q]
      rw [hstep]
      unfold pQ
      rw [if_neg c0]
      show ∃ z' : Int32 × ruA, _ = _ ∧ z'.1 = iN ((if ¬ M (129 + 28 * s + q) = -1 ∧ ¬ M (129 + 28 * s + q) = M (8 + q) then (b + 1, nMark M s q 5 (M (8 + q))) else (b, M)).1 - a) ∧ coup A0 z'.2 N0 (if ¬ M (129 + 28 * s + q) = -1 ∧ ¬ M (129 + 28 * s + q) = M (8 + q) then (b + 1, nMark M s q 5 (M (8 + q))) else (b, M)).2
      by_cases c1 : M (129 + 28 * s + q) = -1
      · refine ⟨(x, B), ?_, ?_, ?_⟩
        · rw [if_pos c1, ruB2_some]
        · rw [if_neg (fun h => h.1 c1)]
          exact hx
        · rw [if_neg (fun h => h.1 c1)]
          exact hB
      · obtain ⟨B', b1, bC⟩ := f10_marks hB hs hq (kind := 5) (v := M (8 + q)) ⟨by decide, by decide⟩ (key_rng hB.1 hq)
        by_cases c2 : M (129 + 28 * s + q) = M (8 + q)
        · refine ⟨(x, B'), ?_, ?_, ?_⟩
          · rw [if_neg c1, b1, ruB2_some, b2_neg (fun h => h c2), ite00, ruB2_some]
          · rw [if_neg (fun h => h.2 c2)]
            exact hx
          · rw [if_neg (fun h => h.2 c2)]
            have e : nMark M s q 5 (M (8 + q)) = M := by
              unfold nMark
              rw [if_pos c2]
            rw [e] at bC
            exact bC
        · refine ⟨(x + 1, B'), ?_, ?_, ?_⟩
          · rw [if_neg c1, b1, ruB2_some, b2_pos c2, ite10, ruB2_some]
          · rw [if_pos ⟨c1, c2⟩]
            show x + 1 = iN (b + 1 - a)
            rw [hx, iN_add1]
            congr 1
            omega
          · rw [if_pos ⟨c1, c2⟩]
            exact bC
  · show (0 : Int32) = iN (a - a)
    rw [Nat.sub_self]
    rfl
theorem f11_putIn {β : Type} (A : ruA) (N : Nat → Int32) {c y n a : Nat} (hc : c < 24) (hy : y < 6) (hn : n ≤ 99) (ha : a ≤ n) (hN : N 0 = iN y) (x : Int32) (k : Int32 → ruA → Option β) : fX11_puts_l45 x (iN n) (iN c) k ruF (iN a) 0 (rusetA A 84 N) = k (iN (pC n x y (a, N) c).1) (rusetA A 84 (pC n x y (a, N) c).2) := by
  have hst : 6 * c + y < 144 := by omega
  have key : ∀ (P : Prop), (P ↔ (N (32 + 4 * c) = x ∧ N (128 + 28 * (6 * c + y)) = 1)) → P → fX11_puts_l45 x (iN n) (iN c) k ruF (iN a) 0 (rusetA A 84 N) = k (iN (pS n (6 * c + y) (a, N) 12).1) (rusetA A 84 (pS n (6 * c + y) (a, N) 12).2) := by
    intro P hP hp
    have c0 := hP.mp hp
    refine loop_gen (fun f q (z : pSt) => fX11_puts_l45 x (iN n) (iN c) k f (iN z.1) (iN q) (rusetA A 84 z.2)) 12 (fun q z => z = pS n (6 * c + y) (a, N) q) (fun r => r = k (iN (pS n (6 * c + y) (a, N) 12).1) (rusetA A 84 (pS n (6 * c + y) (a, N) 12).2)) ?_ ?_ ruF 0 (a, N) (by decide) (by decide) rfl
    · intro f z hz
      show fX11_puts_l45 x (iN n) (iN c) k (f + 1) (iN z.1) (iN 12) (rusetA A 84 z.2) = _
      rw [fX11_puts_l45, if_pos (by decide), hz]
    · intro f q z hq hz
      have hle := pS_le (s := 6 * c + y) (p := (a, N)) ha q
      have hkp := pS_keep (n := n) (p := (a, N)) hst q (by omega)
      show fX11_puts_l45 x (iN n) (iN c) k (f + 1) (iN z.1) (iN q) (rusetA A 84 z.2) = _ ∨ ∃ z' : pSt, fX11_puts_l45 x (iN n) (iN c) k (f + 1) (iN z.1) (iN q) (rusetA A 84 z.2) = fX11_puts_l45 x (iN n) (iN c) k f (iN z'.1) (iN (q + 1)) (rusetA A 84 z'.2) ∧ z' = pQ n (6 * c + y) (pS n (6 * c + y) (a, N) q) q
      by_cases c9 : n ≤ (pS n (6 * c + y) (a, N) q).1
      · left
        have e12 : pS n (6 * c + y) (a, N) 12 = pS n (6 * c + y) (a, N) q := by
          have := pS_stop c9 (12 - q)
          rw [show q + (12 - q) = 12 by omega] at this
          exact this
        rw [e12, ← hz]
        rw [← hz] at c9 hle
        rw [fX11_puts_l45, li12, if_neg (by rw [iN_le (by omega) (by omega)]; omega), if_pos ((iN_le (by omega) (by omega)).mpr c9)]
      · right
        rw [← hz] at c9 hle hkp ⊢
        clear hz
        obtain ⟨b, M⟩ := z
        have c9 : ¬ n ≤ b := c9
        have hle : a ≤ b ∧ b ≤ n := hle
        have k0 : M 0 = iN y := (hkp.1 0 (by omega)).trans hN
        have k1 : M (32 + 4 * c) = x ∧ M (128 + 28 * (6 * c + y)) = 1 := ⟨(hkp.1 _ (by omega)).trans c0.1, (hkp.2 _).trans c0.2⟩
        clear hkp
        have f8 : ruld ((rusetA A 84 M).1 84) 4920 (8 + iN q) = some (M (8 + q)) := by
          rw [li8, iN_add, ruld84 A M (by omega)]
        have fR : fX11_isRight (iN c) (iN y) (iN q) (rusetA A 84 M) = some (b2 (M (129 + 28 * (6 * c + y) + q) = M (8 + q))) := by
          have := f11_isRight (rusetA A 84 M) hc hy hq
          rw [rusetA_at] at this
          exact this
        refine ⟨pQ n (6 * c + y) (b, M) q, ?_, rfl⟩
        show fX11_puts_l45 x (iN n) (iN c) k (f + 1) (iN b) (iN q) (rusetA A 84 M) = _
        rw [fX11_puts_l45, li12, if_neg (by rw [iN_le (by omega) (by omega)]; omega), if_neg (by rw [iN_le (by omega) (by omega)]; omega), ruld84_0, Option.bind_some, k0, f11_isOfN A M hc hy, Option.bind_some, b2_ne, if_pos k1, Option.bind_some, f11_choiceN A M hc hy hq, Option.bind_some, Option.bind_some, fR, Option.bind_some, b2_ne, f8, Option.bind_some, f11_marks A M hc hy hq k0, ruB2_some, b2_ne, iN_add1]
        unfold pQ
        rw [if_neg (show ¬ n ≤ (b, M).1 from c9)]
        show _ = fX11_puts_l45 x (iN n) (iN c) k f (iN (if ¬ M (129 + 28 * (6 * c + y) + q) = -1 ∧ ¬ M (129 + 28 * (6 * c + y) + q) = M (8 + q) then (b + 1, nMark M (6 * c + y) q 5 (M (8 + q))) else (b, M)).1) (iN (q + 1)) (rusetA A 84 (if ¬ M (129 + 28 * (6 * c + y) + q) = -1 ∧ ¬ M (129 + 28 * (6 * c + y) + q) = M (8 + q) then (b + 1, nMark M (6 * c + y) q 5 (M (8 + q))) else (b, M)).2)
        by_cases c1 : M (129 + 28 * (6 * c + y) + q) = -1
        · rw [if_pos c1, Option.bind_some, ite00, ruB2_some, if_neg (fun h => h.1 c1), Int32.add_zero]
        · by_cases c2 : M (129 + 28 * (6 * c + y) + q) = M (8 + q)
          · rw [if_neg c1, if_pos c2, Option.bind_some, ite00, ruB2_some, if_neg (fun h => h.2 c2), Int32.add_zero]
          · rw [if_neg c1, if_neg c2, Option.bind_some, ite10, if_pos c2, ruB2_some, if_pos ⟨c1, c2⟩, iN_add1]
  unfold pC
  show _ = k (iN (if N (32 + 4 * c) = x ∧ N (128 + 28 * (6 * c + y)) = 1 then pS n (6 * c + y) (a, N) 12 else (a, N)).1) (rusetA A 84 (if N (32 + 4 * c) = x ∧ N (128 + 28 * (6 * c + y)) = 1 then pS n (6 * c + y) (a, N) 12 else (a, N)).2)
  by_cases c0 : N (32 + 4 * c) = x ∧ N (128 + 28 * (6 * c + y)) = 1
  · rw [if_pos c0]
    exact key _ Iff.rfl c0
  · rw [if_neg c0, show ruF = 19999 + 1 from ruF_eq, fX11_puts_l45, if_neg (by decide), ruld84_0, Option.bind_some, hN, f11_isOfN A N hc hy, Option.bind_some, b2_ne, if_neg c0]
    split <;> rfl
theorem op_puts {W : ruWy} {A : ruA} (hI : Inv W A) (x1 x2 : Int32) : Op2 W (fX10_puts x1 x2) (fX11_puts x1 x2) A := by
  obtain ⟨⟨hn, hq, hc, hs, hb, hr, hh, hf, hw⟩, hK, hMf, hMt, hMs⟩ := id hI
  obtain ⟨m0, m1, m2, m3, m4, m5⟩ := id hn
  have q0 : A.1 2 0 = A.1 84 0 := m0.1
  have q1 : A.1 2 1 = A.1 84 1 := m1.1
  have q2 : A.1 2 2 = A.1 84 2 := m2.1
  have q3 : A.1 14 0 = A.1 84 3 := m3.1
  have q4 : A.1 23 0 = A.1 84 4 := m4.1
  have q5 : A.1 29 0 = A.1 84 5 := m5.1
  have sh : shC A (A.1 84) := ⟨hq, hs, hb, hr⟩
  by_cases h1 : 0 ≤ x1 ∧ x1 ≤ A.1 84 1 - 1
  · by_cases h2 : 1 ≤ x2 ∧ x2 ≤ 99
    · obtain ⟨-, ey, hy5⟩ := m0
      obtain ⟨-, ec, hc24⟩ := m2
      generalize cn (A.1 84) 0 = y at *
      generalize cn (A.1 84) 2 = m at *
      have hy : y < 6 := by omega
      have ey0 : A.1 2 0 = iN y := q0.trans ey
      obtain ⟨n, hn99, hn⟩ : ∃ n, n ≤ 99 ∧ x2 = iN n := by
        refine iN_of (m := 99) ?_ (by decide) h2.2
        have h3 := h2.1
        rw [Int32.le_iff_toInt_le] at h3 ⊢
        have e0 : (0 : Int32).toInt = 0 := by decide
        have e1 : (1 : Int32).toInt = 1 := by decide
        omega
      have p0 : ((0, A.1 84) : pSt).1 ≤ n := Nat.zero_le _
      have hcls : ∃ B, fX10_puts_l30 x1 x2 (fun v11 A12 => some (v11, A12)) ruF 0 0 A = some (iN (pT n x1 y (0, A.1 84) m).1, B) ∧ coup A B (A.1 84) (pT n x1 y (0, A.1 84) m).2 := by
        refine loop_gen (fun f c (z : Int32 × ruA) => fX10_puts_l30 x1 x2 (fun v11 A12 => some (v11, A12)) f z.1 (iN c) z.2) m (fun c z => z.1 = iN (pT n x1 y (0, A.1 84) c).1 ∧ coup A z.2 (A.1 84) (pT n x1 y (0, A.1 84) c).2) (fun r => ∃ B, r = some (iN (pT n x1 y (0, A.1 84) m).1, B) ∧ coup A B (A.1 84) (pT n x1 y (0, A.1 84) m).2) ?_ ?_ ruF 0 (0, A) (Nat.zero_le _) (by rw [ruF_eq]; omega) ⟨rfl, coup_refl sh⟩
        · intro f z hz
          refine ⟨z.2, ?_, hz.2⟩
          have e22 : z.2.1 2 2 = iN m := by rw [hz.2.2.1 2 (by omega), q2, ec]
          show fX10_puts_l30 x1 x2 (fun v11 A12 => some (v11, A12)) (f + 1) z.1 (iN m) z.2 = _
          rw [fX10_puts_l30, e22, if_pos ((iN_le (by omega) (by omega)).mpr (Nat.le_refl _)), hz.1]
        · intro f c z hc9 hz
          obtain ⟨x, B⟩ := z
          obtain ⟨hx, hB⟩ := hz
          have hx : x = iN (pT n x1 y (0, A.1 84) c).1 := hx
          have hB : coup A B (A.1 84) (pT n x1 y (0, A.1 84) c).2 := hB
          have hle := pT_le (n := n) (x := x1) (y := y) p0 c
          have e22 : B.1 2 2 = iN m := by rw [hB.2.1 2 (by omega), q2, ec]
          have eyB : B.1 2 0 = iN y := by rw [hB.2.1 2 (by omega), ey0]
          show (∃ B', fX10_puts_l30 x1 x2 (fun v11 A12 => some (v11, A12)) (f + 1) x (iN c) B = _ ∧ _) ∨ ∃ z' : Int32 × ruA, fX10_puts_l30 x1 x2 (fun v11 A12 => some (v11, A12)) (f + 1) x (iN c) B = fX10_puts_l30 x1 x2 (fun v11 A12 => some (v11, A12)) f z'.1 (iN (c + 1)) z'.2 ∧ z'.1 = iN (pC n x1 y (pT n x1 y (0, A.1 84) c) c).1 ∧ coup A z'.2 (A.1 84) (pC n x1 y (pT n x1 y (0, A.1 84) c) c).2
          by_cases c0 : n ≤ (pT n x1 y (0, A.1 84) c).1
          · left
            have em : pT n x1 y (0, A.1 84) m = pT n x1 y (0, A.1 84) c := by
              have := pT_stop c0 (m - c)
              rw [show c + (m - c) = m by omega] at this
              exact this
            rw [em]
            refine ⟨B, ?_, hB⟩
            rw [fX10_puts_l30, e22, if_neg (by rw [iN_le (by omega) (by omega)]; omega), hx, hn, if_pos ((iN_le (by omega) (by omega)).mpr c0)]
          · right
            generalize pT n x1 y (0, A.1 84) c = p at *
            obtain ⟨a, M⟩ := p
            have c0 : ¬ n ≤ a := c0
            have hx : x = iN a := hx
            have hB : coup A B (A.1 84) M := hB
            have hst : 6 * c + y < 144 := by omega
            have hsi := f10_sitsIn hB (c := c) (by omega) hy (hc c (by omega)).1 ey0 x1
            have hstep : fX10_puts_l30 x1 x2 (fun v11 A12 => some (v11, A12)) (f + 1) x (iN c) B = ruB2 (if M (32 + 4 * c) = x1 ∧ M (128 + 28 * (6 * c + y)) = 1 then (ruB2 (fX10_putRight (iN (6 * c + y)) (iN (n - a)) B) fun v9 A10 => some (iN a + v9, A10)) else some (iN a, B)) fun v6 A7 => fX10_puts_l30 x1 x2 (fun v11 A12 => some (v11, A12)) f v6 (iN (c + 1)) A7 := by
              rw [fX10_puts_l30, e22, if_neg (by rw [iN_le (by omega) (by omega)]; omega), hx, hn, if_neg (by rw [iN_le (by omega) (by omega)]; omega), hsi, Option.bind_some, b2_ne, f10_openSheet B eyB, Option.bind_some, iN_add1, iN_sub (by omega)]
            rw [hstep]
            unfold pC
            show ∃ z' : Int32 × ruA, _ = _ ∧ z'.1 = iN (if M (32 + 4 * c) = x1 ∧ M (128 + 28 * (6 * c + y)) = 1 then pS n (6 * c + y) (a, M) 12 else (a, M)).1 ∧ coup A z'.2 (A.1 84) (if M (32 + 4 * c) = x1 ∧ M (128 + 28 * (6 * c + y)) = 1 then pS n (6 * c + y) (a, M) 12 else (a, M)).2
            by_cases c1 : M (32 + 4 * c) = x1 ∧ M (128 + 28 * (6 * c + y)) = 1
            · obtain ⟨B', b1, bC⟩ := f10_putRight hB hst hn99 (a := a) (by omega)
              have hl2 : a ≤ (pS n (6 * c + y) (a, M) 12).1 := (pS_le (p := (a, M)) (by show a ≤ n; omega) 12).1
              refine ⟨(iN (pS n (6 * c + y) (a, M) 12).1, B'), ?_, ?_, ?_⟩
              · rw [if_pos c1, b1, ruB2_some, ruB2_some, iN_add, show a + ((pS n (6 * c + y) (a, M) 12).1 - a) = (pS n (6 * c + y) (a, M) 12).1 by omega]
              · rw [if_pos c1]
              · rw [if_pos c1]
                exact bC
            · refine ⟨(iN a, B), ?_, ?_, ?_⟩
              · rw [if_neg c1, ruB2_some]
              · rw [if_neg c1]
              · rw [if_neg c1]
                exact hB
      obtain ⟨B, b1, bC⟩ := hcls
      have e84 : B.1 84 = A.1 84 := bC.2.1 84 (by omega)
      have hg : fX11_puts_l31 x1 x2 (fun v20 A21 => some (v20, A21)) ruF 0 0 (rusetA B 84 (A.1 84)) = some (iN (pT n x1 y (0, A.1 84) m).1, rusetA B 84 (pT n x1 y (0, A.1 84) m).2) := by
        refine loop_inv (fun f c (z : pSt) => fX11_puts_l31 x1 x2 (fun v20 A21 => some (v20, A21)) f (iN z.1) (iN c) (rusetA B 84 z.2)) m (fun c => pT n x1 y (0, A.1 84) c) _ ?_ ?_ ruF 0 (Nat.zero_le _) (by rw [ruF_eq]; omega)
        · intro f
          have hk : (pT n x1 y (0, A.1 84) m).2 2 = A.1 84 2 := pT_keep (n := n) (x := x1) (p := (0, A.1 84)) hy m (by omega) 2 (by omega)
          show fX11_puts_l31 x1 x2 (fun v20 A21 => some (v20, A21)) (f + 1) (iN (pT n x1 y (0, A.1 84) m).1) (iN m) (rusetA B 84 (pT n x1 y (0, A.1 84) m).2) = _
          rw [fX11_puts_l31, ruld84_2, Option.bind_some, hk, ec, if_pos ((iN_le (by omega) (by omega)).mpr (Nat.le_refl _))]
        · intro f c hc9
          have hk := pT_keep (n := n) (x := x1) (p := (0, A.1 84)) hy c (by omega)
          have hk2 : (pT n x1 y (0, A.1 84) c).2 2 = iN m := (hk 2 (by omega)).trans ec
          have hk0 : (pT n x1 y (0, A.1 84) c).2 0 = iN y := (hk 0 (by omega)).trans ey
          have hle := pT_le (n := n) (x := x1) (y := y) p0 c
          show fX11_puts_l31 x1 x2 (fun v20 A21 => some (v20, A21)) (f + 1) (iN (pT n x1 y (0, A.1 84) c).1) (iN c) (rusetA B 84 (pT n x1 y (0, A.1 84) c).2) = fX11_puts_l31 x1 x2 (fun v20 A21 => some (v20, A21)) f (iN (pC n x1 y (pT n x1 y (0, A.1 84) c) c).1) (iN (c + 1)) (rusetA B 84 (pC n x1 y (pT n x1 y (0, A.1 84) c) c).2)
          generalize pT n x1 y (0, A.1 84) c = p at *
          obtain ⟨a, M⟩ := p
          show fX11_puts_l31 x1 x2 (fun v20 A21 => some (v20, A21)) (f + 1) (iN a) (iN c) (rusetA B 84 M) = _
          rw [fX11_puts_l31, ruld84_2, Option.bind_some, show M 2 = iN m from hk2, if_neg (by rw [iN_le (by omega) (by omega)]; omega), hn, f11_putIn B M (by omega) hy hn99 hle hk0, iN_add1]
      rw [self84 e84] at hg
      refine ⟨iN (pT n x1 y (0, A.1 84) m).1, B, _, ?_, ?_, hI.marks bC⟩
      · simp only [fX10_puts, e10_isWithin, e10_isQuestion, e10_isYear, e10_isKind, e10_isSlip, e10_isRoom, e10_isChild, e10_isWay, e10_areHours, q1, q2, q3, Option.bind_some, ite10, b2_pos h1, b2_pos h2, b1]
      · have hI2 : fX11_is x1 1 B = some (b2 (0 ≤ x1 ∧ x1 ≤ A.1 84 1 - 1)) := by rw [e11_is1, e84]
        simp only [fX11_puts, hI2, e11_within, Option.bind_some, ite10, b2_pos h1, b2_pos h2, hg]
    · refine Op_find hI (-1000001) 0 (by decide) (by decide) ?_ ?_
      · simp only [fX10_puts, e10_isWithin, e10_isQuestion, e10_isYear, e10_isKind, e10_isSlip, e10_isRoom, e10_isChild, e10_isWay, e10_areHours, q1, q2, q3, Option.bind_some, b2_pos h1, b2_neg h2, ite00, ite10, if_true, if_false]
      · simp only [fX11_puts, e11_within, e11_isQuestion, e11_isYear, e11_isSlip, e11_is1f, e11_is2f, e11_is3f, e11_areHours, fndC_84, fndC_83, fndC_88, fndC_89, fndC_90, Option.bind_some, b2_pos h1, b2_neg h2, ite00, ite10, if_true, if_false]
  · refine Op_find hI (-1000001) 0 (by decide) (by decide) ?_ ?_
    · simp only [fX10_puts, e10_isWithin, e10_isQuestion, e10_isYear, e10_isKind, e10_isSlip, e10_isRoom, e10_isChild, e10_isWay, e10_areHours, q1, q2, q3, Option.bind_some, b2_neg h1, ite00, ite10, if_true, if_false]
    · simp only [fX11_puts, e11_within, e11_isQuestion, e11_isYear, e11_isSlip, e11_is1f, e11_is2f, e11_is3f, e11_areHours, fndC_84, fndC_83, fndC_88, fndC_89, fndC_90, Option.bind_some, b2_neg h1, ite00, ite10, if_true, if_false]
