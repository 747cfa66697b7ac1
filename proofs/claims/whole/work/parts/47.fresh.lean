/-! LEVEL 2: a fresh sheet; sit -/
theorem fillF_step (f : Nat → Int32) (off : Nat) (v : Nat → Int32) (q : Nat) : upd (fillF f off v q) (off + q) (v q) = fillF f off v (q + 1) := by
  funext j
  unfold upd fillF
  by_cases h : j = off + q
  · subst h
    rw [if_pos rfl, if_pos (by omega), Nat.add_sub_cancel_left]
  · rw [if_neg h]
    by_cases h2 : off ≤ j ∧ j < off + q
    · rw [if_pos h2, if_pos (by omega)]
    · rw [if_neg h2, if_neg (by omega)]
theorem fillF_zero (f : Nat → Int32) (off : Nat) (v : Nat → Int32) : fillF f off v 0 = f := by
  funext j
  exact fillF_out (by omega)
def frV (k : Nat) : Int32 := if k = 0 then 1 else if 13 ≤ k then 0 else -1
def nFresh (N : Nat → Int32) (s : Nat) : Nat → Int32 := fillF N (128 + 28 * s) frV 28
theorem nFresh_out {N : Nat → Int32} {s i : Nat} (h : i < 128 + 28 * s ∨ 156 + 28 * s ≤ i) : nFresh N s i = N i := fillF_out (by omega)
theorem nFresh_in {N : Nat → Int32} {s k : Nat} (h : k < 28) : nFresh N s (128 + 28 * s + k) = frV k := fillF_in h
theorem f11_fresh (A : ruA) (N : Nat → Int32) {c y : Nat} (hc : c < 24) (hy : y < 6) (hN : N 0 = iN y) : fX11_fresh (iN c) (rusetA A 84 N) = some (iN (128 + 28 * (6 * c + y)), rusetA A 84 (nFresh N (6 * c + y))) := by
  have hst : 6 * c + y < 144 := by omega
  unfold fX11_fresh nFresh
  rw [ruld84_0, Option.bind_some, hN, e11_sheetAt, Option.bind_some]
  generalize 6 * c + y = s at *
  have h := loop_inv (fun n q B => fX11_fresh_l13 (iN (128 + 28 * s)) (fun A5 => some (iN (128 + 28 * s), A5)) n (iN q) B) 28 (fun q => rusetA A 84 (fillF N (128 + 28 * s) frV q)) (some (iN (128 + 28 * s), rusetA A 84 (fillF N (128 + 28 * s) frV 28))) ?_ ?_ ruF 0 (by decide) (by decide)
  · rw [fillF_zero] at h
    exact h
  · intro n
    show fX11_fresh_l13 (iN (128 + 28 * s)) _ (n + 1) (iN 28) _ = _
    rw [fX11_fresh_l13, if_pos (by decide)]
  · intro n q hq
    show fX11_fresh_l13 (iN (128 + 28 * s)) _ (n + 1) (iN q) _ = _
    have hv : (if iN q = 0 then some (1 : Int32) else if (13 : Int32) ≤ iN q then some 0 else some (-1)) = some (frV q) := by
      unfold frV
      have h0 : iN q = 0 ↔ q = 0 := iN_inj (b := 0) (by omega) (by omega)
      have h1 : (13 : Int32) ≤ iN q ↔ 13 ≤ q := iN_le (a := 13) (by omega) (by omega)
      by_cases c1 : q = 0
      · rw [if_pos (h0.mpr c1), if_pos c1]
      · rw [if_neg (fun h => c1 (h0.mp h)), if_neg c1]
        by_cases c2 : 13 ≤ q
        · rw [if_pos (h1.mpr c2), if_pos c2]
        · rw [if_neg (fun h => c2 (h1.mp h)), if_neg c2]
    rw [fX11_fresh_l13, li28, if_neg (by rw [iN_le (by omega) (by omega)]; omega), hv, Option.bind_some, iN_add, rust84 A _ _ (by omega), Option.bind_some, fillF_step, iN_add1]
theorem f10_fillR (A : ruA) {k n off m : Nat} (hk : rudI k = some n) (hn : n ≤ 10000) (h : off + m ≤ n) (v : Int32) : fJ7_fill_fda19 k (iN off) (iN (off + m)) v A = some (rusetA A k (fillF (A.1 k) off (fun _ => v) m)) := by
  have hrc : fJ7_rangeCheck_23922 (iN n) (iN off) (iN (off + m)) = some () := by
    unfold fJ7_rangeCheck_23922
    rw [if_pos ((iN_le (by omega) (by omega)).mpr (by omega)), if_pos (iN_nonneg (by omega)), if_pos ((iN_le (by omega) (by omega)).mpr h)]
  unfold fJ7_fill_fda19
  rw [hk, Option.bind_some, iN_eq, hrc, Option.bind_some]
  refine loop_fill (fun r q B => fJ7_fill_fda19_l10 k (iN (off + m)) v (fun A4 => some A4) r (iN (off + q)) B) A k off m (fun _ => v) (fun B => some B) ?_ ?_ ruF (by rw [ruF_eq]; omega)
  · intro r B
    rw [fJ7_fill_fda19_l10, if_pos ((iN_le (by omega) (by omega)).mpr (Nat.le_refl _))]
  · intro r q hq
    rw [fJ7_fill_fda19_l10, if_neg (by rw [iN_le (by omega) (by omega)]; omega), hk, Option.bind_some, rust_iN (by omega) (by omega), Option.bind_some, iN_add1]
    rfl
theorem f10_begin {A0 A : ruA} {N0 N : Nat → Int32} (h : coup A0 A N0 N) {s : Nat} (hs : s < 6 * cn N 2) (hs2 : s < 144) : ∃ B, fX6_begin (iN s) A = some B ∧ coup A0 B N0 (nFresh N s) := by
  obtain ⟨⟨s1, s2, s3, s4⟩, e1, e2⟩ := h
  generalize hB : rusetA (rusetA (rusetA (ruset A 10 s 1) 11 (fillF (A.1 11) (12 * s) (fun _ => -1) 12)) 12 (fillF (A.1 12) (12 * s) (fun _ => 0) 12)) 13 (fillF (A.1 13) (3 * s) (fun _ => 0) 3) = B
  refine ⟨B, ?_, ?_⟩
  · have f1 := f10_fillR (ruset A 10 s 1) (k := 11) (n := 1728) (off := 12 * s) (m := 12) rfl (by decide) (by omega) (-1)
    have f2 := f10_fillR (rusetA (ruset A 10 s 1) 11 (fillF (A.1 11) (12 * s) (fun _ => -1) 12)) (k := 12) (n := 1728) (off := 12 * s) (m := 12) rfl (by decide) (by omega) 0
    have f3 := f10_fillR (rusetA (rusetA (ruset A 10 s 1) 11 (fillF (A.1 11) (12 * s) (fun _ => -1) 12)) 12 (fillF (A.1 12) (12 * s) (fun _ => 0) 12)) (k := 13) (n := 432) (off := 3 * s) (m := 3) rfl (by decide) (by omega) 0
    have a1 : iN s * 12 = iN (12 * s) := by rw [li12, iN_mul, Nat.mul_comm]
    have a2 : (iN s + 1) * 12 = iN (12 * s + 12) := by rw [li12, iN_add1, iN_mul]; congr 1; omega
    have a3 : iN s * 3 = iN (3 * s) := by rw [li3, iN_mul, Nat.mul_comm]
    have a4 : (iN s + 1) * 3 = iN (3 * s + 3) := by rw [li3, iN_add1, iN_mul]; congr 1; omega
    have e0 : (1 : Int32) &&& 1 = 1 := by decide
    unfold fX6_begin
    rw [e0, rust_iN hs2 (by decide), Option.bind_some, a1, a2, a3, a4, f1, Option.bind_some]
    have g1 : (ruset A 10 s 1).1 11 = A.1 11 := rs_ne _ _ _ (by decide)
    rw [g1, f2, Option.bind_some]
    have g2 : (rusetA (ruset A 10 s 1) 11 (fillF (A.1 11) (12 * s) (fun _ => -1) 12)).1 12 = A.1 12 := by rw [rsA_ne _ _ (by decide), rs_ne _ _ _ (by decide)]
    rw [g2, f3, Option.bind_some]
    have g3 : (rusetA (rusetA (ruset A 10 s 1) 11 (fillF (A.1 11) (12 * s) (fun _ => -1) 12)) 12 (fillF (A.1 12) (12 * s) (fun _ => 0) 12)).1 13 = A.1 13 := by rw [rsA_ne _ _ (by decide), rsA_ne _ _ (by decide), rs_ne _ _ _ (by decide)]
    rw [g3, hB]
  · have b10 : B.1 10 = upd (A.1 10) s 1 := by
      rw [← hB, rsA_ne _ _ (by decide), rsA_ne _ _ (by decide), rsA_ne _ _ (by decide), rs_eq]
    have b11 : B.1 11 = fillF (A.1 11) (12 * s) (fun _ => -1) 12 := by
      rw [← hB, rsA_ne _ _ (by decide), rsA_ne _ _ (by decide), rsA_same]
    have b12 : B.1 12 = fillF (A.1 12) (12 * s) (fun _ => 0) 12 := by
      rw [← hB, rsA_ne _ _ (by decide), rsA_same]
    have b13 : B.1 13 = fillF (A.1 13) (3 * s) (fun _ => 0) 3 := by
      rw [← hB, rsA_same]
    have bK : ∀ k, k < 10 ∨ 13 < k → B.1 k = A.1 k := by
      intro k hk
      rw [← hB, rsA_ne _ _ (by omega), rsA_ne _ _ (by omega), rsA_ne _ _ (by omega), rs_ne _ _ _ (by omega)]
    clear hB
    have eN : ∀ i, i < 128 ∨ 4160 ≤ i → nFresh N s i = N i := fun i hi => nFresh_out (by omega)
    refine ⟨⟨s1.congr ⟨bK _ (by omega), bK _ (by omega)⟩ fun i a b => eN i (by omega), ?_, ?_, ?_⟩, fun k hk => (bK k hk).trans (e1 k hk), fun i hi => (eN i hi).trans (e2 i hi)⟩
    · intro t ht
      rw [show B.1 (1 + 9) = upd (A.1 10) s 1 from b10, cn_congr (eN 2 (by omega))]
      by_cases e : t = s
      · subst e
        have h0 : nFresh N t (128 + 28 * t) = 1 := nFresh_in (k := 0) (by decide)
        rw [upd_same, h0]
        exact ⟨rfl, Or.inr rfl, by omega⟩
      · rw [upd_ne _ _ e, nFresh_out (by omega)]
        exact s2 t ht
    · intro t ht q hq
      rw [show B.1 (1 + 10) = _ from b11, show B.1 (1 + 11) = _ from b12]
      by_cases e : t = s
      · subst e
        have h0 : nFresh N t (129 + 28 * t + q) = -1 := by
          have := nFresh_in (N := N) (s := t) (k := 1 + q) (by omega)
          rw [show 128 + 28 * t + (1 + q) = 129 + 28 * t + q by omega] at this
          rw [this]
          unfold frV
          rw [if_neg (by omega), if_neg (by omega)]
        have h1 : nFresh N t (141 + 28 * t + q) = 0 := by
          have := nFresh_in (N := N) (s := t) (k := 13 + q) (by omega)
          rw [show 128 + 28 * t + (13 + q) = 141 + 28 * t + q by omega] at this
          rw [this]
          unfold frV
          rw [if_neg (by omega), if_pos (by omega)]
        rw [fillF_in hq, fillF_in hq, h0, h1]
        exact ⟨rfl, ⟨by decide, by decide⟩, rfl, by decide, by decide⟩
      · rw [fillF_out (by omega), fillF_out (by omega), nFresh_out (by omega), nFresh_out (by omega)]
        exact s3 t ht q hq
    · intro t ht k hk
      rw [show B.1 (1 + 12) = _ from b13]
      by_cases e : t = s
      · subst e
        have h0 : nFresh N t (153 + 28 * t + k) = 0 := by
          have := nFresh_in (N := N) (s := t) (k := 25 + k) (by omega)
          rw [show 128 + 28 * t + (25 + k) = 153 + 28 * t + k by omega] at this
          rw [this]
          unfold frV
          rw [if_neg (by omega), if_pos (by omega)]
        rw [fillF_in hk, h0]
      · rw [fillF_out (by omega), nFresh_out (by omega)]
        exact s4 t ht k hk
/-- lots -/
def lotN (l : Int32) : Int32 := l * 1103515245 + 12345
def lotC (l : Int32) : Int32 := ruushr (lotN l) 16 - ruushr (lotN l) 16 / 5 * 5
theorem lotC_rng (l : Int32) : ∃ w, w < 5 ∧ lotC l = iN w := by
  have h1 : ∃ u, u < 65536 ∧ ruushr (lotN l) 16 = iN u := by
    refine ⟨(ruushr (lotN l) 16).toBitVec.toNat, ?_, ?_⟩
    · have e : (ruushr (lotN l) 16).toBitVec = (lotN l).toBitVec >>> 16 := ushr_bv (k := 16) (by decide)
      rw [e, BitVec.toNat_ushiftRight, Nat.shiftRight_eq_div_pow]
      have := (lotN l).toBitVec.isLt
      omega
    · unfold iN
      rw [Int32.ofNat_bitVecToNat]
      rfl
  obtain ⟨u, hu, eu⟩ := h1
  refine ⟨u % 5, by omega, ?_⟩
  unfold lotC
  have e5 : iN u / 5 = iN (u / 5) := (Int32.ofNat_div (a := u) (b := 5) (by omega) (by decide)).symm
  rw [eu, e5, li5, iN_mul, iN_sub (by omega)]
  congr 1
  omega
def stepSit (c s : Nat) (p : Int32 × (Nat → Int32)) (q : Nat) : Int32 × (Nat → Int32) :=
  if bt (p.2 (35 + 4 * c)) q = true then (p.1, nPut p.2 s q 2 (p.2 (8 + q))) else if bt (p.2 (34 + 4 * c)) q = true then (p.1, nPut p.2 s q 1 (p.2 (8 + q))) else if 4 ≤ lotC p.1 then (lotN p.1, p.2) else (lotN p.1, nPut p.2 s q 7 (lotC p.1))
def sitS (c s : Nat) (l : Int32) (N : Nat → Int32) : Nat → Int32 × (Nat → Int32)
  | 0 => (l, N)
  | q + 1 => stepSit c s (sitS c s l N q) q
theorem stepSit_out {c s : Nat} {p : Int32 × (Nat → Int32)} {q : Nat} (hs : s < 144) (hq : q < 12) {i : Nat} (h : i ≠ 129 + 28 * s + q ∧ i ≠ 141 + 28 * s + q) : (stepSit c s p q).2 i = p.2 i := by
  have key : ∀ k v, nPut p.2 s q k v i = p.2 i := by
    intro k v
    unfold nPut
    rw [upd_ne _ _ h.2, upd_ne _ _ h.1]
  unfold stepSit
  repeat' split
  · exact key _ _
  · exact key _ _
  · rfl
  · exact key _ _
theorem sitS_out {c s : Nat} {l : Int32} {N : Nat → Int32} (hs : s < 144) : ∀ (q : Nat), q ≤ 12 → ∀ i, (i < 129 + 28 * s ∨ 153 + 28 * s ≤ i) → (sitS c s l N q).2 i = N i
  | 0, _, _, _ => rfl
  | q + 1, h, i, hi => by
    show (stepSit c s (sitS c s l N q) q).2 i = _
    rw [stepSit_out hs (by omega) (by omega), sitS_out hs q (by omega) i hi]
theorem sitS_blank {c s : Nat} {l : Int32} {N : Nat → Int32} (hs : s < 144) : ∀ (q : Nat), q ≤ 12 → ∀ j, q ≤ j → j < 12 → (sitS c s l N q).2 (129 + 28 * s + j) = N (129 + 28 * s + j)
  | 0, _, _, _, _ => rfl
  | q + 1, h, j, hj, hj2 => by
    show (stepSit c s (sitS c s l N q) q).2 _ = _
    rw [stepSit_out hs (by omega) (by omega), sitS_blank hs q (by omega) j (by omega) hj2]
theorem mark_blank {N : Nat → Int32} {s q : Nat} {k v : Int32} (h : N (129 + 28 * s + q) = -1) (hv : ¬ v = -1) : nMark N s q k v = nPut N s q k v := by
  unfold nMark
  rw [if_neg (fun e => hv (e.symm.trans h)), if_pos h]
theorem f11_sit_l {β : Type} (A : ruA) (N : Nat → Int32) {c s : Nat} (hc : c < 24) (hs : s < 144) (l : Int32) (k : ruA → Option β) : fX11_sit_l49 (iN c) (iN (128 + 28 * s)) k ruF l 0 (rusetA A 84 N) = k (rusetA A 84 (sitS c s l N 12).2) := by
  refine loop_inv (fun n q (p : Int32 × (Nat → Int32)) => fX11_sit_l49 (iN c) (iN (128 + 28 * s)) k n p.1 (iN q) (rusetA A 84 p.2)) 12 (fun q => sitS c s l N q) _ ?_ ?_ ruF 0 (by decide) (by decide)
  · intro n
    show fX11_sit_l49 (iN c) (iN (128 + 28 * s)) k (n + 1) _ (iN 12) _ = _
    rw [fX11_sit_l49, if_pos (by decide)]
  · intro n q hq
    show fX11_sit_l49 (iN c) (iN (128 + 28 * s)) k (n + 1) (sitS c s l N q).1 (iN q) (rusetA A 84 (sitS c s l N q).2) = fX11_sit_l49 (iN c) (iN (128 + 28 * s)) k n (stepSit c s (sitS c s l N q) q).1 (iN (q + 1)) (rusetA A 84 (stepSit c s (sitS c s l N q) q).2)
    generalize sitS c s l N q = p
    obtain ⟨x, M⟩ := p
    have f3 : fX11_childOf (iN c) 3 (rusetA A 84 M) = some (M (35 + 4 * c)) := by
      have := f11_childOf (rusetA A 84 M) (c := c) (j := 3) hc (by decide)
      rw [rusetA_at, show 32 + 4 * c + 3 = 35 + 4 * c by omega] at this
      exact this
    have f2 : fX11_childOf (iN c) 2 (rusetA A 84 M) = some (M (34 + 4 * c)) := by
      have := f11_childOf (rusetA A 84 M) (c := c) (j := 2) hc (by decide)
      rw [rusetA_at, show 32 + 4 * c + 2 = 34 + 4 * c by omega] at this
      exact this
    have f8 : ruld ((rusetA A 84 M).1 84) 4920 (8 + iN q) = some (M (8 + q)) := by
      rw [li8, iN_add, ruld84 A M (by omega)]
    have hL : x * 1103515245 + 12345 = lotN x := rfl
    have hC : ruushr (lotN x) 16 - ruushr (lotN x) 16 / 5 * 5 = lotC x := rfl
    rw [fX11_sit_l49, li12, if_neg (by rw [iN_le (by omega) (by omega)]; omega), f3, Option.bind_some, e11_has (by omega), Option.bind_some, b2_ne, iN_add1]
    unfold stepSit
    by_cases c1 : bt (M (35 + 4 * c)) q = true
    · rw [if_pos c1, if_pos c1, f8, Option.bind_some, f11_put A M hs hq, Option.bind_some, ruB2_some]
    · rw [if_neg c1, if_neg c1, f2, Option.bind_some, e11_has (by omega), Option.bind_some, b2_ne]
      by_cases c2 : bt (M (34 + 4 * c)) q = true
      · rw [if_pos c2, if_pos c2, f8, Option.bind_some, f11_put A M hs hq, Option.bind_some, ruB2_some]
      · rw [if_neg c2, if_neg c2, hL, hC]
        by_cases c3 : 4 ≤ lotC x
        · rw [if_pos c3, if_pos c3, ruB2_some]
        · rw [if_neg c3, if_neg c3, f11_put A M hs hq, Option.bind_some, ruB2_some]
theorem f10_sit_l {A0 A : ruA} {N0 N : Nat → Int32} (h : coup A0 A N0 N) {c s : Nat} (hc : c < 24) (hs : s < 144) (k7 : A0.1 7 c = N0 (34 + 4 * c)) (k8 : A0.1 8 c = N0 (35 + 4 * c)) (hbl : ∀ j, j < 12 → N (129 + 28 * s + j) = -1) (l : Int32) : ∃ B, fX10_answerAll (iN c) (iN s) l A = some B ∧ coup A0 B N0 (sitS c s l N 12).2 := by
  unfold fX10_answerAll
  refine loop_gen (fun n q (p : Int32 × ruA) => fX10_answerAll_l6 (iN c) (iN s) (fun A15 => some A15) n p.1 (iN q) p.2) 12 (fun q p => p.1 = (sitS c s l N q).1 ∧ coup A0 p.2 N0 (sitS c s l N q).2) (fun r => ∃ B, r = some B ∧ coup A0 B N0 (sitS c s l N 12).2) ?_ ?_ ruF 0 (l, A) (by decide) (by decide) ⟨rfl, h⟩
  · intro n p hI
    refine ⟨p.2, ?_, hI.2⟩
    show fX10_answerAll_l6 (iN c) (iN s) (fun A15 => some A15) (n + 1) p.1 (iN 12) p.2 = _
    rw [fX10_answerAll_l6, if_pos (by decide)]
  · intro n q p hq hI
    right
    obtain ⟨x, B⟩ := p
    obtain ⟨hx, hC⟩ := hI
    have hx : x = (sitS c s l N q).1 := hx
    have hC : coup A0 B N0 (sitS c s l N q).2 := hC
    have hbq : (sitS c s l N q).2 (129 + 28 * s + q) = -1 := by
      rw [sitS_blank hs q (by omega) q (Nat.le_refl _) hq]
      exact hbl q hq
    show ∃ s' : Int32 × ruA, fX10_answerAll_l6 (iN c) (iN s) (fun A15 => some A15) (n + 1) x (iN q) B = fX10_answerAll_l6 (iN c) (iN s) (fun A15 => some A15) n s'.1 (iN (q + 1)) s'.2 ∧ s'.1 = (stepSit c s (sitS c s l N q) q).1 ∧ coup A0 s'.2 N0 (stepSit c s (sitS c s l N q) q).2
    generalize hp : sitS c s l N q = p at *
    obtain ⟨x', M⟩ := p
    have hx : x = x' := hx
    subst hx
    have hC : coup A0 B N0 M := hC
    have hbq : M (129 + 28 * s + q) = -1 := hbq
    have r8 : ruld (B.1 8) 24 (iN c) = some (M (35 + 4 * c)) := by rw [ruld_iN hc (by decide), hC.2.1 8 (by omega), k8, ← hC.2.2 (35 + 4 * c) (by omega)]
    have r7 : ruld (B.1 7) 24 (iN c) = some (M (34 + 4 * c)) := by rw [ruld_iN hc (by decide), hC.2.1 7 (by omega), k7, ← hC.2.2 (34 + 4 * c) (by omega)]
    have hL : x * 1103515245 + 12345 = lotN x := rfl
    have hCc : ruushr (lotN x) 16 - ruushr (lotN x) 16 / 5 * 5 = lotC x := rfl
    have kr := key_rng hC.1 hq
    have kn : ¬ M (8 + q) = -1 := by
      intro e
      have := (hC.1.1 q hq).2.1.1
      rw [e] at this
      exact absurd this (by decide)
    rw [fX10_answerAll_l6, li12, if_neg (by rw [iN_le (by omega) (by omega)]; omega), r8, Option.bind_some, e10_has (by omega), Option.bind_some, b2_ne, iN_add1, r7, f10_key hC.1 hq, Option.bind_some, Option.bind_some, Option.bind_some, e10_has (by omega), Option.bind_some, b2_ne, hL, hCc]
    unfold stepSit
    by_cases c1 : bt (M (35 + 4 * c)) q = true
    · obtain ⟨B', b1, bC⟩ := f10_marks hC hs hq (kind := 2) (v := M (8 + q)) ⟨by decide, by decide⟩ kr
      rw [mark_blank hbq kn] at bC
      refine ⟨(x, B'), ?_, ?_, ?_⟩
      · rw [if_pos c1, b1, ruB2_some, ruB2_some]
      · rw [if_pos c1]
      · rw [if_pos c1]
        exact bC
    · by_cases c2 : bt (M (34 + 4 * c)) q = true
      · obtain ⟨B', b1, bC⟩ := f10_marks hC hs hq (kind := 1) (v := M (8 + q)) ⟨by decide, by decide⟩ kr
        rw [mark_blank hbq kn] at bC
        refine ⟨(x, B'), ?_, ?_, ?_⟩
        · rw [if_neg c1, if_pos c2, b1, ruB2_some, ruB2_some]
        · rw [if_neg c1, if_pos c2]
        · rw [if_neg c1, if_pos c2]
          exact bC
      · by_cases c3 : 4 ≤ lotC x
        · refine ⟨(lotN x, B), ?_, ?_, ?_⟩
          · rw [if_neg c1, if_neg c2, if_pos c3, ruB2_some]
          · rw [if_neg c1, if_neg c2, if_pos c3]
          · rw [if_neg c1, if_neg c2, if_pos c3]
            exact hC
        · obtain ⟨w, hw5, ew⟩ := lotC_rng x
          have hw4 : w < 4 := by
            have h3 := c3
            rw [ew, show (4 : Int32) = iN 4 from rfl, iN_le (by omega) (by omega)] at h3
            omega
          have vr : -1 ≤ lotC x ∧ lotC x ≤ 3 := by
            rw [ew]
            have : w = 0 ∨ w = 1 ∨ w = 2 ∨ w = 3 := by omega
            rcases this with rfl | rfl | rfl | rfl <;> decide
          have vn : ¬ lotC x = -1 := by
            rw [ew]
            have : w = 0 ∨ w = 1 ∨ w = 2 ∨ w = 3 := by omega
            rcases this with rfl | rfl | rfl | rfl <;> decide
          obtain ⟨B', b1, bC⟩ := f10_marks hC hs hq (kind := 7) (v := lotC x) ⟨by decide, by decide⟩ vr
          rw [mark_blank hbq vn] at bC
          refine ⟨(lotN x, B'), ?_, ?_, ?_⟩
          · rw [if_neg c1, if_neg c2, if_neg c3, b1, ruB2_some, ruB2_some]
          · rw [if_neg c1, if_neg c2, if_neg c3]
          · rw [if_neg c1, if_neg c2, if_neg c3]
            exact bC
