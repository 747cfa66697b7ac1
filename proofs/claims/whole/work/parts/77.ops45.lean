/-! LEVEL 2: sets of rooms; check, odd -/
def sB (p : Nat → Prop) [DecidablePred p] : Nat → Int32
  | 0 => 0
  | n + 1 => sB p n ||| (if p n then (1 : Int32) <<< (iN n &&& 31) else 0)
theorem bt_sB {p : Nat → Prop} [DecidablePred p] {k : Nat} : ∀ n, n ≤ 32 → bt (sB p n) k = decide (k < n ∧ p k)
  | 0, _ => by
    rw [decide_eq_false (by omega)]
    exact bt_zero k
  | m + 1, h => by
    show bt (sB p m ||| (if p m then (1 : Int32) <<< (iN m &&& 31) else 0)) k = _
    rw [bt_or, bt_sB m (by omega)]
    by_cases e : k = m
    · subst e
      by_cases c1 : p k
      · rw [if_pos c1, bt_bit (by omega), decide_eq_true rfl, Bool.or_true, decide_eq_true ⟨by omega, c1⟩]
      · rw [if_neg c1, bt_zero, Bool.or_false, decide_eq_false (fun h => c1 h.2), decide_eq_false (fun h => c1 h.2)]
    · have e2 : bt (if p m then (1 : Int32) <<< (iN m &&& 31) else 0) k = false := by
        split
        · rw [bt_bit (by omega), decide_eq_false e]
        · exact bt_zero k
      rw [e2, Bool.or_false]
      congr 1
      apply propext
      constructor
      · exact fun h => ⟨by omega, h.2⟩
      · exact fun h => ⟨by omega, h.2⟩
theorem bt_sB_iff {p : Nat → Prop} [DecidablePred p] {k n : Nat} (h : n ≤ 32) : bt (sB p n) k = true ↔ k < n ∧ p k := by
  rw [bt_sB n h, decide_eq_true_eq]
theorem pc_of {x : Int32} {p : Nat → Prop} [DecidablePred p] {n : Nat} (hn : n ≤ 24) (h : ∀ k, k < 24 → (bt x k = true ↔ k < n ∧ p k)) : pc24 x = cN p n := by
  unfold pc24
  have e := cN_more (p := fun k => bt x k = true) n (24 - n)
  rw [show n + (24 - n) = 24 by omega] at e
  rw [e, (cN_zero (p := fun j => bt x (n + j) = true) (24 - n)).mpr (fun j hj hb => by
    have := (h (n + j) (by omega)).mp hb
    omega), Nat.add_zero]
  refine cN_congr n fun j hj => ?_
  rw [h j (by omega)]
  exact ⟨fun h => h.2, fun h => ⟨hj, h⟩⟩
theorem sB_zero {p : Nat → Prop} [DecidablePred p] {n : Nat} (hn : n ≤ 24) : sB p n = 0 ↔ cN p n = 0 := by
  constructor
  · intro h
    refine (cN_zero n).mpr fun j hj hp => ?_
    have h2 := (bt_sB_iff (p := p) (k := j) (n := n) (by omega)).mpr ⟨hj, hp⟩
    rw [h, bt_zero] at h2
    cases h2
  · intro h
    have h1 := (cN_zero n).mp h
    refine bt_ext fun k _ => ?_
    rw [bt_sB n (by omega), bt_zero, decide_eq_false]
    exact fun h2 => h1 k h2.1 h2.2
abbrev hsP (N : Nat → Int32) (y m : Nat) (r : Nat) : Prop := 1 ≤ cN (fun c => inR N (iN r) y c) m
theorem c_has {A : ruA} {N : Nat → Int32} {m : Nat} (h : roC A N m) {y : Nat} (hy : y < 6) (r : Nat) : fX3_hasSheets (iN r) (iN y) A = some (b2 (hsP N y m r)) := by
  rcases f10_hasSheets h hy (iN r) with ⟨h1, h2⟩ | ⟨⟨c, h1, h3⟩, h2⟩
  · rw [h2, b2_neg]
    intro h4
    have := (cN_zero (p := fun c => inR N (iN r) y c) m).mpr h1
    omega
  · rw [h2, b2_pos]
    by_cases e : cN (fun c => inR N (iN r) y c) m = 0
    · exact absurd h3 ((cN_zero m).mp e c h1)
    · show 1 ≤ _
      omega
theorem r_has {B : ruA} {N : Nat → Int32} {m : Nat} (hm : m ≤ 24) (e : B.1 84 = N) (e2 : N 2 = iN m) {y : Nat} (hy : y < 6) (r : Nat) : fX11_sheetsOf (iN r) (iN y) B = some (iN (cN (fun c => inR N (iN r) y c) m)) := by
  have h := f11_sheetsOf B hm (by rw [e]; exact e2) hy (iN r)
  rw [e, cN_sum] at h
  exact h
theorem le0_iN {n : Nat} (h : n ≤ 24) : iN n ≤ 0 ↔ n = 0 := by
  rw [show (0 : Int32) = iN 0 from rfl, iN_le (by omega) (by omega)]
  omega
theorem eq0_iN {n : Nat} (h : n ≤ 24) : iN n = 0 ↔ n = 0 := by
  rw [show (0 : Int32) = iN 0 from rfl, iN_inj (by omega) (by omega)]
theorem c_rooms {A : ruA} {N : Nat → Int32} {m R : Nat} (h : roC A N m) (hR : R ≤ 6) (e1 : A.1 2 1 = iN R) {y : Nat} (hy : y < 6) : fX3_roomsWithSheets (iN y) A = some (sB (fun r => hsP N y m r) R) := by
  unfold fX3_roomsWithSheets
  refine loop_inv (fun n r z => fX3_roomsWithSheets_l4 (iN y) A (fun v3 => some v3) n z (iN r)) R (fun r => sB (fun r => hsP N y m r) r) _ ?_ ?_ ruF 0 (Nat.zero_le _) (by rw [ruF_eq]; omega)
  · intro n
    rw [fX3_roomsWithSheets_l4, e1, if_pos ((iN_le (by omega) (by omega)).mpr (Nat.le_refl _))]
  · intro n r hr
    show fX3_roomsWithSheets_l4 (iN y) A (fun v3 => some v3) (n + 1) (sB (fun r => hsP N y m r) r) (iN r) = fX3_roomsWithSheets_l4 (iN y) A (fun v3 => some v3) n (sB (fun r => hsP N y m r) r ||| (if hsP N y m r then (1 : Int32) <<< (iN r &&& 31) else 0)) (iN (r + 1))
    rw [fX3_roomsWithSheets_l4, e1, if_neg (by rw [iN_le (by omega) (by omega)]; omega), c_has h hy, Option.bind_some, b2_ne, iN_add1]
    by_cases c1 : hsP N y m r
    · rw [if_pos c1, Option.bind_some, if_pos c1]
    · rw [if_neg c1, Option.bind_some, if_neg c1, Int32.or_zero]
def lkW (A B : ruA) : Prop := ∀ k, k ≠ 64 ∧ k ≠ 65 ∧ k ≠ 66 ∧ k ≠ 68 → B.1 k = A.1 k
theorem lkC_W {A B C : ruA} (h : lkW A B) (h2 : lkC B C) : lkW A C := fun k hk => (h2 k ⟨hk.2.1, hk.2.2.1, hk.2.2.2⟩).trans (h k hk)
theorem roC_lkW {A B : ruA} {N : Nat → Int32} {m : Nat} (h : roC A N m) (hB : lkW A B) : roC B N m := by
  refine ⟨shC_keep h.1 fun k hk => hB k (by omega), fun c hc => ?_, ?_, h.2.2.2⟩
  · rw [hB 5 (by omega)]
    exact h.2.1 c hc
  · rw [hB 2 (by omega)]
    exact h.2.2.1
theorem c_work {A : ruA} {N : Nat → Int32} {m : Nat} (h : roC A N m) {y k : Nat} (hy : y < 6) (hk : k < 7) (S : Int32) : ∃ B, fX3_workOut (iN k) (iN y) S A = some B ∧ lkW A B ∧ ∀ r, r < 6 → B.1 64 r = if bt S r = true then vM N k (iN r) y m else 0 := by
  unfold fX3_workOut
  refine loop_gen (fun n r (B : ruA) => fX3_workOut_l3 (iN k) (iN y) S (fun A7 => some A7) n (iN r) B) 6 (fun r B => lkW A B ∧ ∀ j, j < r → B.1 64 j = if bt S j = true then vM N k (iN j) y m else 0) (fun o => ∃ B, o = some B ∧ lkW A B ∧ ∀ r, r < 6 → B.1 64 r = if bt S r = true then vM N k (iN r) y m else 0) ?_ ?_ ruF 0 A (by decide) (by decide) ⟨fun _ _ => rfl, fun j hj => by omega⟩
  · intro n B hB
    refine ⟨B, ?_, hB⟩
    show fX3_workOut_l3 (iN k) (iN y) S (fun A7 => some A7) (n + 1) (iN 6) B = some B
    rw [fX3_workOut_l3, if_pos (by decide)]
  · intro n r B hr hB
    right
    have fin : ∀ (C : ruA) (v : Int32), lkC B C → v = (if bt S r = true then vM N k (iN r) y m else 0) → lkW A (ruset C 64 r v) ∧ ∀ j, j < r + 1 → (ruset C 64 r v).1 64 j = if bt S j = true then vM N k (iN j) y m else 0 := by
      intro C v hC hv
      refine ⟨fun k hk => ?_, fun j hj => ?_⟩
      · rw [rs_ne _ _ _ hk.1]
        exact lkC_W hB.1 hC k hk
      · rw [rs_eq]
        by_cases e : j = r
        · subst e
          rw [upd_same, hv]
        · rw [upd_ne _ _ e, hC 64 (by decide)]
          exact hB.2 j (by omega)
    show ∃ s' : ruA, fX3_workOut_l3 (iN k) (iN y) S (fun A7 => some A7) (n + 1) (iN r) B = _ ∧ _
    rw [fX3_workOut_l3, li6, if_neg (by rw [iN_le (by omega) (by omega)]; omega), e10_has (by omega), Option.bind_some, b2_ne, iN_add1]
    by_cases c1 : bt S r = true
    · obtain ⟨C, c2, c3⟩ := c_of (roC_lkW h hB.1) hy hk (iN r)
      refine ⟨ruset C 64 r (vM N k (iN r) y m), ?_, fin C _ c3 (by rw [if_pos c1])⟩
      rw [if_pos c1, c2, ruB2_some, ruB2_some, rust_iN hr (by decide), Option.bind_some]
    · refine ⟨ruset B 64 r 0, ?_, fin B _ (lkC_refl B) (by rw [if_neg c1])⟩
      rw [if_neg c1, ruB2_some, rust_iN hr (by decide), Option.bind_some]
theorem c_from (A : ruA) (S v : Int32) : fX3_roomsFrom S v A = some (sB (fun r => bt S r = true ∧ ¬ A.1 64 r < v) 6) := by
  unfold fX3_roomsFrom
  refine loop_inv (fun n r z => fX3_roomsFrom_l5 S v A (fun v4 => some v4) n z (iN r)) 6 (fun r => sB (fun r => bt S r = true ∧ ¬ A.1 64 r < v) r) _ ?_ ?_ ruF 0 (by decide) (by decide)
  · intro n
    show fX3_roomsFrom_l5 S v A (fun v4 => some v4) (n + 1) _ (iN 6) = _
    rw [fX3_roomsFrom_l5, if_pos (by decide)]
  · intro n r hr
    show fX3_roomsFrom_l5 S v A (fun v4 => some v4) (n + 1) (sB (fun r => bt S r = true ∧ ¬ A.1 64 r < v) r) (iN r) = fX3_roomsFrom_l5 S v A (fun v4 => some v4) n (sB (fun r => bt S r = true ∧ ¬ A.1 64 r < v) r ||| (if bt S r = true ∧ ¬ A.1 64 r < v then (1 : Int32) <<< (iN r &&& 31) else 0)) (iN (r + 1))
    rw [fX3_roomsFrom_l5, li6, if_neg (by rw [iN_le (by omega) (by omega)]; omega), e10_has (by omega), Option.bind_some, b2_ne, iN_add1, ruld_iN hr (by decide), Option.bind_some]
    by_cases c1 : bt S r = true
    · rw [if_pos c1]
      by_cases c2 : A.1 64 r < v
      · rw [if_pos c2, Option.bind_some, if_neg (fun h => h.2 c2), Int32.or_zero]
      · rw [if_neg c2, Option.bind_some, if_pos ⟨c1, c2⟩]
    · rw [if_neg c1, Option.bind_some, if_neg (fun h => c1 h.1), Int32.or_zero]
theorem lkR_84 {B C : ruA} (h : lkR B C) : C.1 84 = B.1 84 := h.1 84 (by decide)
theorem l1A (A : ruA) : ruld (A.1 84) 4920 1 = some (A.1 84 1) := ruld_iN (i := 1) (by decide) (by decide)
theorem r_odd {β : Type} {B : ruA} {N : Nat → Int32} {m R : Nat} (hm : m ≤ 24) (hR : R ≤ 6) (e84 : B.1 84 = N) (e2 : N 2 = iN m) (e1 : N 1 = iN R) (hkd : ∀ s, s < 144 → ∀ q, q < 12 → 0 ≤ N (141 + 28 * s + q) ∧ N (141 + 28 * s + q) ≤ 7) {y k : Nat} (hy : y < 6) (hk : k < 7) (x4 v : Int32) (K : Int32 → Int32 → ruA → Option β) : ∃ C, lkR B C ∧ fX11_odd_l77 (iN y) (iN k) x4 v K ruF 0 0 0 B = K (iN (cN (fun r => hsP N y m r ∧ ¬ vM N k (iN r) y m < v) R)) (iN (cN (fun r => hsP N y m r) R)) C := by
  refine loop_gen (fun n r (s : Int32 × Int32 × ruA) => fX11_odd_l77 (iN y) (iN k) x4 v K n s.1 s.2.1 (iN r) s.2.2) R (fun r s => s.1 = iN (cN (fun r => hsP N y m r ∧ ¬ vM N k (iN r) y m < v) r) ∧ s.2.1 = iN (cN (fun r => hsP N y m r) r) ∧ lkR B s.2.2) (fun o => ∃ C, lkR B C ∧ o = K (iN (cN (fun r => hsP N y m r ∧ ¬ vM N k (iN r) y m < v) R)) (iN (cN (fun r => hsP N y m r) R)) C) ?_ ?_ ruF 0 (0, 0, B) (Nat.zero_le _) (by rw [ruF_eq]; omega) ⟨rfl, rfl, lkR_refl B⟩
  · rintro n s ⟨h1, h2, h3⟩
    refine ⟨s.2.2, h3, ?_⟩
    rw [fX11_odd_l77, l1A, lkR_84 h3, e84, e1, Option.bind_some, if_pos ((iN_le (by omega) (by omega)).mpr (Nat.le_refl _)), h1, h2]
  · rintro n r s hr ⟨h1, h2, h3⟩
    right
    have e84s : s.2.2.1 84 = N := (lkR_84 h3).trans e84
    have hle := cN_le (p := fun c => inR N (iN r) y c) m
    show ∃ s' : Int32 × Int32 × ruA, fX11_odd_l77 (iN y) (iN k) x4 v K (n + 1) s.1 s.2.1 (iN r) s.2.2 = _ ∧ s'.1 = iN (cN (fun r => hsP N y m r ∧ ¬ vM N k (iN r) y m < v) r + (if hsP N y m r ∧ ¬ vM N k (iN r) y m < v then 1 else 0)) ∧ s'.2.1 = iN (cN (fun r => hsP N y m r) r + (if hsP N y m r then 1 else 0)) ∧ _
    rw [fX11_odd_l77, l1A, e84s, e1, Option.bind_some, if_neg (by rw [iN_le (by omega) (by omega)]; omega), r_has hm e84s e2 hy, Option.bind_some, iN_add1]
    by_cases c1 : hsP N y m r
    · obtain ⟨C, c2, c3⟩ := r_of (A := s.2.2) hm (by rw [e84s]; exact e2) (by rw [e84s]; exact hkd) hy hk (iN r)
      rw [e84s] at c2
      rw [if_neg (by rw [le0_iN (by omega)]; omega), c2, ruB2_some, if_pos c1]
      by_cases c4 : vM N k (iN r) y m < v
      · rw [if_pos c4, Option.bind_some, ruB3_some]
        exact ⟨(s.1 + 0, s.2.1 + 1, C), rfl, by rw [if_neg (fun h => h.2 c4), Nat.add_zero, Int32.add_zero, h1], by rw [h2, iN_add1], lkR_trans h3 c3⟩
      · rw [if_neg c4, Option.bind_some, ruB3_some]
        exact ⟨(s.1 + 1, s.2.1 + 1, C), rfl, by rw [if_pos ⟨c1, c4⟩, h1, iN_add1], by rw [h2, iN_add1], lkR_trans h3 c3⟩
    · rw [if_pos (by rw [le0_iN (by omega)]; omega), ruB3_some]
      exact ⟨s, rfl, by rw [if_neg (fun h => c1 h.1), Nat.add_zero, h1], by rw [if_neg c1, Nat.add_zero, h2], h3⟩
theorem Inv.looksW {W : ruWy} {A B C : ruA} (hI : Inv W A) (h1 : lkW A B) (h2 : lkR B C) : Inv W C := by
  have e : ∀ k, k ≠ 64 ∧ k ≠ 65 ∧ k ≠ 66 ∧ k ≠ 68 ∧ k ≠ 83 → C.1 k = A.1 k := fun k hk => (h2.1 k hk.2.2.2.2).trans (h1 k ⟨hk.1, hk.2.1, hk.2.2.1, hk.2.2.2.1⟩)
  have e8 : ∀ j, j ≠ 10 ∧ j ≠ 11 ∧ j ≠ 12 → C.1 83 j = A.1 83 j := fun j hj => (h2.2 j hj).trans (by rw [h1 83 (by decide)])
  exact hI.same ⟨fun k hk => e k (by omega), ⟨by rw [e 0 (by decide)], by rw [e 0 (by decide)], by rw [e 0 (by decide)]⟩, ⟨e8 _ (by decide), e8 _ (by decide), e8 _ (by decide)⟩⟩ ⟨fun k hk => e k (by omega), e 84 (by decide)⟩
theorem pc_b24 {p : Nat → Prop} [DecidablePred p] {n : Nat} (hn : n ≤ 24) : fJ6_bitCount_0f7a4 (sB p n) = some (iN (cN p n)) := by
  rw [f10_bits (fun j hj => by rw [bt_sB n (by omega), decide_eq_false (by omega)]), pc_of hn (fun k _ => bt_sB_iff (by omega))]
theorem op_odd {W : ruWy} {A : ruA} (hI : Inv W A) (x1 x2 x3 x4 : Int32) : Op2 W (fX10_odd x1 x2 x3 x4) (fX11_odd x1 x2 x3 x4) A := by
  obtain ⟨⟨hn, hq, hc, hs, hb, hr, hh, hf, hw⟩, hK, hMf, hMt, hMs⟩ := id hI
  obtain ⟨m0, m1, m2, m3, m4, m5⟩ := id hn
  have q0 : A.1 2 0 = A.1 84 0 := m0.1
  have q1 : A.1 2 1 = A.1 84 1 := m1.1
  have q2 : A.1 2 2 = A.1 84 2 := m2.1
  have q3 : A.1 14 0 = A.1 84 3 := m3.1
  have q4 : A.1 23 0 = A.1 84 4 := m4.1
  have q5 : A.1 29 0 = A.1 84 5 := m5.1
  have sh : shC A (A.1 84) := ⟨hq, hs, hb, hr⟩
  have ro : roC A (A.1 84) (cn (A.1 84) 2) := ⟨sh, fun c h => (hc c h).1, q2.trans m2.2.1, m2.2.2⟩
  have hkd : ∀ s, s < 144 → ∀ q, q < 12 → 0 ≤ A.1 84 (141 + 28 * s + q) ∧ A.1 84 (141 + 28 * s + q) ≤ 7 := fun s hs9 q hq9 => (hb s hs9 q hq9).2.2.2
  by_cases h1 : 0 ≤ x1 ∧ x1 ≤ A.1 84 1 - 1
  · by_cases h2 : 0 ≤ x2 ∧ x2 ≤ 5
    · by_cases h3 : 0 ≤ x3 ∧ x3 ≤ 6
      · by_cases h4 : 0 ≤ x4 ∧ x4 ≤ 1
        · obtain ⟨r, hr9, rfl⟩ := ch_of m1.2.1 (by omega) h1
          obtain ⟨y, hy, rfl⟩ := yr_of h2
          obtain ⟨k, hk, rfl⟩ := lt_of (m := 6) (by decide) h3
          obtain ⟨-, e1, hR6⟩ := m1
          obtain ⟨-, e2, hm24⟩ := m2
          generalize cn (A.1 84) 1 = R at *
          generalize cn (A.1 84) 2 = m at *
          generalize hN : A.1 84 = N at *
          have hle := cN_le (p := fun c => inR N (iN r) y c) m
          have g1 := c_has ro hy r
          by_cases hp : hsP N y m r
          · have g3 := c_rooms ro hR6 (q1.trans e1) hy
            obtain ⟨B, b1, bW, b64⟩ := c_work ro hy (k := k) hk (sB (fun r => hsP N y m r) R)
            have hb64 : ∀ e, e < R → hsP N y m e → B.1 64 e = vM N k (iN e) y m := fun e he hpe => by
              rw [b64 e (by omega), if_pos ((bt_sB_iff (by omega)).mpr ⟨he, hpe⟩)]
            have hRef : ∀ B : ruA, B.1 84 = N → ∃ C, lkR B C ∧ fX11_odd (iN r) (iN y) (iN k) x4 B = some (if x4 = 0 then iN (cN (fun e => hsP N y m e ∧ ¬ vM N k (iN e) y m < vM N k (iN r) y m) R) else iN (cN (fun e => hsP N y m e) R), C) := by
              intro B hB
              obtain ⟨C1, c1, c2⟩ := r_of (A := B) hm24 (by rw [hB]; exact e2) (by rw [hB]; exact hkd) hy hk (iN r)
              rw [hB] at c1
              obtain ⟨C, c3, c4⟩ := r_odd (β := Int32 × ruA) (B := C1) (N := N) hm24 hR6 ((lkR_84 c2).trans hB) e2 e1 hkd hy hk x4 (vM N k (iN r) y m) (fun v22 v23 A24 => if x4 = 0 then some (v22, A24) else some (v23, A24))
              refine ⟨C, lkR_trans c2 c3, ?_⟩
              have hI2 : fX11_is (iN r) 1 B = some (b2 (0 ≤ iN r ∧ iN r ≤ N 1 - 1)) := by rw [e11_is1, hB]
              unfold fX11_odd
              rw [hI2, Option.bind_some, b2_pos h1, ite10, e11_isYear, Option.bind_some, b2_pos h2, ite10, e11_within, Option.bind_some, b2_pos h3, ite10, e11_within, Option.bind_some, b2_pos h4, ite10, r_has hm24 hB e2 hy, Option.bind_some, if_neg (show ¬ iN (cN (fun c => inR N (iN r) y c) m) = 0 by rw [eq0_iN (by omega)]; omega), c1, ruB2_some, c4]
              by_cases c5 : x4 = 0
              · rw [if_pos c5, if_pos c5]
              · rw [if_neg c5, if_neg c5]
            rcases two_of h4 with rfl | rfl
            · obtain ⟨C, c1, c2⟩ := hRef B ((bW 84 (by decide)).trans hN)
              have hct : sB (fun e => bt (sB (fun r => hsP N y m r) R) e = true ∧ ¬ B.1 64 e < vM N k (iN r) y m) 6 = sB (fun e => hsP N y m e ∧ ¬ vM N k (iN e) y m < vM N k (iN r) y m) R := by
                refine bt_ext fun j _ => ?_
                rw [Bool.eq_iff_iff, bt_sB_iff (by decide), bt_sB_iff (by omega), bt_sB_iff (by omega)]
                constructor
                · rintro ⟨a, b, c⟩
                  rw [hb64 j b.1 b.2] at c
                  exact ⟨b.1, b.2, c⟩
                · rintro ⟨a, b, c⟩
                  exact ⟨by omega, ⟨a, b⟩, by rw [hb64 j a b]; exact c⟩
              refine ⟨_, B, C, ?_, c2, hI.looksW bW c1⟩
              rw [if_pos rfl]
              unfold fX10_odd
              rw [e10_isRoom, Option.bind_some, q1, b2_pos h1, ite10, e10_isYear, Option.bind_some, b2_pos h2, ite10, e10_isWithin, Option.bind_some, b2_pos h3, ite10, e10_isWithin, Option.bind_some, b2_pos h4, ite10, g1, Option.bind_some, b2_pos hp, ite10, g3, Option.bind_some, if_neg (show ¬ (0 : Int32) = 1 by decide), b1, Option.bind_some, ruld_iN (show r < 6 by omega) (show 6 ≤ 2147483648 by decide), Option.bind_some, hb64 r hr9 hp, c_from, Option.bind_some, hct, pc_b24 (show R ≤ 24 by omega), Option.bind_some]
            · obtain ⟨C, c1, c2⟩ := hRef A hN
              refine ⟨_, A, C, ?_, c2, hI.looksW (fun _ _ => rfl) c1⟩
              rw [if_neg (by decide)]
              unfold fX10_odd
              rw [e10_isRoom, Option.bind_some, q1, b2_pos h1, ite10, e10_isYear, Option.bind_some, b2_pos h2, ite10, e10_isWithin, Option.bind_some, b2_pos h3, ite10, e10_isWithin, Option.bind_some, b2_pos h4, ite10, g1, Option.bind_some, b2_pos hp, ite10, g3, Option.bind_some, if_pos rfl, pc_b24 (show R ≤ 24 by omega), Option.bind_some]
          · have g2 : fX11_sheetsOf (iN r) (iN y) (fndC A 3) = some 0 := by
              rw [r_has hm24 ((fndC_84 A 3).trans hN) e2 hy, show cN (fun c => inR N (iN r) y c) m = 0 by omega]
              rfl
            refine Op_find hI (-1000004) 3 (by decide) (by decide) ?_ ?_
            · simp only [fX10_odd, e10_isWithin, e10_isQuestion, e10_isYear, e10_isKind, e10_isSlip, e10_isRoom, e10_isChild, e10_isWay, e10_areHours, q1, q2, q3, Option.bind_some, ite00, ite10, if_true, if_false, hN, b2_pos h1, b2_pos h2, b2_pos h3, b2_pos h4, g1, b2_neg hp]
            · simp only [fX11_odd, e11_within, e11_isQuestion, e11_isYear, e11_isSlip, e11_is1f, e11_is2f, e11_is3f, e11_areHours, fndC_84, fndC_83, fndC_88, fndC_89, fndC_90, Option.bind_some, ite00, ite10, if_true, if_false, hN, b2_pos h1, b2_pos h2, b2_pos h3, b2_pos h4, g2]
        · refine Op_find hI (-1000001) 0 (by decide) (by decide) ?_ ?_
          · simp only [fX10_odd, e10_isWithin, e10_isQuestion, e10_isYear, e10_isKind, e10_isSlip, e10_isRoom, e10_isChild, e10_isWay, e10_areHours, q1, q2, q3, Option.bind_some, b2_pos h1, b2_pos h2, b2_pos h3, b2_neg h4, ite00, ite10, if_true, if_false]
          · simp only [fX11_odd, e11_within, e11_isQuestion, e11_isYear, e11_isSlip, e11_is1f, e11_is2f, e11_is3f, e11_areHours, fndC_84, fndC_83, fndC_88, fndC_89, fndC_90, Option.bind_some, b2_pos h1, b2_pos h2, b2_pos h3, b2_neg h4, ite00, ite10, if_true, if_false]
      · refine Op_find hI (-1000001) 0 (by decide) (by decide) ?_ ?_
        · simp only [fX10_odd, e10_isWithin, e10_isQuestion, e10_isYear, e10_isKind, e10_isSlip, e10_isRoom, e10_isChild, e10_isWay, e10_areHours, q1, q2, q3, Option.bind_some, b2_pos h1, b2_pos h2, b2_neg h3, ite00, ite10, if_true, if_false]
        · simp only [fX11_odd, e11_within, e11_isQuestion, e11_isYear, e11_isSlip, e11_is1f, e11_is2f, e11_is3f, e11_areHours, fndC_84, fndC_83, fndC_88, fndC_89, fndC_90, Option.bind_some, b2_pos h1, b2_pos h2, b2_neg h3, ite00, ite10, if_true, if_false]
    · refine Op_find hI (-1000001) 0 (by decide) (by decide) ?_ ?_
      · simp only [fX10_odd, e10_isWithin, e10_isQuestion, e10_isYear, e10_isKind, e10_isSlip, e10_isRoom, e10_isChild, e10_isWay, e10_areHours, q1, q2, q3, Option.bind_some, b2_pos h1, b2_neg h2, ite00, ite10, if_true, if_false]
      · simp only [fX11_odd, e11_within, e11_isQuestion, e11_isYear, e11_isSlip, e11_is1f, e11_is2f, e11_is3f, e11_areHours, fndC_84, fndC_83, fndC_88, fndC_89, fndC_90, Option.bind_some, b2_pos h1, b2_neg h2, ite00, ite10, if_true, if_false]
  · refine Op_find hI (-1000001) 0 (by decide) (by decide) ?_ ?_
    · simp only [fX10_odd, e10_isWithin, e10_isQuestion, e10_isYear, e10_isKind, e10_isSlip, e10_isRoom, e10_isChild, e10_isWay, e10_areHours, q1, q2, q3, Option.bind_some, b2_neg h1, ite00, ite10, if_true, if_false]
    · simp only [fX11_odd, e11_within, e11_isQuestion, e11_isYear, e11_isSlip, e11_is1f, e11_is2f, e11_is3f, e11_areHours, fndC_84, fndC_83, fndC_88, fndC_89, fndC_90, Option.bind_some, b2_neg h1, ite00, ite10, if_true, if_false]
