/-! LEVEL 2: the class reads a token -/
def good4 (T : Nat → Int32) (n : Nat) (M F : Nat → Int32) (s : Nat) : Prop := F 1 = iN n ∧ F 2 = iN (tE T n s) ∧ F 3 = iN s ∧ F 4 = tG T n s ∧ F 6 = -1 ∧ (tG T n s = 256 → F 5 = tV T n M s)
def bad4 (n : Nat) (F : Nat → Int32) (s : Nat) : Prop := F 1 = iN n ∧ F 4 = 257 ∧ F 6 = iN s
theorem sh8 {a b : Nat} (ha : a < 8388608) (hb : b < 256) : (iN a <<< ((8 : Int32) &&& 31)) ||| iN b = iN (a * 256 + b) := by
  rw [← Int32.toBitVec_inj, Int32.toBitVec_or, li8, shl_bv (by decide), bv_iN, bv_iN, bv_iN]
  apply BitVec.eq_of_toNat_eq
  rw [BitVec.toNat_or, BitVec.toNat_shiftLeft, BitVec.toNat_ofNat, BitVec.toNat_ofNat, BitVec.toNat_ofNat, Nat.mod_eq_of_lt (show a < 2 ^ 32 by omega), Nat.mod_eq_of_lt (show b < 2 ^ 32 by omega), Nat.mod_eq_of_lt (show a * 256 + b < 2 ^ 32 by omega), Nat.mod_eq_of_lt (show a <<< 8 < 2 ^ 32 by rw [Nat.shiftLeft_eq]; omega), ← Nat.shiftLeft_add_eq_or_of_lt (show b < 2 ^ 8 by omega), Nat.shiftLeft_eq]
theorem lw_name {T : Nat → Int32} {s e m : Nat} (hse : s ≤ e) (he : e - s ≤ 4) (hl : ∀ i, s ≤ i → i < e → isLe (T i)) (hm : m < 6) : runames.getD m 0 = lwV T s (e - s) ↔ nmP T s e m := by
  obtain ⟨k, rfl⟩ : ∃ k, e = s + k := ⟨e - s, by omega⟩
  rw [Nat.add_sub_cancel_left] at he ⊢
  have ht : ∀ i, ∃ t, (if s + i < s + k then T (s + i) else 32) = iN t ∧ (i < k → T (s + i) = iN t ∧ 97 ≤ t ∧ t ≤ 122) ∧ (k ≤ i → t = 32) := by
    intro i
    by_cases c : i < k
    · have c2 : s + i < s + k := by omega
      obtain ⟨h1, h2⟩ := hl (s + i) (by omega) c2
      obtain ⟨t, h3, h4⟩ := iN_of (x := T (s + i)) (m := 122) (Int32.le_trans (by decide) h1) (by decide) h2
      refine ⟨t, by rw [if_pos c2]; exact h4, fun _ => ⟨h4, ?_, h3⟩, fun h => by omega⟩
      rw [h4] at h1
      exact (iN_le (a := 97) (by decide) (by omega)).mp h1
    · exact ⟨32, by rw [if_neg (by omega)]; rfl, fun h => absurd h c, fun _ => rfl⟩
  obtain ⟨t0, a0, b0, c0⟩ := ht 0
  obtain ⟨t1, a1, b1, c1⟩ := ht 1
  obtain ⟨t2, a2, b2, c2⟩ := ht 2
  obtain ⟨t3, a3, b3, c3⟩ := ht 3
  clear ht
  have hP : nmP T s (s + k) m ↔ (iN t0 = nmC m 0 ∧ iN t1 = nmC m 1 ∧ iN t2 = nmC m 2 ∧ iN t3 = nmC m 3) := by
    constructor
    · intro h
      exact ⟨a0.symm.trans (h.2 0 (by decide)), a1.symm.trans (h.2 1 (by decide)), a2.symm.trans (h.2 2 (by decide)), a3.symm.trans (h.2 3 (by decide))⟩
    · rintro ⟨h0, h1, h2, h3⟩
      refine ⟨by omega, fun i hi => ?_⟩
      match i, hi with
      | 0, _ => exact a0.trans h0
      | 1, _ => exact a1.trans h1
      | 2, _ => exact a2.trans h2
      | 3, _ => exact a3.trans h3
      | i + 4, hi => omega
  rw [hP]
  have s1 : 1 ≤ k → lwV T s 1 = iN t0 := fun h => by
    show (iN 0 <<< ((8 : Int32) &&& 31)) ||| T (s + 0) = _
    rw [(b0 h).1, sh8 (by decide) (by have := b0 h; omega), Nat.zero_mul, Nat.zero_add]
  have s2 : 2 ≤ k → lwV T s 2 = iN (t0 * 256 + t1) := fun h => by
    show (lwV T s 1 <<< ((8 : Int32) &&& 31)) ||| T (s + 1) = _
    have h0 := (b0 (by omega)).2
    have h1 := (b1 h).2
    rw [s1 (by omega), (b1 h).1, sh8 (by omega) (by omega)]
  have s3 : 3 ≤ k → lwV T s 3 = iN ((t0 * 256 + t1) * 256 + t2) := fun h => by
    show (lwV T s 2 <<< ((8 : Int32) &&& 31)) ||| T (s + 2) = _
    have h0 := (b0 (by omega)).2
    have h1 := (b1 (by omega)).2
    have h2 := (b2 h).2
    rw [s2 (by omega), (b2 h).1, sh8 (by omega) (by omega)]
  have s4 : 4 ≤ k → lwV T s 4 = iN (((t0 * 256 + t1) * 256 + t2) * 256 + t3) := fun h => by
    show (lwV T s 3 <<< ((8 : Int32) &&& 31)) ||| T (s + 3) = _
    have h0 := (b0 (by omega)).2
    have h1 := (b1 (by omega)).2
    have h2 := (b2 (by omega)).2
    have h3 := (b3 h).2
    rw [s3 (by omega), (b3 h).1, sh8 (by omega) (by omega)]
  have d0 : t0 ≤ 122 := by
    by_cases c : 0 < k
    · exact (b0 c).2.2
    · have := c0 (by omega)
      omega
  have d1 : t1 ≤ 122 := by
    by_cases c : 1 < k
    · exact (b1 c).2.2
    · have := c1 (by omega)
      omega
  have d2 : t2 ≤ 122 := by
    by_cases c : 2 < k
    · exact (b2 c).2.2
    · have := c2 (by omega)
      omega
  have d3 : t3 ≤ 122 := by
    by_cases c : 3 < k
    · exact (b3 c).2.2
    · have := c3 (by omega)
      omega
  have hV : ∃ V, lwV T s k = iN V ∧ V < 2147483648 ∧ ((k = 0 ∧ V = 0 ∧ t0 = 32) ∨ (k = 1 ∧ V = t0 ∧ t1 = 32) ∨ (k = 2 ∧ V = t0 * 256 + t1 ∧ t2 = 32) ∨ (k = 3 ∧ V = (t0 * 256 + t1) * 256 + t2 ∧ t3 = 32) ∨ (k = 4 ∧ V = ((t0 * 256 + t1) * 256 + t2) * 256 + t3)) := by
    have hk : k = 0 ∨ k = 1 ∨ k = 2 ∨ k = 3 ∨ k = 4 := by omega
    rcases hk with rfl | rfl | rfl | rfl | rfl
    · exact ⟨0, rfl, by decide, Or.inl ⟨rfl, rfl, c0 (by omega)⟩⟩
    · exact ⟨_, s1 (by omega), by omega, Or.inr (Or.inl ⟨rfl, rfl, c1 (by omega)⟩)⟩
    · exact ⟨_, s2 (by omega), by omega, Or.inr (Or.inr (Or.inl ⟨rfl, rfl, c2 (by omega)⟩))⟩
    · exact ⟨_, s3 (by omega), by omega, Or.inr (Or.inr (Or.inr (Or.inl ⟨rfl, rfl, c3 (by omega)⟩)))⟩
    · exact ⟨_, s4 (by omega), by omega, Or.inr (Or.inr (Or.inr (Or.inr ⟨rfl, rfl⟩)))⟩
  obtain ⟨V, e9, hV9, hV⟩ := hV
  have g0 : 0 < k → 97 ≤ t0 := fun h => (b0 h).2.1
  have g1 : 1 < k → 97 ≤ t1 := fun h => (b1 h).2.1
  have g2 : 2 < k → 97 ≤ t2 := fun h => (b2 h).2.1
  have g3 : 3 < k → 97 ≤ t3 := fun h => (b3 h).2.1
  rw [e9]
  clear e9 s1 s2 s3 s4 hP a0 a1 a2 a3 b0 b1 b2 b3 hl
  match m, hm with
  | 0, _ =>
    show iN 30578 = iN V ↔ (iN t0 = iN 119 ∧ iN t1 = iN 114 ∧ iN t2 = iN 32 ∧ iN t3 = iN 32)
    rw [iN_inj (by decide) hV9, iN_inj (by omega) (by decide), iN_inj (by omega) (by decide), iN_inj (by omega) (by decide), iN_inj (by omega) (by decide)]
    rcases hV with hV | hV | hV | hV | hV <;> omega
  | 1, _ =>
    show iN 29303 = iN V ↔ (iN t0 = iN 114 ∧ iN t1 = iN 119 ∧ iN t2 = iN 32 ∧ iN t3 = iN 32)
    rw [iN_inj (by decide) hV9, iN_inj (by omega) (by decide), iN_inj (by omega) (by decide), iN_inj (by omega) (by decide), iN_inj (by omega) (by decide)]
    rcases hV with hV | hV | hV | hV | hV <;> omega
  | 2, _ =>
    show iN 7499639 = iN V ↔ (iN t0 = iN 114 ∧ iN t1 = iN 111 ∧ iN t2 = iN 119 ∧ iN t3 = iN 32)
    rw [iN_inj (by decide) hV9, iN_inj (by omega) (by decide), iN_inj (by omega) (by decide), iN_inj (by omega) (by decide), iN_inj (by omega) (by decide)]
    rcases hV with hV | hV | hV | hV | hV <;> omega
  | 3, _ =>
    show iN 6711668 = iN V ↔ (iN t0 = iN 102 ∧ iN t1 = iN 105 ∧ iN t2 = iN 116 ∧ iN t3 = iN 32)
    rw [iN_inj (by decide) hV9, iN_inj (by omega) (by decide), iN_inj (by omega) (by decide), iN_inj (by omega) (by decide), iN_inj (by omega) (by decide)]
    rcases hV with hV | hV | hV | hV | hV <;> omega
  | 4, _ =>
    show iN 1717660780 = iN V ↔ (iN t0 = iN 102 ∧ iN t1 = iN 97 ∧ iN t2 = iN 108 ∧ iN t3 = iN 108)
    rw [iN_inj (by decide) hV9, iN_inj (by omega) (by decide), iN_inj (by omega) (by decide), iN_inj (by omega) (by decide), iN_inj (by omega) (by decide)]
    rcases hV with hV | hV | hV | hV | hV <;> omega
  | 5, _ =>
    show iN 1936292453 = iN V ↔ (iN t0 = iN 115 ∧ iN t1 = iN 105 ∧ iN t2 = iN 122 ∧ iN t3 = iN 101)
    rw [iN_inj (by decide) hV9, iN_inj (by omega) (by decide), iN_inj (by omega) (by decide), iN_inj (by omega) (by decide), iN_inj (by omega) (by decide)]
    rcases hV with hV | hV | hV | hV | hV <;> omega
  | m + 6, h => omega
theorem tI_long {T : Nat → Int32} {s e : Nat} (h : ¬ e - s ≤ 4) : ∀ k, tI T s e k = none
  | 0 => rfl
  | k + 1 => by
    show (if nmP T s e k then some k else tI T s e k) = none
    rw [if_neg (fun h9 : nmP T s e k => h h9.1)]
    exact tI_long h k
def fW (F M : Nat → Int32) : Option Nat → Nat → Int32
  | none => F
  | some m => upd (upd F 4 256) 5 (M m)
theorem fW_j (F M : Nat → Int32) (z : Option Nat) {j : Nat} (h : j ≠ 4 ∧ j ≠ 5) : fW F M z j = F j := by
  cases z with
  | none => rfl
  | some m =>
    show upd (upd F 4 256) 5 (M m) j = F j
    rw [upd_ne _ _ h.2, upd_ne _ _ h.1]
theorem fW_two (F M : Nat → Int32) (z : Option Nat) (m : Nat) : upd (upd (fW F M z) 4 256) 5 (M m) = fW F M (some m) := by
  cases z with
  | none => rfl
  | some k =>
    show upd (upd (upd (upd F 4 256) 5 (M k)) 4 256) 5 (M m) = upd (upd F 4 256) 5 (M m)
    funext i
    by_cases e5 : i = 5
    · rw [e5, upd_same, upd_same]
    · rw [upd_ne _ _ e5, upd_ne _ _ e5]
      by_cases e4 : i = 4
      · rw [e4, upd_same, upd_same]
      · rw [upd_ne _ _ e4, upd_ne _ _ e5]
theorem q_l79 {β : Type} {A : ruA} {T : Nat → Int32} {n : Nat} (hb : bsQ A T n) {F : Nat → Int32} {s e : Nat} (hse : s ≤ e) (he : e - s ≤ 4) (hl : ∀ i, s ≤ i → i < e → isLe (T i)) (K : ruA → Option β) : fX4_stepWord_l79 (lwV T s (e - s)) K ruF 0 (stQ A F) = K (stQ A (fW F (A.1 A.2.2.2) (tI T s e 6))) := by
  refine loop_inv (fun f k (G : Nat → Int32) => fX4_stepWord_l79 (lwV T s (e - s)) K f (iN k) (stQ A G)) 6 (fun k => fW F (A.1 A.2.2.2) (tI T s e k)) _ ?_ ?_ ruF 0 (by decide) (by decide)
  · intro f
    show fX4_stepWord_l79 (lwV T s (e - s)) K (f + 1) (iN 6) (stQ A (fW F (A.1 A.2.2.2) (tI T s e 6))) = _
    rw [fX4_stepWord_l79, if_pos (by decide)]
  · intro f k hk
    show fX4_stepWord_l79 (lwV T s (e - s)) K (f + 1) (iN k) (stQ A (fW F (A.1 A.2.2.2) (tI T s e k))) = fX4_stepWord_l79 (lwV T s (e - s)) K f (iN (k + 1)) (stQ A (fW F (A.1 A.2.2.2) (if nmP T s e k then some k else tI T s e k)))
    have hnm : ruld (fun j => runames.getD j 0) 6 (iN k) = some (runames.getD k 0) := ruld_iN hk (by decide)
    have hi := lw_name hse he hl hk
    rw [fX4_stepWord_l79, li6, if_neg (by rw [iN_le (by omega) (by omega)]; omega), hnm, Option.bind_some, iN_add1]
    by_cases c : nmP T s e k
    · rw [if_pos c, if_pos (hi.mpr c), Option.bind_some, stQ_set, stQ_2, hb.2.2.2.1, Option.bind_some, stQ_k _ _ hb.2.2.2.2, ruld_iN hk (by decide), Option.bind_some, Option.bind_some, stQ_set, Option.bind_some, fW_two]
    · rw [if_neg c, if_neg (fun h => c (hi.mp h)), Option.bind_some]
theorem q_step {A : ruA} {T : Nat → Int32} {n : Nat} (hb : bsQ A T n) (hn : n ≤ 100) (hT : ∀ i, i < n → 0 ≤ T i ∧ T i ≤ 255) {F : Nat → Int32} {p : Nat} (h1 : F 1 = iN n) (h2 : F 2 = iN p) (h6 : F 6 = -1) (hp : p ≤ n) : ∃ F', fX4_step (stQ A F) = some (stQ A F') ∧ good4 T n (A.1 A.2.2.2) F' (rnT (cSp T n) 101 p) := by
  have hle := rnT_le (c := cSp T n) cSp_lt 101 p hp
  unfold fX4_step
  have h9 := q_l9 (β := ruA) hb hn F h1 hp
  rw [upd_selfT h2] at h9
  rw [stQ_70, if_pos h6, h9]
  generalize rnT (cSp T n) 101 p = s at *
  rw [Option.bind_some, stQ_70, upd_same, stQ_set, stQ_70]
  generalize hF2 : upd (upd F 2 (iN s)) 3 (iN s) = F2
  have g1 : F2 1 = iN n := by rw [← hF2]; simp (disch := omega) only [upd_same, upd_ne]; exact h1
  have g2 : F2 2 = iN s := by rw [← hF2]; simp (disch := omega) only [upd_same, upd_ne]
  have g3 : F2 3 = iN s := by rw [← hF2]; simp (disch := omega) only [upd_same, upd_ne]
  have g6 : F2 6 = -1 := by rw [← hF2]; simp (disch := omega) only [upd_same, upd_ne]; exact h6
  clear hF2
  rw [g1, g2, stQ_2, hb.1]
  by_cases c : s < n
  · have hnc : ¬ n ≤ s := by omega
    rw [if_pos ((iN_lt (by omega) (by omega)).mpr c), Option.bind_some, q_load hb hn _ c, Option.bind_some, Option.bind_some, e_digit, Option.bind_some, b2_ne]
    by_cases cd : isDi (T s)
    · have eE : tE T n s = rnT (cDi T n) 101 s := by
        unfold tE
        rw [if_neg hnc, if_pos cd]
      have hge := rnT_ge (c := cDi T n) 101 s
      have hlen := rnT_le (c := cDi T n) cDi_lt 101 s (by omega)
      have h8 := q_lN (β := ruA) hb hn F2 g1 (p := s) (by omega)
      rw [upd_selfT (show (upd F2 5 0) 2 = iN s by rw [upd_ne _ _ (by decide)]; exact g2), ← eE] at h8
      rw [← eE] at hge hlen
      rw [if_pos cd]
      unfold fX4_stepNumber
      rw [stQ_set, Option.bind_some, h8, stQ_70, upd_same, upd_ne _ _ (show 3 ≠ 2 by decide), upd_ne _ _ (show 3 ≠ 5 by decide), g3, iN_sub hge, li4]
      have eG : tG T n s = if tE T n s - s ≤ 4 then 256 else 258 := by
        unfold tG
        rw [if_neg hnc, if_pos cd]
      have eV : tV T n (A.1 A.2.2.2) s = dgV T s (tE T n s - s) := if_pos cd
      have hif : (if iN 4 < iN (tE T n s - s) then some (258 : Int32) else some 256) = some (tG T n s) := by
        rw [eG]
        by_cases c4 : tE T n s - s ≤ 4
        · rw [if_neg (by rw [iN_lt (by omega) (by omega)]; omega), if_pos c4]
        · rw [if_pos ((iN_lt (by omega) (by omega)).mpr (by omega)), if_neg c4]
      rw [hif, Option.bind_some, Option.bind_some, stQ_set, Option.bind_some]
      refine ⟨_, rfl, ?_, ?_, ?_, ?_, ?_, fun _ => ?_⟩
      · simp (disch := omega) only [upd_same, upd_ne]
        exact g1
      · simp (disch := omega) only [upd_same, upd_ne]
      · simp (disch := omega) only [upd_same, upd_ne]
        exact g3
      · simp (disch := omega) only [upd_same, upd_ne]
      · simp (disch := omega) only [upd_same, upd_ne]
        exact g6
      · simp (disch := omega) only [upd_same, upd_ne]
        exact eV.symm
    · rw [if_neg cd, e_letter, Option.bind_some, b2_ne]
      by_cases cl : isLe (T s)
      · have eE : tE T n s = rnT (cLe T n) 101 s := by
          unfold tE
          rw [if_neg hnc, if_neg cd, if_pos cl]
        have hge := rnT_ge (c := cLe T n) 101 s
        have hlen := rnT_le (c := cLe T n) cLe_lt 101 s (by omega)
        have h8 := q_lW (β := ruA) hb hn F2 g1 (p := s) (by omega)
        rw [upd_selfT g2, ← eE] at h8
        rw [← eE] at hge hlen
        have eG : tG T n s = if (tI T s (tE T n s) 6).isSome = true then 256 else 258 := by
          unfold tG
          rw [if_neg hnc, if_neg cd, if_pos cl]
        have eV : tV T n (A.1 A.2.2.2) s = A.1 A.2.2.2 ((tI T s (tE T n s) 6).getD 0) := if_neg cd
        have hin : ∀ j, s ≤ j → j < tE T n s → isLe (T j) := by
          rw [eE]
          exact fun j h1 h2 => (cLe_iff.mp (rnT_in 101 s j h1 h2)).2
        have hq : fX4_stepWord (stQ A F2) = some (stQ A (fW (upd (upd F2 2 (iN (tE T n s))) 4 258) (A.1 A.2.2.2) (tI T s (tE T n s) 6))) := by
          have d2 : (upd (upd F2 2 (iN (tE T n s))) 4 258) 2 = iN (tE T n s) := by simp (disch := omega) only [upd_same, upd_ne]
          have d3 : (upd (upd F2 2 (iN (tE T n s))) 4 258) 3 = iN s := by
            simp (disch := omega) only [upd_same, upd_ne]
            exact g3
          unfold fX4_stepWord
          rw [h8, Option.bind_some, stQ_set, stQ_70, d2, d3, iN_sub hge, li4]
          by_cases c4 : tE T n s - s ≤ 4
          · rw [if_pos ((iN_le (by omega) (by omega)).mpr c4), q_l79 hb hge c4 hin]
          · rw [if_neg (by rw [iN_le (by omega) (by omega)]; exact c4), tI_long c4]
            rfl
        rw [if_pos cl, hq, Option.bind_some]
        clear hq
        generalize tI T s (tE T n s) 6 = z at *
        refine ⟨_, rfl, ?_, ?_, ?_, ?_, ?_, fun hG => ?_⟩
        · rw [fW_j _ _ _ (by decide)]
          simp (disch := omega) only [upd_same, upd_ne]
          exact g1
        · rw [fW_j _ _ _ (by decide)]
          simp (disch := omega) only [upd_same, upd_ne]
        · rw [fW_j _ _ _ (by decide)]
          simp (disch := omega) only [upd_same, upd_ne]
          exact g3
        · rw [eG]
          cases z with
          | none =>
            show (upd (upd F2 2 (iN (tE T n s))) 4 258) 4 = _
            rw [upd_same]
            rfl
          | some m =>
            show upd (upd (upd (upd F2 2 (iN (tE T n s))) 4 258) 4 256) 5 _ 4 = _
            simp (disch := omega) only [upd_same, upd_ne]
            rfl
        · rw [fW_j _ _ _ (by decide)]
          simp (disch := omega) only [upd_same, upd_ne]
          exact g6
        · rw [eV]
          rw [eG] at hG
          cases z with
          | none => exact absurd hG (by decide)
          | some m =>
            show upd (upd (upd (upd F2 2 (iN (tE T n s))) 4 258) 4 256) 5 (A.1 A.2.2.2 m) 5 = _
            rw [upd_same]
            rfl
      · have eE : tE T n s = s + 1 := by
          unfold tE
          rw [if_neg hnc, if_neg cd, if_neg cl]
        have eG : tG T n s = T s := by
          unfold tG
          rw [if_neg hnc, if_neg cd, if_neg cl]
        rw [if_neg cl, Option.bind_some, Option.bind_some, stQ_set, stQ_70, Option.bind_some, upd_ne _ _ (show 2 ≠ 4 by decide), g2, stQ_set, iN_add1]
        refine ⟨_, rfl, ?_, ?_, ?_, ?_, ?_, fun hG => ?_⟩
        · simp (disch := omega) only [upd_same, upd_ne]
          exact g1
        · rw [upd_same, eE]
        · simp (disch := omega) only [upd_same, upd_ne]
          exact g3
        · simp (disch := omega) only [upd_same, upd_ne]
          exact eG.symm
        · simp (disch := omega) only [upd_same, upd_ne]
          exact g6
        · rw [eG] at hG
          have := (hT s c).2
          rw [hG] at this
          exact absurd this (by decide)
  · have hs : s = n := by omega
    rw [if_neg (by rw [iN_lt (by omega) (by omega)]; omega), Option.bind_some, stQ_set]
    refine ⟨_, rfl, ?_, ?_, ?_, ?_, ?_, fun hG => ?_⟩
    · simp (disch := omega) only [upd_same, upd_ne]
      exact g1
    · simp (disch := omega) only [upd_same, upd_ne]
      rw [g2]
      unfold tE
      rw [if_pos (by omega)]
    · simp (disch := omega) only [upd_same, upd_ne]
      exact g3
    · simp (disch := omega) only [upd_same, upd_ne]
      unfold tG
      rw [if_pos (by omega)]
    · simp (disch := omega) only [upd_same, upd_ne]
      exact g6
    · unfold tG at hG
      rw [if_pos (by omega)] at hG
      exact absurd hG (by decide)
theorem q_next {A : ruA} {T : Nat → Int32} {n : Nat} (hb : bsQ A T n) (hn : n ≤ 100) (hT : ∀ i, i < n → 0 ≤ T i ∧ T i ≤ 255) {F : Nat → Int32} {s : Nat} (h : good4 T n (A.1 A.2.2.2) F s) (hs : s ≤ n) : ∃ F', fX4_step (stQ A F) = some (stQ A F') ∧ good4 T n (A.1 A.2.2.2) F' (nx T n s) :=
  q_step hb hn hT h.1 h.2.1 h.2.2.2.2.1 (tE_le hs)
theorem q_fail {A : ruA} {T : Nat → Int32} {n : Nat} {M F : Nat → Int32} {s : Nat} (h : good4 T n M F s) : ∃ F', fX4_fail (stQ A F) = some (stQ A F') ∧ bad4 n F' s := by
  unfold fX4_fail
  rw [stQ_70, if_pos h.2.2.2.2.1, stQ_set, Option.bind_some, stQ_set, Option.bind_some]
  refine ⟨_, rfl, ?_, ?_, ?_⟩
  · simp (disch := omega) only [upd_same, upd_ne]
    exact h.1
  · rw [upd_same]
  · simp (disch := omega) only [upd_same, upd_ne]
    exact h.2.2.1
theorem bad4_6 {n : Nat} {F : Nat → Int32} {s : Nat} (h : bad4 n F s) (hs : s ≤ 100) : ¬ F 6 = -1 := by
  rw [h.2.2]
  intro e
  have := congrArg Int32.toInt e
  rw [iN_toInt (by omega)] at this
  have e1 : (-1 : Int32).toInt = -1 := by decide
  omega
theorem q_failB {A : ruA} {n : Nat} {F : Nat → Int32} {s : Nat} (h : bad4 n F s) (hs : s ≤ 100) : fX4_fail (stQ A F) = some (stQ A F) := by
  unfold fX4_fail
  rw [stQ_70, if_neg (bad4_6 h hs)]
theorem q_stepB {A : ruA} {n : Nat} {F : Nat → Int32} {s : Nat} (h : bad4 n F s) (hs : s ≤ 100) : fX4_step (stQ A F) = some (stQ A F) := by
  unfold fX4_step
  rw [stQ_70, if_neg (bad4_6 h hs)]
