/-! LEVEL 2: the class reads a token -/
def good4 (T : Nat → Int32) (n : Nat) (M F : Nat → Int32) (s : Nat) : Prop := F 1 = iN n ∧ F 2 = iN (tE T n s) ∧ F 3 = iN s ∧ F 4 = tG T n s ∧ F 6 = -1 ∧ (tG T n s = 256 → F 5 = tV T n M s)
def bad4 (n : Nat) (F : Nat → Int32) (s : Nat) : Prop := F 1 = iN n ∧ F 4 = 257 ∧ F 6 = iN s
theorem rusc_at {m i : Nat} (hm : m < 6) (hi : i < 4) : rusc 103 (iN m * 4 + iN i) = some (nmC m i) := by
  unfold rusc
  rw [if_pos (by decide), li4, iN_mul, iN_add]
  show ruld (fun j => (rubyt.getD 6 []).getD j 0) 24 (iN (m * 4 + i)) = _
  rw [ruld_iN (by omega) (by decide), Nat.mul_comm]
  rfl
theorem q_named {A : ruA} {T : Nat → Int32} {n : Nat} (hb : bsQ A T n) (hn : n ≤ 100) {F : Nat → Int32} {s e m : Nat} (h2 : F 2 = iN e) (h3 : F 3 = iN s) (hse : s ≤ e) (hen : e ≤ n) (hm : m < 6) : fX4_isNamed (iN m) (stQ A F) = some (b2 (nmP T s e m)) := by
  unfold fX4_isNamed
  rw [stQ_70, h2, h3, iN_sub hse, li4]
  by_cases c : e - s ≤ 4
  · rw [if_pos ((iN_le (by omega) (by omega)).mpr c)]
    have hl := loop_find (fun f i => fX4_isNamed_l17 (iN m) (stQ A F) (some (0 : Int32)) (some 1) f (iN i)) 4 (fun i => ¬ (if s + i < e then T (s + i) else 32) = nmC m i) (some 1) (some 0) ?_ ?_ ?_ ruF (by decide)
    · rcases hl with ⟨h, hl⟩ | ⟨⟨i, hi, h⟩, hl⟩
      · rw [b2_pos (show nmP T s e m from ⟨c, fun i hi => Classical.not_not.mp (h i hi)⟩)]
        exact hl
      · rw [b2_neg (fun h9 : nmP T s e m => h (h9.2 i hi))]
        exact hl
    · intro f
      show fX4_isNamed_l17 (iN m) (stQ A F) (some (0 : Int32)) (some 1) (f + 1) (iN 4) = _
      rw [fX4_isNamed_l17, if_pos (by decide)]
    · intro f i hi hp
      show fX4_isNamed_l17 (iN m) (stQ A F) (some (0 : Int32)) (some 1) (f + 1) (iN i) = _
      rw [fX4_isNamed_l17, li4, if_neg (by rw [iN_le (by omega) (by omega)]; omega), stQ_70, h2, h3, iN_add, ← li4, rusc_at hm hi, stQ_2, hb.1, Option.bind_some]
      by_cases c2 : s + i < e
      · rw [if_pos c2] at hp
        rw [if_neg (by rw [iN_le (by omega) (by omega)]; omega), q_load hb hn _ (by omega), Option.bind_some, Option.bind_some, Option.bind_some, if_neg hp]
      · rw [if_neg c2] at hp
        rw [if_pos ((iN_le (by omega) (by omega)).mpr (by omega)), Option.bind_some, Option.bind_some, if_neg hp]
    · intro f i hi hp
      have hp := Classical.not_not.mp hp
      show fX4_isNamed_l17 (iN m) (stQ A F) (some (0 : Int32)) (some 1) (f + 1) (iN i) = fX4_isNamed_l17 (iN m) (stQ A F) (some (0 : Int32)) (some 1) f (iN (i + 1))
      rw [fX4_isNamed_l17, li4, if_neg (by rw [iN_le (by omega) (by omega)]; omega), stQ_70, h2, h3, iN_add, ← li4, rusc_at hm hi, stQ_2, hb.1, Option.bind_some, iN_add1]
      by_cases c2 : s + i < e
      · rw [if_pos c2] at hp
        rw [if_neg (by rw [iN_le (by omega) (by omega)]; omega), q_load hb hn _ (by omega), Option.bind_some, Option.bind_some, Option.bind_some, if_pos hp]
      · rw [if_neg c2] at hp
        rw [if_pos ((iN_le (by omega) (by omega)).mpr (by omega)), Option.bind_some, Option.bind_some, if_pos hp]
  · rw [if_neg (by rw [iN_le (by omega) (by omega)]; exact c), b2_neg (fun h => c h.1)]
def fW (F M : Nat → Int32) : Option Nat → Nat → Int32
  | none => F
  | some m => upd (upd F 4 256) 5 (M m)
theorem fW_j (F M : Nat → Int32) (z : Option Nat) {j : Nat} (h : j ≠ 4 ∧ j ≠ 5) : fW F M z j = F j := by
  cases z with
  | none => rfl
  | some m =>
    show upd (upd F 4 256) 5 (M m) j = F j
    rw [upd_ne _ _ h.2, upd_ne _ _ h.1]
theorem fW_two (F M : Nat → Int32) (z : Option Nat) (m : Nat) : upd (upd (fW F M z) 4 256) 5 (M m) = fW F M (some m) := by
  cases z with
  | none => rfl
  | some k =>
    show upd (upd (upd (upd F 4 256) 5 (M k)) 4 256) 5 (M m) = upd (upd F 4 256) 5 (M m)
    funext i
    by_cases e5 : i = 5
    · rw [e5, upd_same, upd_same]
    · rw [upd_ne _ _ e5, upd_ne _ _ e5]
      by_cases e4 : i = 4
      · rw [e4, upd_same, upd_same]
      · rw [upd_ne _ _ e4, upd_ne _ _ e5]
theorem q_l48 {β : Type} {A : ruA} {T : Nat → Int32} {n : Nat} (hb : bsQ A T n) (hn : n ≤ 100) {F : Nat → Int32} {s e : Nat} (h2 : F 2 = iN e) (h3 : F 3 = iN s) (hse : s ≤ e) (hen : e ≤ n) (K : ruA → Option β) : fX4_stepWord_l48 K ruF 0 (stQ A F) = K (stQ A (fW F (A.1 A.2.2.2) (tI T s e 6))) := by
  refine loop_inv (fun f k (G : Nat → Int32) => fX4_stepWord_l48 K f (iN k) (stQ A G)) 6 (fun k => fW F (A.1 A.2.2.2) (tI T s e k)) _ ?_ ?_ ruF 0 (by decide) (by decide)
  · intro f
    show fX4_stepWord_l48 K (f + 1) (iN 6) (stQ A (fW F (A.1 A.2.2.2) (tI T s e 6))) = _
    rw [fX4_stepWord_l48, if_pos (by decide)]
  · intro f k hk
    show fX4_stepWord_l48 K (f + 1) (iN k) (stQ A (fW F (A.1 A.2.2.2) (tI T s e k))) = fX4_stepWord_l48 K f (iN (k + 1)) (stQ A (fW F (A.1 A.2.2.2) (if nmP T s e k then some k else tI T s e k)))
    have g2 : fW F (A.1 A.2.2.2) (tI T s e k) 2 = iN e := by rw [fW_j _ _ _ (by decide)]; exact h2
    have g3 : fW F (A.1 A.2.2.2) (tI T s e k) 3 = iN s := by rw [fW_j _ _ _ (by decide)]; exact h3
    rw [fX4_stepWord_l48, li6, if_neg (by rw [iN_le (by omega) (by omega)]; omega), q_named hb hn g2 g3 hse hen hk, Option.bind_some, b2_ne, iN_add1]
    by_cases c : nmP T s e k
    · rw [if_pos c, if_pos c, Option.bind_some, stQ_set, stQ_2, hb.2.2.2.1, Option.bind_some, stQ_k _ _ hb.2.2.2.2, ruld_iN hk (by decide), Option.bind_some, Option.bind_some, stQ_set, Option.bind_some, fW_two]
    · rw [if_neg c, if_neg c, Option.bind_some]
theorem q_step {A : ruA} {T : Nat → Int32} {n : Nat} (hb : bsQ A T n) (hn : n ≤ 100) (hT : ∀ i, i < n → 0 ≤ T i ∧ T i ≤ 255) {F : Nat → Int32} {p : Nat} (h1 : F 1 = iN n) (h2 : F 2 = iN p) (h6 : F 6 = -1) (hp : p ≤ n) : ∃ F', fX4_step (stQ A F) = some (stQ A F') ∧ good4 T n (A.1 A.2.2.2) F' (rnT (cSp T n) 101 p) := by
  have hle := rnT_le (c := cSp T n) cSp_lt 101 p hp
  unfold fX4_step
  have h9 := q_l9 (β := ruA) hb hn F h1 hp
  rw [upd_selfT h2] at h9
  rw [stQ_70, if_pos h6, h9]
  generalize rnT (cSp T n) 101 p = s at *
  rw [Option.bind_some, stQ_70, upd_same, stQ_set, stQ_70]
  generalize hF2 : upd (upd F 2 (iN s)) 3 (iN s) = F2
  have g1 : F2 1 = iN n := by rw [← hF2]; simp (disch := omega) only [upd_same, upd_ne]; exact h1
  have g2 : F2 2 = iN s := by rw [← hF2]; simp (disch := omega) only [upd_same, upd_ne]
  have g3 : F2 3 = iN s := by rw [← hF2]; simp (disch := omega) only [upd_same, upd_ne]
  have g6 : F2 6 = -1 := by rw [← hF2]; simp (disch := omega) only [upd_same, upd_ne]; exact h6
  clear hF2
  rw [g1, g2, stQ_2, hb.1]
  by_cases c : s < n
  · have hnc : ¬ n ≤ s := by omega
    rw [if_pos ((iN_lt (by omega) (by omega)).mpr c), Option.bind_some, q_load hb hn _ c, Option.bind_some, Option.bind_some, e_digit, Option.bind_some, b2_ne]
    by_cases cd : isDi (T s)
    · have eE : tE T n s = rnT (cDi T n) 101 s := by
        unfold tE
        rw [if_neg hnc, if_pos cd]
      have hge := rnT_ge (c := cDi T n) 101 s
      have hlen := rnT_le (c := cDi T n) cDi_lt 101 s (by omega)
      have h8 := q_lN (β := ruA) hb hn F2 g1 (p := s) (by omega)
      rw [upd_selfT (show (upd F2 5 0) 2 = iN s by rw [upd_ne _ _ (by decide)]; exact g2), ← eE] at h8
      rw [← eE] at hge hlen
      rw [if_pos cd]
      unfold fX4_stepNumber
      rw [stQ_set, Option.bind_some, h8, stQ_70, upd_same, upd_ne _ _ (show 3 ≠ 2 by decide), upd_ne _ _ (show 3 ≠ 5 by decide), g3, iN_sub hge, li4]
      have eG : tG T n s = if tE T n s - s ≤ 4 then 256 else 258 := by
        unfold tG
        rw [if_neg hnc, if_pos cd]
      have eV : tV T n (A.1 A.2.2.2) s = dgV T s (tE T n s - s) := if_pos cd
      have hif : (if iN 4 < iN (tE T n s - s) then some (258 : Int32) else some 256) = some (tG T n s) := by
        rw [eG]
        by_cases c4 : tE T n s - s ≤ 4
        · rw [if_neg (by rw [iN_lt (by omega) (by omega)]; omega), if_pos c4]
        · rw [if_pos ((iN_lt (by omega) (by omega)).mpr (by omega)), if_neg c4]
      rw [hif, Option.bind_some, Option.bind_some, stQ_set, Option.bind_some]
      refine ⟨_, rfl, ?_, ?_, ?_, ?_, ?_, fun _ => ?_⟩
      · simp (disch := omega) only [upd_same, upd_ne]
        exact g1
      · simp (disch := omega) only [upd_same, upd_ne]
      · simp (disch := omega) only [upd_same, upd_ne]
        exact g3
      · simp (disch := omega) only [upd_same, upd_ne]
      · simp (disch := omega) only [upd_same, upd_ne]
        exact g6
      · simp (disch := omega) only [upd_same, upd_ne]
        exact eV.symm
    · rw [if_neg cd, e_letter, Option.bind_some, b2_ne]
      by_cases cl : isLe (T s)
      · have eE : tE T n s = rnT (cLe T n) 101 s := by
          unfold tE
          rw [if_neg hnc, if_neg cd, if_pos cl]
        have hge := rnT_ge (c := cLe T n) 101 s
        have hlen := rnT_le (c := cLe T n) cLe_lt 101 s (by omega)
        have h8 := q_lW (β := ruA) hb hn F2 g1 (p := s) (by omega)
        rw [upd_selfT g2, ← eE] at h8
        rw [← eE] at hge hlen
        have eG : tG T n s = if (tI T s (tE T n s) 6).isSome = true then 256 else 258 := by
          unfold tG
          rw [if_neg hnc, if_neg cd, if_pos cl]
        have eV : tV T n (A.1 A.2.2.2) s = A.1 A.2.2.2 ((tI T s (tE T n s) 6).getD 0) := if_neg cd
        rw [if_pos cl]
        unfold fX4_stepWord
        rw [h8, Option.bind_some, stQ_set, q_l48 hb hn (s := s) (e := tE T n s) (by simp (disch := omega) only [upd_same, upd_ne]) (by simp (disch := omega) only [upd_same, upd_ne]; exact g3) hge hlen, Option.bind_some]
        generalize tI T s (tE T n s) 6 = z at *
        refine ⟨_, rfl, ?_, ?_, ?_, ?_, ?_, fun hG => ?_⟩
        · rw [fW_j _ _ _ (by decide)]
          simp (disch := omega) only [upd_same, upd_ne]
          exact g1
        · rw [fW_j _ _ _ (by decide)]
          simp (disch := omega) only [upd_same, upd_ne]
        · rw [fW_j _ _ _ (by decide)]
          simp (disch := omega) only [upd_same, upd_ne]
          exact g3
        · rw [eG]
          cases z with
          | none =>
            show (upd (upd F2 2 (iN (tE T n s))) 4 258) 4 = _
            rw [upd_same]
            rfl
          | some m =>
            show upd (upd (upd (upd F2 2 (iN (tE T n s))) 4 258) 4 256) 5 _ 4 = _
            simp (disch := omega) only [upd_same, upd_ne]
            rfl
        · rw [fW_j _ _ _ (by decide)]
          simp (disch := omega) only [upd_same, upd_ne]
          exact g6
        · rw [eV]
          rw [eG] at hG
          cases z with
          | none => exact absurd hG (by decide)
          | some m =>
            show upd (upd (upd (upd F2 2 (iN (tE T n s))) 4 258) 4 256) 5 (A.1 A.2.2.2 m) 5 = _
            rw [upd_same]
            rfl
      · have eE : tE T n s = s + 1 := by
          unfold tE
          rw [if_neg hnc, if_neg cd, if_neg cl]
        have eG : tG T n s = T s := by
          unfold tG
          rw [if_neg hnc, if_neg cd, if_neg cl]
        rw [if_neg cl, Option.bind_some, Option.bind_some, stQ_set, stQ_70, Option.bind_some, upd_ne _ _ (show 2 ≠ 4 by decide), g2, stQ_set, iN_add1]
        refine ⟨_, rfl, ?_, ?_, ?_, ?_, ?_, fun hG => ?_⟩
        · simp (disch := omega) only [upd_same, upd_ne]
          exact g1
        · rw [upd_same, eE]
        · simp (disch := omega) only [upd_same, upd_ne]
          exact g3
        · simp (disch := omega) only [upd_same, upd_ne]
          exact eG.symm
        · simp (disch := omega) only [upd_same, upd_ne]
          exact g6
        · rw [eG] at hG
          have := (hT s c).2
          rw [hG] at this
          exact absurd this (by decide)
  · have hs : s = n := by omega
    rw [if_neg (by rw [iN_lt (by omega) (by omega)]; omega), Option.bind_some, stQ_set]
    refine ⟨_, rfl, ?_, ?_, ?_, ?_, ?_, fun hG => ?_⟩
    · simp (disch := omega) only [upd_same, upd_ne]
      exact g1
    · simp (disch := omega) only [upd_same, upd_ne]
      rw [g2]
      unfold tE
      rw [if_pos (by omega)]
    · simp (disch := omega) only [upd_same, upd_ne]
      exact g3
    · simp (disch := omega) only [upd_same, upd_ne]
      unfold tG
      rw [if_pos (by omega)]
    · simp (disch := omega) only [upd_same, upd_ne]
      exact g6
    · unfold tG at hG
      rw [if_pos (by omega)] at hG
      exact absurd hG (by decide)
theorem q_next {A : ruA} {T : Nat → Int32} {n : Nat} (hb : bsQ A T n) (hn : n ≤ 100) (hT : ∀ i, i < n → 0 ≤ T i ∧ T i ≤ 255) {F : Nat → Int32} {s : Nat} (h : good4 T n (A.1 A.2.2.2) F s) (hs : s ≤ n) : ∃ F', fX4_step (stQ A F) = some (stQ A F') ∧ good4 T n (A.1 A.2.2.2) F' (nx T n s) :=
  q_step hb hn hT h.1 h.2.1 h.2.2.2.2.1 (tE_le hs)
theorem q_fail {A : ruA} {T : Nat → Int32} {n : Nat} {M F : Nat → Int32} {s : Nat} (h : good4 T n M F s) : ∃ F', fX4_fail (stQ A F) = some (stQ A F') ∧ bad4 n F' s := by
  unfold fX4_fail
  rw [stQ_70, if_pos h.2.2.2.2.1, stQ_set, Option.bind_some, stQ_set, Option.bind_some]
  refine ⟨_, rfl, ?_, ?_, ?_⟩
  · simp (disch := omega) only [upd_same, upd_ne]
    exact h.1
  · rw [upd_same]
  · simp (disch := omega) only [upd_same, upd_ne]
    exact h.2.2.1
theorem bad4_6 {n : Nat} {F : Nat → Int32} {s : Nat} (h : bad4 n F s) (hs : s ≤ 100) : ¬ F 6 = -1 := by
  rw [h.2.2]
  intro e
  have := congrArg Int32.toInt e
  rw [iN_toInt (by omega)] at this
  have e1 : (-1 : Int32).toInt = -1 := by decide
  omega
theorem q_failB {A : ruA} {n : Nat} {F : Nat → Int32} {s : Nat} (h : bad4 n F s) (hs : s ≤ 100) : fX4_fail (stQ A F) = some (stQ A F) := by
  unfold fX4_fail
  rw [stQ_70, if_neg (bad4_6 h hs)]
theorem q_stepB {A : ruA} {n : Nat} {F : Nat → Int32} {s : Nat} (h : bad4 n F s) (hs : s ≤ 100) : fX4_step (stQ A F) = some (stQ A F) := by
  unfold fX4_step
  rw [stQ_70, if_neg (bad4_6 h hs)]
