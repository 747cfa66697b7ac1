/-! LEVEL 2: words of the reference; steps worked out -/
def nmL (m : Nat) : Nat := rulens.getD m 0
def nmR (m i : Nat) : Int32 := (rubyt.getD m []).getD i 0
theorem nm_facts : ∀ m, m < 6 → nmL m ≤ 4 ∧ ∀ i, i < 4 → (i < nmL m → nmC m i = nmR m i ∧ ¬ nmC m i = 32) ∧ (nmL m ≤ i → nmC m i = 32) := by decide
theorem rusl_at {m : Nat} (hm : m < 6) : rusl (97 + m) = some (iN (nmL m)) := by
  unfold rusl
  rw [if_pos (by omega), Nat.add_sub_cancel_left]
  rfl
theorem rusc_nm {m i : Nat} (hm : m < 6) (hi : i < nmL m) : rusc (97 + m) (iN i) = some (nmR m i) := by
  have := (nm_facts m hm).1
  unfold rusc
  rw [if_pos (by omega), Nat.add_sub_cancel_left]
  show ruld (fun j => (rubyt.getD m []).getD j 0) (nmL m) (iN i) = _
  rw [ruld_iN hi (by omega)]
  rfl
theorem name_iff {T : Nat → Int32} {s e m : Nat} (hm : m < 6) (hl : ∀ j, s ≤ j → j < e → isLe (T j)) : (e - s = nmL m ∧ ∀ j, j < nmL m → T (s + j) = nmR m j) ↔ nmP T s e m := by
  obtain ⟨f1, f2⟩ := nm_facts m hm
  constructor
  · rintro ⟨h1, h2⟩
    refine ⟨by omega, fun i hi => ?_⟩
    by_cases c : s + i < e
    · rw [if_pos c, h2 i (by omega), ((f2 i hi).1 (by omega)).1]
    · rw [if_neg c, (f2 i hi).2 (by omega)]
  · rintro ⟨h1, h2⟩
    have hlen : e - s = nmL m := by
      by_cases c1 : e - s < nmL m
      · have h3 := h2 (e - s) (by omega)
        rw [if_neg (by omega)] at h3
        exact absurd h3.symm ((f2 (e - s) (by omega)).1 c1).2
      · by_cases c2 : nmL m < e - s
        · have h3 := h2 (nmL m) (by omega)
          rw [if_pos (by omega), (f2 (nmL m) (by omega)).2 (Nat.le_refl _)] at h3
          have h4 := hl (s + nmL m) (by omega) (by omega)
          rw [h3] at h4
          exact absurd h4 (by decide)
        · omega
    refine ⟨hlen, fun j hj => ?_⟩
    have h3 := h2 j (by omega)
    rw [if_pos (by omega)] at h3
    rw [h3]
    exact ((f2 j (by omega)).1 hj).1
theorem le_in {T : Nat → Int32} {n s : Nat} (hs : ¬ n ≤ s) (hl : isLe (T s)) : ∀ j, s ≤ j → j < tE T n s → isLe (T j) := by
  intro j h1 h2
  unfold tE at h2
  rw [if_neg hs, if_neg (fun h => di_not_le h hl), if_pos hl] at h2
  exact (cLe_iff.mp (rnT_in 101 s j h1 h2)).2
theorem p_word {B : ruA} {T : Nat → Int32} {n : Nat} (hb : bsR B T n) (hn : n ≤ 100) {G H : Nat → Int32} {s m : Nat} (h : goodR T n G s) (hs : s ≤ n) (hm : m < 6) : fX11_isWord (97 + m) (stP B G H) = some (b2 (¬ n ≤ s ∧ isLe (T s) ∧ nmP T s (tE T n s) m)) := by
  have hle := tE_le (T := T) hs
  have hf := (nm_facts m hm).1
  unfold fX11_isWord
  rw [stP_83, if_pos h.2, h.1.1, h.1.2.1, h.1.2.2]
  have done0 : fX11_isWord_l39 (97 + m) (stP B G H) (fun v7 => (rubz v7).bind fun _ => some v7) ruF 0 0 = some 0 := by
    rw [show ruF = 19999 + 1 from rfl, fX11_isWord_l39, if_pos rfl]
    rfl
  unfold tS
  by_cases c0 : n ≤ s
  · rw [if_pos c0, if_neg (by decide), Option.bind_some, done0, b2_neg (fun h => h.1 c0)]
  · rw [if_neg c0]
    by_cases c1 : isLe (T s)
    · have hlt : s < n := by omega
      have hgt := tE_gt (T := T) hn hlt
      rw [if_pos c1, if_pos rfl, rusl_at hm, Option.bind_some, iN_sub (by omega)]
      have hiff := name_iff (T := T) (s := s) (e := tE T n s) hm (le_in c0 c1)
      by_cases c2 : tE T n s - s = nmL m
      · rw [if_pos (by rw [c2]), Option.bind_some]
        have key : fX11_isWord_l39 (97 + m) (stP B G H) (fun v7 => (rubz v7).bind fun _ => some v7) ruF 1 0 = some (b2 (∀ j, j < nmL m → T (s + j) = nmR m j)) := by
          refine loop_gen (fun f i (u : Int32) => fX11_isWord_l39 (97 + m) (stP B G H) (fun v7 => (rubz v7).bind fun _ => some v7) f u (iN i)) (nmL m) (fun i u => u = b2 (∀ j, j < i → T (s + j) = nmR m j)) (fun r => r = some (b2 (∀ j, j < nmL m → T (s + j) = nmR m j))) ?_ ?_ ruF 0 1 (Nat.zero_le _) (by rw [ruF_eq]; omega) ?_
          · intro f u hu
            show fX11_isWord_l39 (97 + m) (stP B G H) (fun v7 => (rubz v7).bind fun _ => some v7) (f + 1) u (iN (nmL m)) = _
            rw [fX11_isWord_l39, rusl_at hm, Option.bind_some, if_pos ((iN_le (by omega) (by omega)).mpr (Nat.le_refl _)), hu, rubz_b2, Option.bind_some]
            split <;> rfl
          · intro f i u hi hu
            by_cases c3 : ∀ j, j < i → T (s + j) = nmR m j
            · right
              have hu1 : u = 1 := by rw [hu, b2_pos c3]
              refine ⟨b2 (T (s + i) = nmR m i), ?_, ?_⟩
              · show fX11_isWord_l39 (97 + m) (stP B G H) (fun v7 => (rubz v7).bind fun _ => some v7) (f + 1) u (iN i) = fX11_isWord_l39 (97 + m) (stP B G H) (fun v7 => (rubz v7).bind fun _ => some v7) f (b2 (T (s + i) = nmR m i)) (iN (i + 1))
                rw [fX11_isWord_l39, hu1, if_neg (by decide), rusl_at hm, Option.bind_some, if_neg (by rw [iN_le (by omega) (by omega)]; omega), stP_83, h.1.2.1, iN_add, p_load hb hn G H (by omega), Option.bind_some, rusc_nm hm hi, Option.bind_some, iN_add1]
                by_cases c4 : T (s + i) = nmR m i
                · rw [if_pos c4, Option.bind_some, b2_pos c4]
                · rw [if_neg c4, Option.bind_some, b2_neg c4]
              · by_cases c4 : T (s + i) = nmR m i
                · rw [b2_pos c4, b2_pos]
                  intro j hj
                  by_cases e : j = i
                  · rw [e]
                    exact c4
                  · exact c3 j (by omega)
                · rw [b2_neg c4, b2_neg (fun h9 => c4 (h9 i (by omega)))]
            · left
              show fX11_isWord_l39 (97 + m) (stP B G H) (fun v7 => (rubz v7).bind fun _ => some v7) (f + 1) u (iN i) = _
              rw [fX11_isWord_l39, hu, b2_neg c3, if_pos rfl, b2_neg (fun h9 => c3 (fun j hj => h9 j (by omega)))]
              rfl
          · rw [b2_pos]
            intro j hj
            omega
        rw [key]
        by_cases c3 : ∀ j, j < nmL m → T (s + j) = nmR m j
        · rw [b2_pos c3, b2_pos ⟨c0, c1, hiff.mp ⟨c2, c3⟩⟩]
        · rw [b2_neg c3, b2_neg (fun h9 => c3 (hiff.mpr h9.2.2).2)]
      · rw [if_neg (by rw [iN_inj (by omega) (by omega)]; exact c2), Option.bind_some, done0, b2_neg (fun h9 => c2 (hiff.mpr h9.2.2).1)]
    · rw [if_neg c1]
      have e3 : ¬ (if isDi (T s) then (2 : Int32) else 3) = 1 := by split <;> decide
      rw [if_neg e3, Option.bind_some, done0, b2_neg (fun h => c1 h.2.1)]
theorem p_wordB (B : ruA) {G H : Nat → Int32} (h : G 17 = 1) (m : Nat) : fX11_isWord (97 + m) (stP B G H) = some 0 := by
  unfold fX11_isWord
  rw [stP_83, h, if_neg (by decide), Option.bind_some, show ruF = 19999 + 1 from rfl, fX11_isWord_l39, if_pos rfl]
  rfl
/-- the name that a token is -/
def tW (T : Nat → Int32) (n s : Nat) : Nat → Option Nat := fun k => if ¬ n ≤ s ∧ isLe (T s) then tI T s (tE T n s) k else none
def onI : Option Nat → Int32
  | none => -1
  | some m => iN m
theorem nm_ref (A : ruA) {m : Nat} (hm : m < 6) : rulr A 91 6 (iN m) = some (97 + m) := by
  rw [rulr_iN hm (by decide)]
  have : m = 0 ∨ m = 1 ∨ m = 2 ∨ m = 3 ∨ m = 4 ∨ m = 5 := by omega
  rcases this with rfl | rfl | rfl | rfl | rfl | rfl <;> rfl
theorem p_l4 {β : Type} {B : ruA} {T : Nat → Int32} {n : Nat} (hb : bsR B T n) (hn : n ≤ 100) {G H : Nat → Int32} {s : Nat} (h : goodR T n G s) (hs : s ≤ n) (K : Int32 → Option β) : fX11_part_l4 (stP B G H) K ruF (-1) 0 = K (onI (tW T n s 6)) := by
  have e0 : onI (tW T n s 0) = -1 := by
    unfold tW
    split <;> rfl
  rw [← e0]
  refine loop_inv (fun f m (z : Int32) => fX11_part_l4 (stP B G H) K f z (iN m)) 6 (fun m => onI (tW T n s m)) _ ?_ ?_ ruF 0 (by decide) (by decide)
  · intro f
    show fX11_part_l4 (stP B G H) K (f + 1) _ (iN 6) = _
    rw [fX11_part_l4, if_pos (by decide)]
  · intro f m hm
    show fX11_part_l4 (stP B G H) K (f + 1) (onI (tW T n s m)) (iN m) = fX11_part_l4 (stP B G H) K f (onI (tW T n s (m + 1))) (iN (m + 1))
    rw [fX11_part_l4, li6, if_neg (by rw [iN_le (by omega) (by omega)]; omega), nm_ref _ hm, Option.bind_some, p_word hb hn h hs hm, Option.bind_some, b2_ne, iN_add1]
    unfold tW
    by_cases c1 : ¬ n ≤ s ∧ isLe (T s)
    · rw [if_pos c1, if_pos c1]
      show _ = fX11_part_l4 (stP B G H) K f (onI (if nmP T s (tE T n s) m then some m else tI T s (tE T n s) m)) (iN (m + 1))
      by_cases c2 : nmP T s (tE T n s) m
      · rw [if_pos ⟨c1.1, c1.2, c2⟩, if_pos c2, Option.bind_some]
        rfl
      · rw [if_neg (fun h => c2 h.2.2), if_neg c2, Option.bind_some]
    · rw [if_neg c1, if_neg c1, if_neg (fun h => c1 ⟨h.1, h.2.1⟩), Option.bind_some]
theorem p_l4B {β : Type} (B : ruA) {G H : Nat → Int32} (h : G 17 = 1) (K : Int32 → Option β) : fX11_part_l4 (stP B G H) K ruF (-1) 0 = K (-1) := by
  refine loop_inv (fun f m (z : Int32) => fX11_part_l4 (stP B G H) K f z (iN m)) 6 (fun m => -1) _ ?_ ?_ ruF 0 (by decide) (by decide)
  · intro f
    show fX11_part_l4 (stP B G H) K (f + 1) _ (iN 6) = _
    rw [fX11_part_l4, if_pos (by decide)]
  · intro f m hm
    show fX11_part_l4 (stP B G H) K (f + 1) (-1) (iN m) = fX11_part_l4 (stP B G H) K f (-1) (iN (m + 1))
    rw [fX11_part_l4, li6, if_neg (by rw [iN_le (by omega) (by omega)]; omega), nm_ref _ hm, Option.bind_some, p_wordB B h, Option.bind_some, if_pos rfl, Option.bind_some, iN_add1]
theorem dg_alg (x t : Int32) : 10 * x + t - 48 = x * 10 + (t - 48) := by
  rw [Int32.mul_comm, Int32.sub_eq_add_neg, Int32.sub_eq_add_neg, Int32.add_assoc]
theorem p_l73 {β : Type} {B : ruA} {T : Nat → Int32} {n : Nat} (hb : bsR B T n) (hn : n ≤ 100) {G H : Nat → Int32} {s e : Nat} (h16 : G 16 = iN e) (hse : s ≤ e) (hen : e ≤ n) (g : ruA → Option ruA) (K : Int32 → Option β) : fX11_part_l73 g (stP B G H) K ruF 0 (iN s) = K (dgV T s (e - s)) := by
  refine loop_inv (fun f j (z : Int32) => fX11_part_l73 g (stP B G H) K f z (iN (s + j))) (e - s) (fun j => dgV T s j) _ ?_ ?_ ruF 0 (Nat.zero_le _) (by rw [ruF_eq]; omega)
  · intro f
    show fX11_part_l73 g (stP B G H) K (f + 1) (dgV T s (e - s)) (iN (s + (e - s))) = _
    rw [fX11_part_l73, stP_83, h16, show s + (e - s) = e by omega, if_pos ((iN_le (by omega) (by omega)).mpr (Nat.le_refl _))]
  · intro f j hj
    show fX11_part_l73 g (stP B G H) K (f + 1) (dgV T s j) (iN (s + j)) = fX11_part_l73 g (stP B G H) K f (dgV T s j * 10 + (T (s + j) - 48)) (iN (s + (j + 1)))
    rw [fX11_part_l73, stP_83, h16, if_neg (by rw [iN_le (by omega) (by omega)]; omega), p_load hb hn G H (by omega), Option.bind_some, iN_add1, dg_alg]
    rfl
/-- a number of at most four digits -/
theorem dg_small {T : Nat → Int32} {s : Nat} : ∀ j, (∀ i, i < j → isDi (T (s + i))) → ∃ v, dgV T s j = iN v ∧ v < 10 ^ j
  | 0, _ => ⟨0, rfl, by decide⟩
  | j + 1, h => by
    obtain ⟨v, h1, h2⟩ := dg_small j (fun i hi => h i (by omega))
    obtain ⟨d1, d2⟩ := h j (by omega)
    obtain ⟨t, ht, et⟩ := iN_of (x := T (s + j)) (m := 57) (Int32.le_trans (by decide) d1) (by decide) d2
    have ht2 : 48 ≤ t := by
      rw [et] at d1
      exact (iN_le (a := 48) (by decide) (by omega)).mp d1
    refine ⟨v * 10 + (t - 48), ?_, ?_⟩
    · show dgV T s j * 10 + (T (s + j) - 48) = _
      rw [h1, et, li10, show (48 : Int32) = iN 48 from rfl, iN_mul, iN_sub ht2, iN_add]
    · rw [Nat.pow_succ]
      omega
/-! steps, worked out over a pile (its top first) -/
def stR1 (M : Nat → Int32) (c : Int32) (σ : List Int32) : Option (List Int32) :=
  if 10100 ≤ c then
    (if c = 10107 then (match σ with
      | a :: τ => some ((if a = 0 then 1 else 0) :: τ)
      | [] => none)
    else (match σ with
      | b :: a :: τ => (fX11_done c a b).map fun r => r :: τ
      | _ => none))
  else if 10000 ≤ c then (if (c - 10000).toNatClampNeg < 6 ∧ c = iN (10000 + (c - 10000).toNatClampNeg) then some (M (c - 10000).toNatClampNeg :: σ) else none)
  else some (c :: σ)
def evs (M : Nat → Int32) : List Int32 → List Int32 → Option (List Int32)
  | [], σ => some σ
  | c :: E, σ => (stR1 M c σ).bind fun τ => evs M E τ
theorem evs_app (M : Nat → Int32) : ∀ (E1 E2 σ : List Int32), evs M (E1 ++ E2) σ = (evs M E1 σ).bind fun τ => evs M E2 τ
  | [], E2, σ => rfl
  | c :: E1, E2, σ => by
    show (stR1 M c σ).bind (fun τ => evs M (E1 ++ E2) τ) = ((stR1 M c σ).bind fun τ => evs M E1 τ).bind fun τ => evs M E2 τ
    cases stR1 M c σ with
    | none => rfl
    | some τ => exact evs_app M E1 E2 τ
theorem evs_one (M : Nat → Int32) (c : Int32) (σ : List Int32) : evs M [c] σ = stR1 M c σ := by
  show (stR1 M c σ).bind (fun τ => some τ) = _
  cases stR1 M c σ <;> rfl
theorem stR1_bin (M : Nat → Int32) {c : Int32} (h1 : 10100 ≤ c) (h2 : ¬ c = 10107) (a b r : Int32) (h : fX11_done c a b = some r) (σ : List Int32) : stR1 M c (b :: a :: σ) = some (r :: σ) := by
  unfold stR1
  rw [if_pos h1, if_neg h2]
  show (fX11_done c a b).map (fun r => r :: σ) = _
  rw [h]
  rfl
theorem stR1_not (M : Nat → Int32) (a : Int32) (σ : List Int32) : stR1 M 10107 (a :: σ) = some ((if a = 0 then 1 else 0) :: σ) := rfl
theorem stR1_num (M : Nat → Int32) {v : Nat} (h : v < 10000) (σ : List Int32) : stR1 M (iN v) σ = some (iN v :: σ) := by
  unfold stR1
  rw [if_neg (by rw [li10100, iN_le (by omega) (by omega)]; omega), if_neg (by rw [li10000, iN_le (by omega) (by omega)]; omega)]
theorem stR1_name (M : Nat → Int32) {m : Nat} (h : m < 6) (σ : List Int32) : stR1 M (iN (10000 + m)) σ = some (M m :: σ) := by
  unfold stR1
  have e : iN (10000 + m) - 10000 = iN m := by rw [li10000, iN_sub (by omega), Nat.add_sub_cancel_left]
  rw [if_neg (by rw [li10100, iN_le (by omega) (by omega)]; omega), if_pos (by rw [li10000, iN_le (by omega) (by omega)]; omega), e, iN_toNat (by omega), if_pos ⟨h, rfl⟩]
