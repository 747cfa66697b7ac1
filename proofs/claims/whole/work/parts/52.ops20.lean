/-! LEVEL 2: count -/
theorem sumI_add (f g : Nat → Int32) : ∀ n, sumI (fun j => f j + g j) n = sumI f n + sumI g n
  | 0 => rfl
  | n + 1 => by
    show sumI (fun j => f j + g j) n + (f n + g n) = sumI f n + f n + (sumI g n + g n)
    rw [sumI_add f g n, Int32.add_assoc, Int32.add_assoc, ← Int32.add_assoc (sumI g n), Int32.add_comm (sumI g n) (f n), Int32.add_assoc]
theorem sumI_swap (f : Nat → Nat → Int32) (m : Nat) : ∀ n, sumI (fun a => sumI (fun b => f a b) m) n = sumI (fun b => sumI (fun a => f a b) n) m
  | 0 => (sumI_zero m).symm
  | n + 1 => by
    show sumI (fun a => sumI (fun b => f a b) m) n + sumI (fun b => f n b) m = sumI (fun b => sumI (fun a => f a b) n + f n b) m
    rw [sumI_swap f m n, sumI_add]
theorem sumI_more (f : Nat → Int32) (n : Nat) : ∀ m, sumI f (n + m) = sumI f n + sumI (fun y => f (n + y)) m
  | 0 => (Int32.add_zero _).symm
  | m + 1 => by
    show sumI f (n + m) + f (n + m) = sumI f n + (sumI (fun y => f (n + y)) m + f (n + m))
    rw [sumI_more f n m, Int32.add_assoc]
theorem sumI_blocks (f : Nat → Int32) (k : Nat) : ∀ n, sumI f (k * n) = sumI (fun c => sumI (fun y => f (k * c + y)) k) n
  | 0 => rfl
  | n + 1 => by
    show sumI f (k * n + k) = sumI (fun c => sumI (fun y => f (k * c + y)) k) n + sumI (fun y => f (k * n + y)) k
    rw [sumI_more, sumI_blocks f k n]
theorem sumI_cut {f : Nat → Int32} {n m : Nat} (h : n ≤ m) (hz : ∀ j, n ≤ j → j < m → f j = 0) : sumI f m = sumI f n := by
  obtain ⟨d, rfl⟩ : ∃ d, m = n + d := ⟨m - n, by omega⟩
  rw [sumI_more, sumI_congr (g2 := fun _ => 0) d (fun j hj => hz _ (by omega) (by omega)), sumI_zero, Int32.add_zero]
/-- what a sheet adds -/
def nAdd (N : Nat → Int32) (k s : Nat) : Int32 := if N (128 + 28 * s) = 1 then (if k = 0 then 1 else if k = 1 then nFilled N s else nRights N s) else 0
theorem nAdd_zero {N : Nat → Int32} {k s : Nat} (h : N (128 + 28 * s) = 0) : nAdd N k s = 0 := by
  unfold nAdd
  rw [if_neg (by rw [h]; decide)]
theorem f11_all_in {β : Type} (A : ruA) {c y k : Nat} (hc : c < 24) (hy : y < 6) (hk : k < 3) (a b x : Int32) (K : Int32 → Option β) : fX11_allOf_l29 a b (iN k) (iN c) (iN y) A K ruF x 0 = K (x + nAdd (A.1 84) k (6 * c + y)) := by
  have hst : 6 * c + y < 144 := by omega
  unfold nAdd
  by_cases c0 : A.1 84 (128 + 28 * (6 * c + y)) = 1
  · rw [if_pos c0]
    have key : ∀ (g : Nat → Int32), (∀ n q z, q < 12 → fX11_allOf_l29 a b (iN k) (iN c) (iN y) A K (n + 1) z (iN q) = fX11_allOf_l29 a b (iN k) (iN c) (iN y) A K n (z + g q) (iN (q + 1))) → fX11_allOf_l29 a b (iN k) (iN c) (iN y) A K ruF x 0 = K (x + sumI g 12) := by
      intro g hg
      refine loop_sum_from (fun n q z => fX11_allOf_l29 a b (iN k) (iN c) (iN y) A K n z (iN q)) 12 g K x ?_ hg ruF (by decide)
      intro n z
      show fX11_allOf_l29 a b (iN k) (iN c) (iN y) A K (n + 1) z (iN 12) = _
      rw [fX11_allOf_l29, if_pos (by decide)]
    have hk3 : k = 0 ∨ k = 1 ∨ k = 2 := by omega
    rcases hk3 with rfl | rfl | rfl
    · rw [if_pos rfl]
      have h1 := key (fun q => b2 (q = 0)) ?_
      · rw [sumI_one (j := 0) 12 (by decide) (fun i h1 h2 => b2_neg h2), b2_pos rfl] at h1
        exact h1
      · intro n q z hq
        rw [fX11_allOf_l29, li12, if_neg (by rw [iN_le (by omega) (by omega)]; omega), f11_hasSheet A hc hy, Option.bind_some, b2_pos c0, ite10, if_pos (show iN 0 = 0 from rfl), iN_add1]
        have h0 : iN q = 0 ↔ q = 0 := iN_inj (b := 0) (by omega) (by omega)
        by_cases c1 : q = 0
        · rw [if_pos (h0.mpr c1), Option.bind_some, b2_pos c1]
        · rw [if_neg (fun h => c1 (h0.mp h)), Option.bind_some, b2_neg c1]
    · rw [if_neg (by decide), if_pos rfl]
      refine key (fun q => b2 (¬ A.1 84 (129 + 28 * (6 * c + y) + q) = -1)) ?_
      intro n q z hq
      rw [fX11_allOf_l29, li12, if_neg (by rw [iN_le (by omega) (by omega)]; omega), f11_hasSheet A hc hy, Option.bind_some, b2_pos c0, ite10, if_neg (show ¬ iN 1 = 0 by decide), if_pos (show iN 1 = 1 from rfl), f11_choice A hc hy hq, Option.bind_some, iN_add1]
      by_cases c1 : A.1 84 (129 + 28 * (6 * c + y) + q) = -1
      · rw [if_pos c1, Option.bind_some, b2_neg (fun h => h c1)]
      · rw [if_neg c1, Option.bind_some, b2_pos c1]
    · rw [if_neg (by decide), if_neg (by decide)]
      refine key (fun q => b2 (A.1 84 (129 + 28 * (6 * c + y) + q) = A.1 84 (8 + q))) ?_
      intro n q z hq
      rw [fX11_allOf_l29, li12, if_neg (by rw [iN_le (by omega) (by omega)]; omega), f11_hasSheet A hc hy, Option.bind_some, b2_pos c0, ite10, if_neg (show ¬ iN 2 = 0 by decide), if_neg (show ¬ iN 2 = 1 by decide), f11_isRight A hc hy hq, Option.bind_some, b2_ne, iN_add1]
      by_cases c1 : A.1 84 (129 + 28 * (6 * c + y) + q) = A.1 84 (8 + q)
      · rw [if_pos c1, Option.bind_some, b2_pos c1]
      · rw [if_neg c1, Option.bind_some, b2_neg c1]
  · rw [if_neg c0, Int32.add_zero, show ruF = 19999 + 1 from ruF_eq, fX11_allOf_l29, if_neg (by decide), f11_hasSheet A hc hy, Option.bind_some, b2_neg c0, ite00]
theorem f11_all_years {β : Type} (A : ruA) {c y0 m k : Nat} (hc : c < 24) (hy : y0 + m < 6) (hk : k < 3) (x : Int32) (K : Int32 → Option β) : fX11_allOf_l20 (iN y0) (iN (y0 + m)) (iN k) (iN c) A K ruF x (iN y0) = K (x + sumI (fun j => nAdd (A.1 84) k (6 * c + (y0 + j))) (m + 1)) := by
  refine loop_sum_from (fun n q z => fX11_allOf_l20 (iN y0) (iN (y0 + m)) (iN k) (iN c) A K n z (iN (y0 + q))) (m + 1) _ K x ?_ ?_ ruF (by rw [ruF_eq]; omega)
  · intro n z
    rw [fX11_allOf_l20, if_pos ((iN_lt (by omega) (by omega)).mpr (by omega))]
  · intro n q z hq
    rw [fX11_allOf_l20, if_neg (by rw [iN_lt (by omega) (by omega)]; omega), f11_all_in A hc (by omega) hk, iN_add1]
    rfl
theorem f11_allOf (A : ruA) {y0 m k n : Nat} (hn : n ≤ 24) (e2 : A.1 84 2 = iN n) (hy : y0 + m < 6) (hk : k < 3) : fX11_allOf (iN y0) (iN (y0 + m)) (iN k) A = some (sumI (fun c => sumI (fun j => nAdd (A.1 84) k (6 * c + (y0 + j))) (m + 1)) n) := by
  unfold fX11_allOf
  refine loop_sum (fun f c z => fX11_allOf_l6 (iN y0) (iN (y0 + m)) (iN k) A (fun v8 => some v8) f z (iN c)) n _ (fun v => some v) ?_ ?_ ruF (by rw [ruF_eq]; omega)
  · intro f z
    rw [fX11_allOf_l6, l2A, Option.bind_some, e2, if_pos ((iN_le (by omega) (by omega)).mpr (Nat.le_refl _))]
  · intro f c z hc
    rw [fX11_allOf_l6, l2A, Option.bind_some, e2, if_neg (by rw [iN_le (by omega) (by omega)]; omega), f11_all_years A (by omega) hy hk, iN_add1]
theorem f11_allY (A : ruA) {y k n : Nat} (hn : n ≤ 24) (e2 : A.1 84 2 = iN n) (hy : y < 6) (hk : k < 3) : fX11_allOf (iN y) (iN y) (iN k) A = some (sumI (fun c => nAdd (A.1 84) k (6 * c + y)) n) := by
  have h := f11_allOf A (y0 := y) (m := 0) hn e2 hy hk
  rw [sumI_congr (g2 := fun c => nAdd (A.1 84) k (6 * c + y)) n (fun c hc => by
    show 0 + nAdd (A.1 84) k (6 * c + (y + 0)) = _
    rw [Int32.zero_add, Nat.add_zero])] at h
  exact h
theorem f11_allA (A : ruA) {k n : Nat} (hn : n ≤ 24) (e2 : A.1 84 2 = iN n) (hk : k < 3) : fX11_allOf 0 5 (iN k) A = some (sumI (fun s => nAdd (A.1 84) k s) (6 * n)) := by
  have h := f11_allOf A (y0 := 0) (m := 5) hn e2 (by decide) hk
  rw [sumI_congr (g2 := fun c => sumI (fun y => nAdd (A.1 84) k (6 * c + y)) 6) n (fun c hc => by
    refine sumI_congr 6 fun j hj => ?_
    rw [Nat.zero_add]), ← sumI_blocks] at h
  exact h
theorem nAdd_c {A : ruA} {N : Nat → Int32} (sh : shC A N) {s k : Nat} (hs : s < 144) (v x : Int32) (hv : N (128 + 28 * s) = 1 → nAdd N k s = v) : (if N (128 + 28 * s) = 0 then x else x + v) = x + nAdd N k s := by
  rcases (sh.2.1 _ hs).2.1 with e | e
  · rw [if_pos e, nAdd_zero e, Int32.add_zero]
  · rw [if_neg (by rw [e]; decide), hv e]
theorem f10_howManyIn {A : ruA} {N : Nat → Int32} (sh : shC A N) {y : Nat} (hy : y < 6) : fX6_howManyIn (iN y) A = some (sumI (fun c => nAdd N 0 (6 * c + y)) 24) := by
  unfold fX6_howManyIn
  refine loop_sum (fun f c z => fX6_howManyIn_l4 (iN y) A (fun v4 => some v4) f z (iN c)) 24 _ (fun v => some v) ?_ ?_ ruF (by decide)
  · intro f z
    show fX6_howManyIn_l4 (iN y) A (fun v4 => some v4) (f + 1) z (iN 24) = _
    rw [fX6_howManyIn_l4, if_pos (by decide)]
  · intro f c z hc
    rw [fX6_howManyIn_l4, li24, if_neg (by rw [iN_le (by omega) (by omega)]; omega), e10_place, Option.bind_some, f10_there sh (by omega), Option.bind_some, ite_some, Option.bind_some, iN_add1, nAdd_c sh (k := 0) (by omega) 1 z (fun e => by unfold nAdd; rw [if_pos e, if_pos rfl])]
theorem f10_howMany {A : ruA} {N : Nat → Int32} (sh : shC A N) : fX6_howMany A = some (sumI (fun s => nAdd N 0 s) 144) := by
  have e : sumI (fun s => nAdd N 0 s) 144 = sumI (fun y => sumI (fun c => nAdd N 0 (6 * c + y)) 24) 6 := by
    rw [show (144 : Nat) = 6 * 24 from rfl, sumI_blocks, sumI_swap (fun a b => nAdd N 0 (6 * a + b))]
  rw [e]
  unfold fX6_howMany
  refine loop_sum (fun f c z => fX6_howMany_l4 A (fun v4 => some v4) f z (iN c)) 6 _ (fun v => some v) ?_ ?_ ruF (by decide)
  · intro f z
    show fX6_howMany_l4 A (fun v4 => some v4) (f + 1) z (iN 6) = _
    rw [fX6_howMany_l4, if_pos (by decide)]
  · intro f c z hc
    rw [fX6_howMany_l4, li6, if_neg (by rw [iN_le (by omega) (by omega)]; omega), f10_howManyIn sh hc, Option.bind_some, iN_add1]
theorem f10_allFilled {A : ruA} {N : Nat → Int32} (sh : shC A N) : fX6_allFilled A = some (sumI (fun s => nAdd N 1 s) 144) := by
  unfold fX6_allFilled
  refine loop_sum (fun f c z => fX6_allFilled_l4 A (fun v4 => some v4) f z (iN c)) 144 _ (fun v => some v) ?_ ?_ ruF (by decide)
  · intro f z
    show fX6_allFilled_l4 A (fun v4 => some v4) (f + 1) z (iN 144) = _
    rw [fX6_allFilled_l4, if_pos (by decide)]
  · intro f s z hs
    rw [fX6_allFilled_l4, show (144 : Int32) = iN 144 from rfl, if_neg (by rw [iN_le (by omega) (by omega)]; omega), f10_there sh hs, Option.bind_some, f10_filled sh hs, Option.bind_some, ite_some, Option.bind_some, iN_add1, nAdd_c sh (k := 1) hs _ z (fun e => by unfold nAdd; rw [if_pos e, if_neg (by decide), if_pos rfl])]
theorem f10_allRights {A : ruA} {N : Nat → Int32} (sh : shC A N) : fX6_allRights A = some (sumI (fun s => nAdd N 2 s) 144) := by
  unfold fX6_allRights
  refine loop_sum (fun f c z => fX6_allRights_l4 A (fun v4 => some v4) f z (iN c)) 144 _ (fun v => some v) ?_ ?_ ruF (by decide)
  · intro f z
    show fX6_allRights_l4 A (fun v4 => some v4) (f + 1) z (iN 144) = _
    rw [fX6_allRights_l4, if_pos (by decide)]
  · intro f s z hs
    rw [fX6_allRights_l4, show (144 : Int32) = iN 144 from rfl, if_neg (by rw [iN_le (by omega) (by omega)]; omega), f10_there sh hs, Option.bind_some, f10_rights sh hs, Option.bind_some, ite_some, Option.bind_some, iN_add1, nAdd_c sh (k := 2) hs _ z (fun e => by unfold nAdd; rw [if_pos e, if_neg (by decide), if_neg (by decide)])]
theorem l84 (A : ruA) {i : Nat} (h : i < 4920) : ruld (A.1 84) 4920 (iN i) = some (A.1 84 i) := ruld_iN h (by decide)

theorem op_count {W : ruWy} {A : ruA} (hI : Inv W A) (x1 : Int32) : Op2 W (fX10_count x1) (fX11_count x1) A := by
  obtain ⟨⟨hn, hq, hc, hs, hb, hr, hh, hf, hw⟩, hK, hMf, hMt, hMs⟩ := id hI
  obtain ⟨m0, m1, m2, m3, m4, m5⟩ := id hn
  have q0 : A.1 2 0 = A.1 84 0 := m0.1
  have q1 : A.1 2 1 = A.1 84 1 := m1.1
  have q2 : A.1 2 2 = A.1 84 2 := m2.1
  have q3 : A.1 14 0 = A.1 84 3 := m3.1
  have q4 : A.1 23 0 = A.1 84 4 := m4.1
  have q5 : A.1 29 0 = A.1 84 5 := m5.1
  have sh : shC A (A.1 84) := ⟨hq, hs, hb, hr⟩
  have l1 : ruld (A.1 84) 4920 1 = some (A.1 84 1) := l84 A (i := 1) (by decide)
  have l3 : ruld (A.1 84) 4920 3 = some (A.1 84 3) := l84 A (i := 3) (by decide)
  have l4 : ruld (A.1 84) 4920 4 = some (A.1 84 4) := l84 A (i := 4) (by decide)
  have l5 : ruld (A.1 84) 4920 5 = some (A.1 84 5) := l84 A (i := 5) (by decide)
  have hz : ∀ k j, 6 * cn (A.1 84) 2 ≤ j → j < 144 → nAdd (A.1 84) k j = 0 := fun k j h1 h2 => nAdd_zero ((hs j h2).2.2 h1)
  obtain ⟨-, ey, hy5⟩ := m0
  obtain ⟨-, ec, hc24⟩ := m2
  by_cases h0 : x1 = 0
  · refine ⟨A.1 84 1, A, A, ?_, ?_, hI⟩
    · unfold fX10_count
      rw [if_pos h0, q1]
    · unfold fX11_count
      rw [if_pos h0, l1, Option.bind_some]
  by_cases h1 : x1 = 1
  · refine ⟨A.1 84 2, A, A, ?_, ?_, hI⟩
    · unfold fX10_count
      rw [if_neg h0, if_pos h1, q2]
    · unfold fX11_count
      rw [if_neg h0, if_pos h1, l2A, Option.bind_some]
  by_cases h2 : x1 = 2
  · refine ⟨sumI (fun c => nAdd (A.1 84) 0 (6 * c + cn (A.1 84) 0)) (cn (A.1 84) 2), A, A, ?_, ?_, hI⟩
    · unfold fX10_count
      rw [if_neg h0, if_neg h1, if_pos h2, q0, ey, f10_howManyIn sh (by omega), Option.bind_some, sumI_cut hc24 (fun j h1 h2 => hz 0 _ (by omega) (by omega))]
    · unfold fX11_count
      have e := f11_allY A (y := cn (A.1 84) 0) (k := 0) hc24 ec (by omega) (by decide)
      rw [show iN 0 = 0 from rfl] at e
      rw [if_neg h0, if_neg h1, if_pos h2, l0A, Option.bind_some, Option.bind_some, ey, e, Option.bind_some]
  by_cases h3 : x1 = 3
  · refine ⟨sumI (fun s => nAdd (A.1 84) 0 s) (6 * cn (A.1 84) 2), A, A, ?_, ?_, hI⟩
    · unfold fX10_count
      rw [if_neg h0, if_neg h1, if_neg h2, if_pos h3, f10_howMany sh, Option.bind_some, sumI_cut (n := 6 * cn (A.1 84) 2) (by omega) (hz 0)]
    · unfold fX11_count
      have e := f11_allA A (k := 0) hc24 ec (by decide)
      rw [if_neg h0, if_neg h1, if_neg h2, if_pos h3]
      rw [show iN 0 = 0 from rfl] at e
      rw [e, Option.bind_some]
  by_cases h4 : x1 = 4
  · refine ⟨A.1 84 3, A, A, ?_, ?_, hI⟩
    · unfold fX10_count
      rw [if_neg h0, if_neg h1, if_neg h2, if_neg h3, if_pos h4, q3]
    · unfold fX11_count
      rw [if_neg h0, if_neg h1, if_neg h2, if_neg h3, if_pos h4, l3, Option.bind_some]
  by_cases h5 : x1 = 5
  · refine ⟨A.1 84 5, A, A, ?_, ?_, hI⟩
    · unfold fX10_count
      rw [if_neg h0, if_neg h1, if_neg h2, if_neg h3, if_neg h4, if_pos h5, q5]
    · unfold fX11_count
      rw [if_neg h0, if_neg h1, if_neg h2, if_neg h3, if_neg h4, if_pos h5, l5, Option.bind_some]
  by_cases h6 : x1 = 6
  · refine ⟨A.1 84 4, A, A, ?_, ?_, hI⟩
    · unfold fX10_count
      rw [if_neg h0, if_neg h1, if_neg h2, if_neg h3, if_neg h4, if_neg h5, if_pos h6, q4]
    · unfold fX11_count
      rw [if_neg h0, if_neg h1, if_neg h2, if_neg h3, if_neg h4, if_neg h5, if_pos h6, l4, Option.bind_some]
  by_cases h7 : x1 = 7
  · refine ⟨A.1 83 6, A, A, ?_, ?_, hI⟩
    · unfold fX10_count
      rw [if_neg h0, if_neg h1, if_neg h2, if_neg h3, if_neg h4, if_neg h5, if_neg h6, if_pos h7, hMt.1.1]
    · unfold fX11_count
      rw [if_neg h0, if_neg h1, if_neg h2, if_neg h3, if_neg h4, if_neg h5, if_neg h6, if_pos h7]
  by_cases h8 : x1 = 8
  · refine ⟨A.1 84 0, A, A, ?_, ?_, hI⟩
    · unfold fX10_count
      rw [if_neg h0, if_neg h1, if_neg h2, if_neg h3, if_neg h4, if_neg h5, if_neg h6, if_neg h7, if_pos h8, q0]
    · unfold fX11_count
      rw [if_neg h0, if_neg h1, if_neg h2, if_neg h3, if_neg h4, if_neg h5, if_neg h6, if_neg h7, if_pos h8, l0A, Option.bind_some]
  by_cases h9 : x1 = 9
  · refine ⟨sumI (fun s => nAdd (A.1 84) 1 s) (6 * cn (A.1 84) 2), A, A, ?_, ?_, hI⟩
    · unfold fX10_count
      rw [if_neg h0, if_neg h1, if_neg h2, if_neg h3, if_neg h4, if_neg h5, if_neg h6, if_neg h7, if_neg h8, if_pos h9, f10_allFilled sh, Option.bind_some, sumI_cut (n := 6 * cn (A.1 84) 2) (by omega) (hz 1)]
    · unfold fX11_count
      have e := f11_allA A (k := 1) hc24 ec (by decide)
      rw [if_neg h0, if_neg h1, if_neg h2, if_neg h3, if_neg h4, if_neg h5, if_neg h6, if_neg h7, if_neg h8, if_pos h9]
      rw [show iN 1 = 1 from rfl] at e
      rw [e, Option.bind_some]
  by_cases h10 : x1 = 10
  · refine ⟨sumI (fun s => nAdd (A.1 84) 2 s) (6 * cn (A.1 84) 2), A, A, ?_, ?_, hI⟩
    · unfold fX10_count
      rw [if_neg h0, if_neg h1, if_neg h2, if_neg h3, if_neg h4, if_neg h5, if_neg h6, if_neg h7, if_neg h8, if_neg h9, if_pos h10, f10_allRights sh, Option.bind_some, sumI_cut (n := 6 * cn (A.1 84) 2) (by omega) (hz 2)]
    · unfold fX11_count
      have e := f11_allA A (k := 2) hc24 ec (by decide)
      rw [if_neg h0, if_neg h1, if_neg h2, if_neg h3, if_neg h4, if_neg h5, if_neg h6, if_neg h7, if_neg h8, if_neg h9, if_pos h10]
      rw [show iN 2 = 2 from rfl] at e
      rw [e, Option.bind_some]
  refine Op_find hI (-1000001) 0 (by decide) (by decide) ?_ ?_
  · unfold fX10_count
    rw [if_neg h0, if_neg h1, if_neg h2, if_neg h3, if_neg h4, if_neg h5, if_neg h6, if_neg h7, if_neg h8, if_neg h9, if_neg h10]
  · unfold fX11_count
    rw [if_neg h0, if_neg h1, if_neg h2, if_neg h3, if_neg h4, if_neg h5, if_neg h6, if_neg h7, if_neg h8, if_neg h9, if_neg h10]
