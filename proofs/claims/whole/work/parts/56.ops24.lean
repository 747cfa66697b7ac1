/-! LEVEL 2: rooms with sheets; the measures but the string -/
def cN (p : Nat → Prop) [DecidablePred p] : Nat → Nat
  | 0 => 0
  | n + 1 => cN p n + if p n then 1 else 0
theorem cN_sum {p : Nat → Prop} [DecidablePred p] : ∀ n, sumI (fun j => b2 (p j)) n = iN (cN p n)
  | 0 => rfl
  | n + 1 => by
    show sumI (fun j => b2 (p j)) n + b2 (p n) = iN (cN p n + if p n then 1 else 0)
    rw [cN_sum n]
    by_cases h : p n
    · rw [b2_pos h, if_pos h, iN_add1]
    · rw [b2_neg h, if_neg h, Int32.add_zero, Nat.add_zero]
theorem cN_le {p : Nat → Prop} [DecidablePred p] : ∀ n, cN p n ≤ n
  | 0 => Nat.le_refl _
  | n + 1 => by
    show cN p n + (if p n then 1 else 0) ≤ n + 1
    have := cN_le (p := p) n
    split <;> omega
theorem cN_zero {p : Nat → Prop} [DecidablePred p] : ∀ n, cN p n = 0 ↔ ∀ j, j < n → ¬ p j
  | 0 => ⟨fun _ j hj => by omega, fun _ => rfl⟩
  | n + 1 => by
    show cN p n + (if p n then 1 else 0) = 0 ↔ _
    have ih := cN_zero (p := p) n
    constructor
    · intro h j hj
      by_cases c : p n
      · rw [if_pos c] at h
        omega
      · rw [if_neg c] at h
        by_cases e : j = n
        · rw [e]
          exact c
        · exact ih.mp (by omega) j (by omega)
    · intro h
      rw [if_neg (h n (by omega)), ih.mpr (fun j hj => h j (by omega))]
theorem sum0 {p : Nat → Prop} [DecidablePred p] {n : Nat} (hn : n ≤ 1000) : sumI (fun j => b2 (p j)) n = 0 ↔ ∀ j, j < n → ¬ p j := by
  rw [cN_sum, ← cN_zero]
  have := cN_le (p := p) n
  exact iN_inj (b := 0) (by omega) (by omega)
/-- child c, of room x, with a sheet of year y -/
abbrev inR (N : Nat → Int32) (x : Int32) (y c : Nat) : Prop := N (32 + 4 * c) = x ∧ N (128 + 28 * (6 * c + y)) = 1
/-- the class has its children and sheets as N has them -/
def roC (A : ruA) (N : Nat → Int32) (m : Nat) : Prop := shC A N ∧ (∀ c, c < 24 → A.1 5 c = N (32 + 4 * c)) ∧ A.1 2 2 = iN m ∧ m ≤ 24
theorem f10_hasSheets {A : ruA} {N : Nat → Int32} {m : Nat} (h : roC A N m) {y : Nat} (hy : y < 6) (x : Int32) : (∀ c, c < m → ¬ inR N x y c) ∧ fX3_hasSheets x (iN y) A = some 0 ∨ (∃ c, c < m ∧ inR N x y c) ∧ fX3_hasSheets x (iN y) A = some 1 := by
  obtain ⟨sh, h5, e22, hm⟩ := h
  unfold fX3_hasSheets
  refine loop_find (fun n c => fX3_hasSheets_l2 x (iN y) A (some 1) (some 0) n (iN c)) m (fun c => inR N x y c) (some 0) (some 1) ?_ ?_ ?_ ruF (by rw [ruF_eq]; omega)
  · intro n
    rw [fX3_hasSheets_l2, e22, if_pos ((iN_le (by omega) (by omega)).mpr (Nat.le_refl _))]
  · intro n c hc hp
    rw [fX3_hasSheets_l2, e22, if_neg (by rw [iN_le (by omega) (by omega)]; omega), ruld_iN (by omega) (by decide), Option.bind_some, h5 c (by omega), if_pos hp.1, e10_place, Option.bind_some, f10_there sh (by omega), Option.bind_some, hp.2, ite10]
  · intro n c hc hp
    rw [fX3_hasSheets_l2, e22, if_neg (by rw [iN_le (by omega) (by omega)]; omega), ruld_iN (by omega) (by decide), Option.bind_some, h5 c (by omega), e10_place, Option.bind_some, f10_there sh (by omega), Option.bind_some, iN_add1]
    by_cases c1 : N (32 + 4 * c) = x
    · rcases (sh.2.1 (6 * c + y) (by omega)).2.1 with e | e
      · rw [if_pos c1, e, ite00]
      · exact absurd ⟨c1, e⟩ hp
    · rw [if_neg c1]
theorem f11_sheetsOf (A : ruA) {m : Nat} (hm : m ≤ 24) (e2 : A.1 84 2 = iN m) {y : Nat} (hy : y < 6) (x : Int32) : fX11_sheetsOf x (iN y) A = some (sumI (fun c => b2 (inR (A.1 84) x y c)) m) := by
  unfold fX11_sheetsOf
  refine loop_sum (fun n c z => fX11_sheetsOf_l5 x (iN y) A (fun v4 => some v4) n z (iN c)) m _ (fun v => some v) ?_ ?_ ruF (by rw [ruF_eq]; omega)
  · intro n z
    rw [fX11_sheetsOf_l5, l2A, Option.bind_some, e2, if_pos ((iN_le (by omega) (by omega)).mpr (Nat.le_refl _))]
  · intro n c z hc
    rw [fX11_sheetsOf_l5, l2A, Option.bind_some, e2, if_neg (by rw [iN_le (by omega) (by omega)]; omega), f11_isOf A (by omega) hy, Option.bind_some, b2_ne, iN_add1]
    by_cases c1 : inR (A.1 84) x y c
    · rw [if_pos c1, Option.bind_some, b2_pos c1]
    · rw [if_neg c1, Option.bind_some, b2_neg c1]
/-- what a child adds to measure k -/
def nFall (N : Nat → Int32) (c y : Nat) : Int32 := if 5 ≤ y then 0 else if N (128 + 28 * (6 * c + (y + 1))) = 1 then nRights N (6 * c + y) - nRights N (6 * c + (y + 1)) else 0
def nMea (N : Nat → Int32) (k c y : Nat) : Int32 := if k = 0 then N (153 + 28 * (6 * c + y) + 0) else if k = 1 then N (153 + 28 * (6 * c + y) + 1) else if k = 3 then nUnfit N (6 * c + y) else if k = 4 then nFall N c y else if k = 5 then 1 else nPuts N (6 * c + y)
def nMeas (N : Nat → Int32) (k : Nat) (x : Int32) (y m : Nat) : Int32 := sumI (fun c => if inR N x y c then nMea N k c y else 0) m
theorem f10_fall {A : ruA} {N : Nat → Int32} (sh : shC A N) {c y : Nat} (hc : c < 24) (hy : y < 6) : fX3_fallOf (iN c) (iN y) A = some (nFall N c y) := by
  unfold fX3_fallOf nFall
  by_cases h5 : 5 ≤ y
  · rw [if_pos h5, show (5 : Int32) = iN 5 from rfl, if_pos ((iN_le (by omega) (by omega)).mpr h5)]
  · rw [if_neg h5, show (5 : Int32) = iN 5 from rfl, if_neg (by rw [iN_le (by omega) (by omega)]; omega), iN_add1, e10_place, e10_place]
    simp (disch := omega) only [Option.bind_some, f10_there sh, f10_rights sh]
    rcases (sh.2.1 (6 * c + (y + 1)) (by omega)).2.1 with e | e
    · rw [e, ite00, if_neg (by decide)]
    · rw [e, ite10, if_pos rfl]
theorem f10_ofChild {A : ruA} {N : Nat → Int32} (sh : shC A N) {c y k : Nat} (hc : c < 24) (hy : y < 6) (hk : k < 7) (hk2 : k ≠ 2) : fX3_ofChild (iN k) (iN c) (iN y) A = some (nMea N k c y) := by
  unfold fX3_ofChild nMea
  rw [e10_place, Option.bind_some]
  have : k = 0 ∨ k = 1 ∨ k = 3 ∨ k = 4 ∨ k = 5 ∨ k = 6 := by omega
  have r0 := f10_rubbedAt sh (s := 6 * c + y) (k := 0) (by omega) (by decide)
  have r1 := f10_rubbedAt sh (s := 6 * c + y) (k := 1) (by omega) (by decide)
  rcases this with rfl | rfl | rfl | rfl | rfl | rfl
  · rw [if_pos (show iN 0 = 0 from rfl), show (0 : Int32) = iN 0 from rfl, r0]
    rfl
  · rw [if_neg (by decide), if_pos (show iN 1 = 1 from rfl), show (1 : Int32) = iN 1 from rfl, r1]
    rfl
  · rw [if_neg (by decide), if_neg (by decide), if_neg (by decide), if_pos (show iN 3 = 3 from rfl), f10_unfit sh (by omega)]
    rfl
  · rw [if_neg (by decide), if_neg (by decide), if_neg (by decide), if_neg (by decide), if_pos (show iN 4 = 4 from rfl), f10_fall sh hc hy]
    rfl
  · rw [if_neg (by decide), if_neg (by decide), if_neg (by decide), if_neg (by decide), if_neg (by decide), if_pos (show iN 5 = 5 from rfl)]
    rfl
  · rw [if_neg (by decide), if_neg (by decide), if_neg (by decide), if_neg (by decide), if_neg (by decide), if_neg (by decide), if_pos (show iN 6 = 6 from rfl), f10_standingBy sh (by omega)]
    rfl
theorem f10_of {A : ruA} {N : Nat → Int32} {m : Nat} (h : roC A N m) {y k : Nat} (hy : y < 6) (hk : k < 7) (hk2 : k ≠ 2) (x : Int32) : fX3_of (iN k) x (iN y) A = some (nMeas N k x y m, A) := by
  obtain ⟨sh, h5, e22, hm⟩ := h
  unfold fX3_of nMeas
  rw [show (2 : Int32) = iN 2 from rfl, if_neg (by rw [iN_inj (by omega) (by omega)]; exact hk2)]
  refine loop_sum (fun n c z => fX3_of_l29 (iN k) x (iN y) A (fun v6 => some (v6, A)) n z (iN c)) m _ (fun v => some (v, A)) ?_ ?_ ruF (by rw [ruF_eq]; omega)
  · intro n z
    rw [fX3_of_l29, e22, if_pos ((iN_le (by omega) (by omega)).mpr (Nat.le_refl _))]
  · intro n c z hc
    rw [fX3_of_l29, e22, if_neg (by rw [iN_le (by omega) (by omega)]; omega), ruld_iN (by omega) (by decide), Option.bind_some, h5 c (by omega), e10_place, Option.bind_some, f10_there sh (by omega), Option.bind_some, f10_ofChild sh (by omega) hy hk hk2, Option.bind_some, iN_add1]
    by_cases c1 : N (32 + 4 * c) = x
    · rw [if_pos c1]
      rcases (sh.2.1 (6 * c + y) (by omega)).2.1 with e | e
      · rw [if_pos e, Option.bind_some, if_neg (fun h => absurd (h.2.symm.trans e) (by decide)), Int32.add_zero]
      · rw [if_neg (show ¬ N (128 + 28 * (6 * c + y)) = 0 by rw [e]; decide), Option.bind_some, if_pos (show inR N x y c from ⟨c1, e⟩)]
    · rw [if_neg c1, Option.bind_some, if_neg (fun h => c1 h.1), Int32.add_zero]
theorem f11_measured {A : ruA} {m : Nat} (hm : m ≤ 24) (e2 : A.1 84 2 = iN m) (hkd : ∀ s, s < 144 → ∀ q, q < 12 → 0 ≤ A.1 84 (141 + 28 * s + q) ∧ A.1 84 (141 + 28 * s + q) ≤ 7) {y k : Nat} (hy : y < 6) (hk : k < 7) (hk2 : k ≠ 2) (x : Int32) : fX11_measured x (iN y) (iN k) A = some (nMeas (A.1 84) k x y m, A) := by
  unfold fX11_measured nMeas
  rw [show (2 : Int32) = iN 2 from rfl, if_neg (by rw [iN_inj (by omega) (by omega)]; exact hk2)]
  refine loop_sum (fun n c z => fX11_measured_l23 x (iN y) (iN k) A (fun v15 => some (v15, A)) n z (iN c)) m _ (fun v => some (v, A)) ?_ ?_ ruF (by rw [ruF_eq]; omega)
  · intro n z
    rw [fX11_measured_l23, l2A, Option.bind_some, e2, if_pos ((iN_le (by omega) (by omega)).mpr (Nat.le_refl _))]
  · intro n c z hc
    have hst : 6 * c + y < 144 := by omega
    rw [fX11_measured_l23, l2A, Option.bind_some, e2, if_neg (by rw [iN_le (by omega) (by omega)]; omega), f11_isOf A (by omega) hy, Option.bind_some, b2_ne, iN_add1 c]
    by_cases c1 : inR (A.1 84) x y c
    · rw [if_pos c1, if_pos c1]
      unfold nMea
      have r25 : ∀ j, j < 3 → ruld (A.1 84) 4920 (iN (128 + 28 * (6 * c + y)) + 25 + iN j) = some (A.1 84 (153 + 28 * (6 * c + y) + j)) := by
        intro j hj
        rw [li25, iN_add, iN_add, l84 A (by omega), show 128 + 28 * (6 * c + y) + 25 + j = 153 + 28 * (6 * c + y) + j by omega]
      have hcase : k = 0 ∨ k = 1 ∨ k = 3 ∨ k = 4 ∨ k = 5 ∨ k = 6 := by omega
      rcases hcase with rfl | rfl | rfl | rfl | rfl | rfl
      · rw [if_pos (show iN 0 = 0 from rfl), e11_sheetAt, Option.bind_some, r25 0 (by decide)]
        rfl
      · rw [if_neg (show ¬ iN 1 = 0 by decide), if_pos (show iN 1 = 1 from rfl), e11_sheetAt, Option.bind_some, r25 1 (by decide)]
        rfl
      · rw [if_neg (show ¬ iN 3 = 0 by decide), if_neg (show ¬ iN 3 = 1 by decide), if_neg (show ¬ iN 3 = 2 by decide), if_pos (show iN 3 = 3 from rfl), f11_unfit A (by omega) hy]
        rfl
      · rw [if_neg (show ¬ iN 4 = 0 by decide), if_neg (show ¬ iN 4 = 1 by decide), if_neg (show ¬ iN 4 = 2 by decide), if_neg (show ¬ iN 4 = 3 by decide), if_pos (show iN 4 = 4 from rfl)]
        have e : (if (5 : Int32) ≤ iN y then some (0 : Int32) else (fX11_hasSheet (iN c) (iN y + 1) A).bind fun v11 => if v11 = 0 then some 0 else (fX11_rights (iN c) (iN y) A).bind fun v12 => (fX11_rights (iN c) (iN y + 1) A).bind fun v13 => some (v12 - v13)) = some (nFall (A.1 84) c y) := by
          unfold nFall
          by_cases h5 : 5 ≤ y
          · rw [if_pos h5, show (5 : Int32) = iN 5 from rfl, if_pos ((iN_le (by omega) (by omega)).mpr h5)]
          · rw [if_neg h5, show (5 : Int32) = iN 5 from rfl, if_neg (by rw [iN_le (by omega) (by omega)]; omega), iN_add1, f11_hasSheet A (by omega) (by omega), Option.bind_some, b2_ne, f11_rights A (by omega) hy, f11_rights A (by omega) (by omega), Option.bind_some, Option.bind_some]
            split <;> rfl
        rw [e]
        rfl
      · rw [if_neg (show ¬ iN 5 = 0 by decide), if_neg (show ¬ iN 5 = 1 by decide), if_neg (show ¬ iN 5 = 2 by decide), if_neg (show ¬ iN 5 = 3 by decide), if_neg (show ¬ iN 5 = 4 by decide), if_pos (show iN 5 = 5 from rfl)]
        rfl
      · rw [if_neg (show ¬ iN 6 = 0 by decide), if_neg (show ¬ iN 6 = 1 by decide), if_neg (show ¬ iN 6 = 2 by decide), if_neg (show ¬ iN 6 = 3 by decide), if_neg (show ¬ iN 6 = 4 by decide), if_neg (show ¬ iN 6 = 5 by decide), f11_putsOn A hkd (by omega) hy]
        rfl
    · rw [if_neg c1, if_neg c1, Option.bind_some, Int32.add_zero]
