/-! LEVEL 2: what holds between the class (cells 0 to 82) and the reference (83 to 96). A book of the class lies at b (1: now, 32: kept), the reference's row is N (cell 84, 85). W: a text and steps that mean the same -/
abbrev ruWy : Type := (Nat → Int32) → Int32 → (Nat → Int32) → Prop
def cutF (n : Nat) (f : Nat → Int32) : Nat → Int32 := fun i => if i < n then f i else 0
theorem cutF_congr {n : Nat} {f g : Nat → Int32} (h : ∀ i, i < n → f i = g i) : cutF n f = cutF n g := by
  funext i
  unfold cutF
  split
  · exact h i ‹_›
  · rfl
/-- a count -/
def cn (N : Nat → Int32) (i : Nat) : Nat := (N i).toNatClampNeg
/-- a set of kinds with those under them -/
def cloK (bars : Int32) : Int32 := (sumO 8 (fun k => if bars.toBitVec.getLsbD k = true then ruunder.getD k 0 else 0))
where sumO : Nat → (Nat → Int32) → Int32
  | 0, _ => 0
  | n + 1, g => sumO n g ||| g n
def CBn (g : Nat → Nat → Int32) (b : Nat) (N : Nat → Int32) : Prop :=
  (g (b + 1) 0 = N 0 ∧ N 0 = iN (cn N 0) ∧ cn N 0 ≤ 5) ∧ (g (b + 1) 1 = N 1 ∧ N 1 = iN (cn N 1) ∧ cn N 1 ≤ 6) ∧ (g (b + 1) 2 = N 2 ∧ N 2 = iN (cn N 2) ∧ cn N 2 ≤ 24) ∧
  (g (b + 13) 0 = N 3 ∧ N 3 = iN (cn N 3) ∧ cn N 3 ≤ 6) ∧ (g (b + 22) 0 = N 4 ∧ N 4 = iN (cn N 4) ∧ cn N 4 ≤ 30) ∧ (g (b + 28) 0 = N 5 ∧ N 5 = iN (cn N 5) ∧ cn N 5 ≤ 8)
def CBq (g : Nat → Nat → Int32) (b : Nat) (N : Nat → Int32) : Prop := ∀ q, q < 12 → g (b + 2) q = N (8 + q) ∧ (0 ≤ N (8 + q) ∧ N (8 + q) ≤ 3) ∧ g (b + 3) q = N (20 + q)
def CBc (g : Nat → Nat → Int32) (b : Nat) (N : Nat → Int32) : Prop := ∀ c, c < 24 → g (b + 4) c = N (32 + 4 * c) ∧ g (b + 5) c = N (33 + 4 * c) ∧ g (b + 6) c = N (34 + 4 * c) ∧ g (b + 7) c = N (35 + 4 * c) ∧ (cn N 2 ≤ c → N (34 + 4 * c) = 0 ∧ N (35 + 4 * c) = 0)
def CBs (g : Nat → Nat → Int32) (b : Nat) (N : Nat → Int32) : Prop := ∀ s, s < 144 → g (b + 9) s = N (128 + 28 * s) ∧ (N (128 + 28 * s) = 0 ∨ N (128 + 28 * s) = 1) ∧ (6 * cn N 2 ≤ s → N (128 + 28 * s) = 0)
def CBb (g : Nat → Nat → Int32) (b : Nat) (N : Nat → Int32) : Prop := ∀ s, s < 144 → ∀ q, q < 12 → g (b + 10) (12 * s + q) = N (129 + 28 * s + q) ∧ (-1 ≤ N (129 + 28 * s + q) ∧ N (129 + 28 * s + q) ≤ 3) ∧ g (b + 11) (12 * s + q) = N (141 + 28 * s + q) ∧ (0 ≤ N (141 + 28 * s + q) ∧ N (141 + 28 * s + q) ≤ 7)
def CBr (g : Nat → Nat → Int32) (b : Nat) (N : Nat → Int32) : Prop := ∀ s, s < 144 → ∀ k, k < 3 → g (b + 12) (3 * s + k) = N (153 + 28 * s + k)
def CBh (g : Nat → Nat → Int32) (b : Nat) (N : Nat → Int32) : Prop := ∀ h, h < cn N 4 → g (b + 23) h = N (4784 + 4 * h) ∧ g (b + 24) h = N (4785 + 4 * h) ∧ g (b + 25) h = N (4786 + 4 * h) ∧ g (b + 26) h = N (4787 + 4 * h) ∧ 0 ≤ N (4784 + 4 * h) ∧ N (4784 + 4 * h) ≤ 9
def CBf (g : Nat → Nat → Int32) (b : Nat) (N : Nat → Int32) : Prop := ∀ f, f < cn N 5 → g (b + 29) f = N (4904 + 2 * f) ∧ g (b + 30) f = cloK (N (4905 + 2 * f)) ∧ 0 ≤ N (4905 + 2 * f) ∧ N (4905 + 2 * f) ≤ 255
def CBw (W : ruWy) (g : Nat → Nat → Int32) (b : Nat) (N : Nat → Int32) : Prop := ∀ w, w < cn N 3 → W (cutF 100 (g (b + 15 + w))) (g (b + 21) w) (cutF 104 (fun i => N (4160 + 104 * w + i)))
def CB (W : ruWy) (g : Nat → Nat → Int32) (b : Nat) (N : Nat → Int32) : Prop := CBn g b N ∧ CBq g b N ∧ CBc g b N ∧ CBs g b N ∧ CBb g b N ∧ CBr g b N ∧ CBh g b N ∧ CBf g b N ∧ CBw W g b N
/-- what is in no book: findings, looks, whether an image is kept, the tape, the slips -/
def MIf (g : Nat → Nat → Int32) : Prop := (∀ j, j < 7 → g 82 j = g 86 j) ∧ g 0 12 = g 83 3 ∧ (g 0 2 = g 83 2 ∧ (g 83 2 = 0 ∨ g 83 2 = 1))
def MIt (g : Nat → Nat → Int32) : Prop := (g 0 9 = g 83 6 ∧ g 83 6 = iN (cn (g 83) 6) ∧ cn (g 83) 6 ≤ 100) ∧ ∀ i, i < cn (g 83) 6 → g 72 i = g 87 i ∧ 0 ≤ g 87 i ∧ g 87 i ≤ 255
def MIs (g : Nat → Nat → Int32) : Prop := ∀ s, s < 4 → (g (74 + 2 * s) 0 = g 88 s ∧ (g 88 s = 0 ∨ g 88 s = 8 ∨ g 88 s = 16 ∨ g 88 s = 32)) ∧ (g (74 + 2 * s) 1 = g 89 s ∧ g 89 s = iN (cn (g 89) s) ∧ cn (g 89) s ≤ 24) ∧ ∀ i, i < 24 → g (75 + 2 * s) i = g 90 (24 * s + i)
def Inv (W : ruWy) (A : ruA) : Prop := CB W A.1 1 (A.1 84) ∧ CB W A.1 32 (A.1 85) ∧ MIf A.1 ∧ MIt A.1 ∧ MIs A.1
/-- a call answers alike -/
def Op2 (W : ruWy) (f g : ruA → Option (Int32 × ruA)) (A : ruA) : Prop := ∃ r A1 A2, f A = some (r, A1) ∧ g A1 = some (r, A2) ∧ Inv W A2
/-! small functions of both -/
theorem e10_isWithin (x lo hi : Int32) : fX10_isWithin x lo hi = some (b2 (lo ≤ x ∧ x ≤ hi)) := by
  unfold fX10_isWithin b2
  by_cases h1 : x < lo
  · rw [if_pos h1, if_neg (fun h => (Int32.not_lt.mpr h.1) h1)]
  · rw [if_neg h1]
    by_cases h2 : hi < x
    · rw [if_pos h2, if_neg (fun h => (Int32.not_lt.mpr h.2) h2)]
    · rw [if_neg h2, if_pos ⟨Int32.not_lt.mp h1, Int32.not_lt.mp h2⟩]
theorem e11_within (x lo hi : Int32) : fX11_within x lo hi = some (b2 (lo ≤ x ∧ x ≤ hi)) := e10_isWithin x lo hi
theorem e10_isQuestion (x : Int32) : fX10_isQuestion x = some (b2 (0 ≤ x ∧ x ≤ 11)) := by
  simp only [fX10_isQuestion, e10_isWithin, Option.bind_some, rubz_b2]
theorem e11_isQuestion (x : Int32) : fX11_isQuestion x = some (b2 (0 ≤ x ∧ x ≤ 11)) := by
  simp only [fX11_isQuestion, e11_within, Option.bind_some, rubz_b2]
theorem e10_isYear (x : Int32) : fX10_isYear x = some (b2 (0 ≤ x ∧ x ≤ 5)) := by
  simp only [fX10_isYear, e10_isWithin, Option.bind_some, rubz_b2]
theorem e11_isYear (x : Int32) : fX11_isYear x = some (b2 (0 ≤ x ∧ x ≤ 5)) := by
  simp only [fX11_isYear, e11_within, Option.bind_some, rubz_b2]
theorem e10_isKind (x : Int32) : fX10_isKind x = some (b2 (0 ≤ x ∧ x ≤ 7)) := by
  simp only [fX10_isKind, e10_isWithin, Option.bind_some, rubz_b2]
theorem e10_isSlip (x : Int32) : fX10_isSlip x = some (b2 (0 ≤ x ∧ x ≤ 3)) := by
  simp only [fX10_isSlip, e10_isWithin, Option.bind_some, rubz_b2]
theorem e11_isSlip (x : Int32) : fX11_isSlip x = some (b2 (0 ≤ x ∧ x ≤ 3)) := by
  simp only [fX11_isSlip, e11_within, Option.bind_some, rubz_b2]
theorem e10_isRoom (x : Int32) (A : ruA) : fX10_isRoom x A = some (b2 (0 ≤ x ∧ x ≤ A.1 2 1 - 1)) := by
  simp only [fX10_isRoom, e10_isWithin, Option.bind_some, rubz_b2]
theorem e10_isChild (x : Int32) (A : ruA) : fX10_isChild x A = some (b2 (0 ≤ x ∧ x ≤ A.1 2 2 - 1)) := by
  simp only [fX10_isChild, e10_isWithin, Option.bind_some, rubz_b2]
theorem e10_isWay (x : Int32) (A : ruA) : fX10_isWay x A = some (b2 (0 ≤ x ∧ x ≤ A.1 14 0 - 1)) := by
  simp only [fX10_isWay, e10_isWithin, Option.bind_some, rubz_b2]
theorem e11_is1 (x : Int32) (A : ruA) : fX11_is x 1 A = some (b2 (0 ≤ x ∧ x ≤ A.1 84 1 - 1)) := by
  simp only [fX11_is, show ruld (A.1 84) 4920 1 = some (A.1 84 1) from ruld_iN (i := 1) (by decide) (by decide), e11_within, Option.bind_some, rubz_b2]
theorem e11_is2 (x : Int32) (A : ruA) : fX11_is x 2 A = some (b2 (0 ≤ x ∧ x ≤ A.1 84 2 - 1)) := by
  simp only [fX11_is, show ruld (A.1 84) 4920 2 = some (A.1 84 2) from ruld_iN (i := 2) (by decide) (by decide), e11_within, Option.bind_some, rubz_b2]
theorem e11_is3 (x : Int32) (A : ruA) : fX11_is x 3 A = some (b2 (0 ≤ x ∧ x ≤ A.1 84 3 - 1)) := by
  simp only [fX11_is, show ruld (A.1 84) 4920 3 = some (A.1 84 3) from ruld_iN (i := 3) (by decide) (by decide), e11_within, Option.bind_some, rubz_b2]
theorem e11_is1N (x : Int32) (A : ruA) : fX11_is x (iN 1) A = some (b2 (0 ≤ x ∧ x ≤ A.1 84 1 - 1)) := e11_is1 x A
theorem e11_is2N (x : Int32) (A : ruA) : fX11_is x (iN 2) A = some (b2 (0 ≤ x ∧ x ≤ A.1 84 2 - 1)) := e11_is2 x A
theorem e11_is3N (x : Int32) (A : ruA) : fX11_is x (iN 3) A = some (b2 (0 ≤ x ∧ x ≤ A.1 84 3 - 1)) := e11_is3 x A
theorem e10_areHours (x y : Int32) : fX10_areHours x y = some (b2 (0 ≤ x ∧ x < y ∧ y ≤ 99)) := by
  unfold fX10_areHours b2
  by_cases h1 : x < 0
  · rw [if_pos h1, if_neg (fun h => (Int32.not_lt.mpr h.1) h1)]
  · rw [if_neg h1]
    by_cases h2 : y ≤ x
    · rw [if_pos h2, if_neg (fun h => (Int32.not_le.mpr h.2.1) h2)]
    · rw [if_neg h2]
      by_cases h3 : (99 : Int32) < y
      · rw [if_pos h3, if_neg (fun h => (Int32.not_lt.mpr h.2.2) h3)]
      · rw [if_neg h3, if_pos ⟨Int32.not_lt.mp h1, Int32.not_le.mp h2, Int32.not_lt.mp h3⟩]
theorem e11_areHours (x y : Int32) : fX11_areHours x y = some (b2 (0 ≤ x ∧ x < y ∧ y ≤ 99)) := by
  simp only [fX11_areHours, e11_within, Option.bind_some, b2_eq_zero]
  by_cases h1 : 0 ≤ x ∧ x ≤ 99
  · rw [if_neg (fun h => h h1)]
    obtain ⟨n, hn, rfl⟩ := iN_of (m := 99) h1.1 (by decide) h1.2
    rw [iN_add1]
    by_cases h2 : iN (n + 1) ≤ y ∧ y ≤ 99
    · rw [if_neg (fun h => h h2), b2_pos]
      refine ⟨h1.1, ?_, h2.2⟩
      have h3 := h2.1
      rw [Int32.le_iff_toInt_le, iN_toInt (by omega)] at h3
      rw [Int32.lt_iff_toInt_lt, iN_toInt (by omega)]
      omega
    · rw [if_pos h2, b2_neg]
      rintro ⟨-, h4, h5⟩
      refine h2 ⟨?_, h5⟩
      rw [Int32.lt_iff_toInt_lt, iN_toInt (by omega)] at h4
      rw [Int32.le_iff_toInt_le, iN_toInt (by omega)]
      omega
  · rw [if_pos h1, b2_neg]
    rintro ⟨h2, h3, h4⟩
    refine h1 ⟨h2, ?_⟩
    rw [Int32.lt_iff_toInt_lt] at h3
    rw [Int32.le_iff_toInt_le] at h4 ⊢
    omega
theorem e10_place (c y : Nat) : fX6_place (iN c) (iN y) = some (iN (6 * c + y)) := by
  simp only [fX6_place, li6, iN_mul, iN_add, Nat.mul_comm]
theorem e11_sheetAt (c y : Nat) : fX11_sheetAt (iN c) (iN y) = some (iN (128 + 28 * (6 * c + y))) := by
  simp only [fX11_sheetAt, li6, li28, li128, iN_mul, iN_add]
/-! findings -/
def fndC (A : ruA) (j : Nat) : ruA := ruset A 82 j (A.1 82 j + 1)
def fndR (A : ruA) (j : Nat) : ruA := ruset A 86 j (A.1 86 j + 1)
theorem e10_finding (A : ruA) {c : Int32} (j : Nat) (hj : j < 7) (hc : (-1000001 : Int32) - c = iN j) : fX10_finding c A = some (c, fndC A j) := by
  have h1 : (0 : Int32) ≤ iN j ∧ iN j ≤ 6 := ⟨iN_nonneg (by omega), (iN_le (b := 6) (by omega) (by decide)).mpr (by omega)⟩
  simp only [fX10_finding, hc, e10_isWithin, Option.bind_some, b2_pos h1, ruld_iN hj (by decide : 7 ≤ 2147483648), rust_iN hj (by decide : 7 ≤ 2147483648)]
  rfl
theorem e11_finding (A : ruA) {c : Int32} (j : Nat) (hj : j < 7) (hc : (-1000001 : Int32) - c = iN j) : fX11_finding c A = some (c, fndR A j) := by
  simp only [fX11_finding, hc, Option.bind_some, ruld_iN hj (by decide : 7 ≤ 2147483648), rust_iN hj (by decide : 7 ≤ 2147483648)]
  rfl
/-! the parts of Inv look at few cells -/
theorem CB.congr {W : ruWy} {g g2 : Nat → Nat → Int32} {b : Nat} {N : Nat → Int32} (h : CB W g b N) (e : ∀ k, b + 1 ≤ k → k ≤ b + 30 → g2 k = g k) : CB W g2 b N := by
  have e2 : ∀ k, 1 ≤ k → k ≤ 30 → g2 (b + k) = g (b + k) := fun k h1 h2 => e (b + k) (by omega) (by omega)
  obtain ⟨h1, h2, h3, h4, h5, h6, h7, h8, h9⟩ := h
  refine ⟨?_, ?_, ?_, ?_, ?_, ?_, ?_, ?_, ?_⟩
  · unfold CBn
    rw [e2 1 (by decide) (by decide), e2 13 (by decide) (by decide), e2 22 (by decide) (by decide), e2 28 (by decide) (by decide)]
    exact h1
  · unfold CBq
    rw [e2 2 (by decide) (by decide), e2 3 (by decide) (by decide)]
    exact h2
  · unfold CBc
    rw [e2 4 (by decide) (by decide), e2 5 (by decide) (by decide), e2 6 (by decide) (by decide), e2 7 (by decide) (by decide)]
    exact h3
  · unfold CBs
    rw [e2 9 (by decide) (by decide)]
    exact h4
  · unfold CBb
    rw [e2 10 (by decide) (by decide), e2 11 (by decide) (by decide)]
    exact h5
  · unfold CBr
    rw [e2 12 (by decide) (by decide)]
    exact h6
  · unfold CBh
    rw [e2 23 (by decide) (by decide), e2 24 (by decide) (by decide), e2 25 (by decide) (by decide), e2 26 (by decide) (by decide)]
    exact h7
  · unfold CBf
    rw [e2 29 (by decide) (by decide), e2 30 (by decide) (by decide)]
    exact h8
  · intro w hw
    have hw6 : w ≤ 6 := Nat.le_trans (Nat.le_of_lt hw) h1.2.2.2.1.2.2
    have hw5 : w < 6 := Nat.lt_of_lt_of_le hw h1.2.2.2.1.2.2
    rw [e (b + 15 + w) (by omega) (by omega), e2 21 (by decide) (by decide)]
    exact h9 w hw
theorem Inv.find {W : ruWy} {A : ruA} (h : Inv W A) (j : Nat) : Inv W (fndR (fndC A j) j) := by
  obtain ⟨h1, h2, ⟨h3, h4, h5⟩, h6, h7⟩ := h
  have e : ∀ k, k ≠ 82 → k ≠ 86 → (fndR (fndC A j) j).1 k = A.1 k := by
    intro k e1 e2
    simp only [fndR, fndC, rs_1, if_neg e1, if_neg e2]
  refine ⟨?_, ?_, ⟨?_, ?_, ?_⟩, ?_, ?_⟩
  · rw [e 84 (by decide) (by decide)]
    exact h1.congr fun k _ _ => e k (by omega) (by omega)
  · rw [e 85 (by decide) (by decide)]
    exact h2.congr fun k _ _ => e k (by omega) (by omega)
  · intro i hi
    by_cases hij : i = j
    · subst hij
      simp [fndR, fndC, rs_1, upd_at, h3 i hi]
    · simp [fndR, fndC, rs_1, upd_at, hij, h3 i hi]
  · rw [e 0 (by decide) (by decide), e 83 (by decide) (by decide)]
    exact h4
  · rw [e 0 (by decide) (by decide), e 83 (by decide) (by decide)]
    exact h5
  · unfold MIt
    rw [e 0 (by decide) (by decide), e 83 (by decide) (by decide), e 72 (by decide) (by decide), e 87 (by decide) (by decide)]
    exact h6
  · intro s hs
    rw [e (74 + 2 * s) (by omega) (by omega), e (75 + 2 * s) (by omega) (by omega), e 88 (by decide) (by decide), e 89 (by decide) (by decide), e 90 (by decide) (by decide)]
    exact h7 s hs
theorem Op_find {W : ruWy} {f g : ruA → Option (Int32 × ruA)} {A : ruA} (hI : Inv W A) (c : Int32) (j : Nat) (hj : j < 7) (hc : (-1000001 : Int32) - c = iN j) (hf : f A = ruB2 (fX10_finding c A) fun v B => some (v, B)) (hg : g (fndC A j) = ruB2 (fX11_finding c (fndC A j)) fun v B => some (v, B)) : Op2 W f g A := by
  refine ⟨c, fndC A j, fndR (fndC A j) j, ?_, ?_, hI.find j⟩
  · rw [hf, e10_finding A j hj hc]
    rfl
  · rw [hg, e11_finding _ j hj hc]
    rfl
