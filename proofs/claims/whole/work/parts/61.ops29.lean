/-! LEVEL 2: the reference finds its string -/
/-- what is found: length, start, set -/
abbrev fnd : Type := Int32 × Int32 × Int32
def stR (A : ruA) (f : fnd) : ruA := rusetA A 83 (upd (upd (upd (A.1 83) 10 f.1) 11 f.2.1) 12 f.2.2)
theorem stR_k (A : ruA) (f : fnd) {k : Nat} (h : k ≠ 83) : (stR A f).1 k = A.1 k := rsA_ne _ _ h
theorem stR_10 (A : ruA) (f : fnd) : (stR A f).1 83 10 = f.1 := by
  unfold stR
  rw [rsA_same, upd_ne _ _ (by decide), upd_ne _ _ (by decide), upd_same]
theorem stR_11 (A : ruA) (f : fnd) : (stR A f).1 83 11 = f.2.1 := by
  unfold stR
  rw [rsA_same, upd_ne _ _ (by decide), upd_same]
theorem stR_12 (A : ruA) (f : fnd) : (stR A f).1 83 12 = f.2.2 := by
  unfold stR
  rw [rsA_same, upd_same]
theorem stR_set (A : ruA) (f : fnd) (a b c : Int32) : ruset (ruset (ruset (stR A f) 83 10 a) 83 11 b) 83 12 c = stR A (a, b, c) := by
  unfold stR
  simp only [ruset_eq, rusetA_two, rsA_same]
  congr 1
  funext i
  by_cases e12 : i = 12
  · rw [e12, upd_same, upd_same]
  · rw [upd_ne _ _ e12, upd_ne _ _ e12]
    by_cases e11 : i = 11
    · rw [e11, upd_same, upd_same]
    · rw [upd_ne _ _ e11, upd_ne _ _ e11]
      by_cases e10 : i = 10
      · rw [e10, upd_same, upd_same]
      · rw [upd_ne _ _ e10, upd_ne _ _ e10, upd_ne _ _ e12, upd_ne _ _ e11, upd_ne _ _ e10]
theorem stR_init (A : ruA) (a b c : Int32) : ruset (ruset (ruset A 83 10 a) 83 11 b) 83 12 c = stR A (a, b, c) := by
  unfold stR
  simp only [ruset_eq, rusetA_two, rsA_same]
/-- better than what was found -/
def imp (t l p : Nat) (S : Int32) (f : fnd) : Prop := ¬ iN (pc24 S) < iN t ∧ (f.1 = 0 ∨ iN (pc24 f.2.2) < iN (pc24 S) ∨ (iN (pc24 S) = iN (pc24 f.2.2) ∧ iN p = f.2.1 ∧ ¬ f.2.2 ≤ S))
def tkR (t l p : Nat) (S : Int32) (f : fnd) : fnd := if ¬ iN (pc24 S) < iN t ∧ (f.1 = 0 ∨ iN (pc24 f.2.2) < iN (pc24 S) ∨ (iN (pc24 S) = iN (pc24 f.2.2) ∧ iN p = f.2.1 ∧ ¬ f.2.2 ≤ S)) then (iN l, iN p, S) else f
def rfC (N : Nat → Int32) (x : Int32) (y m t l p : Nat) (f : fnd) : Nat → fnd
  | 0 => f
  | c + 1 => if inR N x y c ∧ fuB N y c p l = true then tkR t l p (lkS N x y c p l m) (rfC N x y m t l p f c) else rfC N x y m t l p f c
def rfP (N : Nat → Int32) (x : Int32) (y m t l : Nat) (f : fnd) : Nat → fnd
  | 0 => f
  | p + 1 => rfC N x y m t l p (rfP N x y m t l f p) m
def rfL (N : Nat → Int32) (x : Int32) (y m t : Nat) (f : fnd) : Nat → fnd
  | 0 => f
  | j + 1 => if (rfL N x y m t f j).1 = 0 then rfP N x y m t (12 - j) (rfL N x y m t f j) (j + 1) else rfL N x y m t f j
theorem f11_l47 {β : Type} (A : ruA) {m : Nat} (hm : m ≤ 24) (e2 : A.1 84 2 = iN m) {y t l p : Nat} (hy : y < 6) (hp : p + l ≤ 12) (x : Int32) (f : fnd) (K : ruA → Option β) : fX11_findString_l47 x (iN y) (iN t) (iN l) (iN p) K ruF 0 (stR A f) = K (stR A (rfC (A.1 84) x y m t l p f m)) := by
  refine loop_inv (fun n c (g : fnd) => fX11_findString_l47 x (iN y) (iN t) (iN l) (iN p) K n (iN c) (stR A g)) m (fun c => rfC (A.1 84) x y m t l p f c) _ ?_ ?_ ruF 0 (Nat.zero_le _) (by rw [ruF_eq]; omega)
  · intro n
    rw [fX11_findString_l47, l2A, Option.bind_some, stR_k A _ (by decide), e2, if_pos ((iN_le (by omega) (by omega)).mpr (Nat.le_refl _))]
  · intro n c hc
    show fX11_findString_l47 x (iN y) (iN t) (iN l) (iN p) K (n + 1) (iN c) (stR A (rfC (A.1 84) x y m t l p f c)) = fX11_findString_l47 x (iN y) (iN t) (iN l) (iN p) K n (iN (c + 1)) (stR A (if inR (A.1 84) x y c ∧ fuB (A.1 84) y c p l = true then tkR t l p (lkS (A.1 84) x y c p l m) (rfC (A.1 84) x y m t l p f c) else rfC (A.1 84) x y m t l p f c))
    generalize rfC (A.1 84) x y m t l p f c = g
    have e84 : (stR A g).1 84 = A.1 84 := stR_k A g (by decide)
    have i1 := f11_isOf (stR A g) (c := c) (by omega) hy x
    have i2 := f11_hasBlank (stR A g) (c := c) (y := y) (p := p) (l := l) (by omega) hy hp
    have i3 := f11_likes (stR A g) hm (by rw [e84]; exact e2) (c := c) (y := y) (p := p) (l := l) (by omega) hy hp
    rw [e84] at i1 i2 i3
    rw [fX11_findString_l47, l2A, Option.bind_some, e84, e2, if_neg (by rw [iN_le (by omega) (by omega)]; omega), i1, Option.bind_some, b2_ne, i2, Option.bind_some, b2_ne, i3, Option.bind_some, iN_add1, stR_10, stR_11, stR_12, f11_bits, f11_bits, Option.bind_some]
    by_cases c1 : inR (A.1 84) x y c
    · rw [if_pos c1]
      by_cases c2 : fuB (A.1 84) y c p l = true
      · have eS : lkS (A.1 84) (A.1 84 (32 + 4 * c)) y c p l m = lkS (A.1 84) x y c p l m := by rw [c1.1]
        rw [if_neg (fun h => h c2), if_pos (show inR (A.1 84) x y c ∧ fuB (A.1 84) y c p l = true from ⟨c1, c2⟩), eS]
        unfold tkR
        generalize lkS (A.1 84) x y c p l m = S
        simp only [Option.bind_some]
        by_cases d1 : iN (pc24 S) < iN t
        · rw [if_pos d1, Option.bind_some, ite00, Option.bind_some, if_neg (fun h => h.1 d1)]
        · rw [if_neg d1]
          by_cases d2 : g.1 = 0
          · rw [if_pos d2, Option.bind_some, ite10, Option.bind_some, stR_set, if_pos ⟨d1, Or.inl d2⟩]
          · rw [if_neg d2]
            by_cases d3 : iN (pc24 g.2.2) < iN (pc24 S)
            · rw [if_pos d3, Option.bind_some, ite10, Option.bind_some, stR_set, if_pos ⟨d1, Or.inr (Or.inl d3)⟩]
            · rw [if_neg d3]
              by_cases d4 : iN (pc24 S) = iN (pc24 g.2.2)
              · rw [if_pos d4]
                by_cases d5 : iN p = g.2.1
                · rw [if_pos d5]
                  by_cases d6 : g.2.2 ≤ S
                  · rw [if_pos d6, Option.bind_some, ite00, Option.bind_some, if_neg (fun h => h.2.elim d2 (fun h => h.elim d3 (fun h => h.2.2 d6)))]
                  · rw [if_neg d6, Option.bind_some, ite10, Option.bind_some, stR_set, if_pos ⟨d1, Or.inr (Or.inr ⟨d4, d5, d6⟩)⟩]
                · rw [if_neg d5, Option.bind_some, ite00, Option.bind_some, if_neg (fun h => h.2.elim d2 (fun h => h.elim d3 (fun h => d5 h.2.1)))]
              · rw [if_neg d4, Option.bind_some, ite00, Option.bind_some, if_neg (fun h => h.2.elim d2 (fun h => h.elim d3 (fun h => d4 h.1)))]
      · rw [if_pos c2, Option.bind_some, if_neg (fun h => c2 h.2)]
    · rw [if_neg c1, Option.bind_some, if_neg (fun h => c1 h.1)]
theorem f11_l34 {β : Type} (A : ruA) {m : Nat} (hm : m ≤ 24) (e2 : A.1 84 2 = iN m) {y t l : Nat} (hy : y < 6) (hl : l ≤ 12) (x : Int32) (f : fnd) (K : ruA → Option β) : fX11_findString_l34 x (iN y) (iN t) (iN l) K ruF 0 (stR A f) = K (stR A (rfP (A.1 84) x y m t l f (13 - l))) := by
  refine loop_inv (fun n p (g : fnd) => fX11_findString_l34 x (iN y) (iN t) (iN l) K n (iN p) (stR A g)) (13 - l) (fun p => rfP (A.1 84) x y m t l f p) _ ?_ ?_ ruF 0 (Nat.zero_le _) (by rw [ruF_eq]; omega)
  · intro n
    rw [fX11_findString_l34, iN_add, li12, if_pos ((iN_lt (by omega) (by omega)).mpr (by omega))]
  · intro n p hp
    show fX11_findString_l34 x (iN y) (iN t) (iN l) K (n + 1) (iN p) (stR A (rfP (A.1 84) x y m t l f p)) = fX11_findString_l34 x (iN y) (iN t) (iN l) K n (iN (p + 1)) (stR A (rfC (A.1 84) x y m t l p (rfP (A.1 84) x y m t l f p) m))
    rw [fX11_findString_l34, iN_add, li12, if_neg (by rw [iN_lt (by omega) (by omega)]; omega), f11_l47 A hm e2 hy (by omega), iN_add1]
theorem f11_findString (A : ruA) {m : Nat} (hm : m ≤ 24) (e2 : A.1 84 2 = iN m) {y t : Nat} (hy : y < 6) (x : Int32) : fX11_findString x (iN y) (iN t) A = some (stR A (rfL (A.1 84) x y m t (0, -1, 0) 12)) := by
  unfold fX11_findString
  rw [Option.bind_some, Option.bind_some, Option.bind_some, stR_init]
  refine loop_gen (fun n j (g : fnd) => fX11_findString_l19 x (iN y) (iN t) (fun A20 => some A20) n (iN (12 - j)) (stR A g)) 12 (fun j g => g = rfL (A.1 84) x y m t (0, -1, 0) j) (fun r => r = some (stR A (rfL (A.1 84) x y m t (0, -1, 0) 12))) ?_ ?_ ruF 0 (0, -1, 0) (by decide) (by decide) rfl
  · intro n g hg
    show fX11_findString_l19 x (iN y) (iN t) (fun A20 => some A20) (n + 1) (iN 0) (stR A g) = _
    rw [fX11_findString_l19, if_pos (by decide), hg]
  · intro n j g hj hg
    have hstep : fX11_findString_l19 x (iN y) (iN t) (fun A20 => some A20) (n + 1) (iN (12 - j)) (stR A g) = if g.1 = 0 then fX11_findString_l19 x (iN y) (iN t) (fun A20 => some A20) n (iN (12 - (j + 1))) (stR A (rfP (A.1 84) x y m t (12 - j) g (j + 1))) else some (stR A g) := by
      have em : iN (12 - j) + -1 = iN (12 - (j + 1)) := by
        have := iN_sub1 (a := 12 - j) (by omega)
        rw [Int32.sub_eq_add_neg, show 12 - j - 1 = 12 - (j + 1) by omega] at this
        exact this
      rw [fX11_findString_l19, if_neg (by rw [show (0 : Int32) = iN 0 from rfl, iN_le (by omega) (by omega)]; omega), stR_10, f11_l34 A hm e2 hy (by omega), em, show 13 - (12 - j) = j + 1 by omega]
    by_cases c1 : g.1 = 0
    · right
      refine ⟨rfP (A.1 84) x y m t (12 - j) g (j + 1), ?_, ?_⟩
      · rw [hstep, if_pos c1]
      · show _ = if (rfL (A.1 84) x y m t (0, -1, 0) j).1 = 0 then rfP (A.1 84) x y m t (12 - j) (rfL (A.1 84) x y m t (0, -1, 0) j) (j + 1) else rfL (A.1 84) x y m t (0, -1, 0) j
        rw [← hg, if_pos c1]
    · left
      have hst : ∀ i, rfL (A.1 84) x y m t (0, -1, 0) (j + i) = g := by
        intro i
        induction i with
        | zero => exact hg.symm
        | succ i ih =>
          show (if (rfL (A.1 84) x y m t (0, -1, 0) (j + i)).1 = 0 then rfP (A.1 84) x y m t (12 - (j + i)) (rfL (A.1 84) x y m t (0, -1, 0) (j + i)) (j + i + 1) else rfL (A.1 84) x y m t (0, -1, 0) (j + i)) = g
          rw [ih, if_neg c1]
      have h12 := hst (12 - j)
      rw [show j + (12 - j) = 12 by omega] at h12
      rw [hstep, if_neg c1, h12]
