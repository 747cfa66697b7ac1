/-! LEVEL 2: tokens of a text -/
def rnT (c : Nat → Bool) : Nat → Nat → Nat
  | 0, p => p
  | f + 1, p => if c p = true then rnT c f (p + 1) else p
theorem rnT_ge {c : Nat → Bool} : ∀ f p, p ≤ rnT c f p
  | 0, p => Nat.le_refl _
  | f + 1, p => by
    show p ≤ if c p = true then rnT c f (p + 1) else p
    split
    · have := rnT_ge (c := c) f (p + 1)
      omega
    · exact Nat.le_refl _
theorem rnT_le {c : Nat → Bool} {n : Nat} (h : ∀ p, c p = true → p < n) : ∀ f p, p ≤ n → rnT c f p ≤ n
  | 0, p, hp => hp
  | f + 1, p, hp => by
    show (if c p = true then rnT c f (p + 1) else p) ≤ n
    split
    · rename_i hc
      have := h p hc
      exact rnT_le h f (p + 1) (by omega)
    · exact hp
theorem rnT_in {c : Nat → Bool} : ∀ f p j, p ≤ j → j < rnT c f p → c j = true
  | 0, p, j, h1, h2 => by
    have h2 : j < p := h2
    omega
  | f + 1, p, j, h1, h2 => by
    have h2 : j < if c p = true then rnT c f (p + 1) else p := h2
    by_cases hc : c p = true
    · rw [if_pos hc] at h2
      by_cases e : j = p
      · rw [e]
        exact hc
      · exact rnT_in f (p + 1) j (by omega) h2
    · rw [if_neg hc] at h2
      omega
theorem rnT_stop {c : Nat → Bool} {n : Nat} (h : ∀ p, c p = true → p < n) : ∀ f p, n < p + f → ¬ c (rnT c f p) = true
  | 0, p, hp => fun hc => by
    have := h p hc
    omega
  | f + 1, p, hp => by
    show ¬ c (if c p = true then rnT c f (p + 1) else p) = true
    by_cases hc : c p = true
    · rw [if_pos hc]
      exact rnT_stop h f (p + 1) (by omega)
    · rw [if_neg hc]
      exact hc
theorem rnT_next {c : Nat → Bool} {n : Nat} (h : ∀ p, c p = true → p < n) {f p : Nat} (hf : n < p + f) (hc : c p = true) : p < rnT c f p := by
  cases f with
  | zero =>
    have := h p hc
    omega
  | succ f =>
    show p < if c p = true then rnT c f (p + 1) else p
    rw [if_pos hc]
    have := rnT_ge (c := c) f (p + 1)
    omega
abbrev isLe (v : Int32) : Prop := 97 ≤ v ∧ v ≤ 122
abbrev isDi (v : Int32) : Prop := 48 ≤ v ∧ v ≤ 57
def cSp (T : Nat → Int32) (n p : Nat) : Bool := decide (p < n ∧ T p = 32)
def cLe (T : Nat → Int32) (n p : Nat) : Bool := decide (p < n ∧ isLe (T p))
def cDi (T : Nat → Int32) (n p : Nat) : Bool := decide (p < n ∧ isDi (T p))
theorem cSp_iff {T : Nat → Int32} {n p : Nat} : cSp T n p = true ↔ p < n ∧ T p = 32 := decide_eq_true_iff
theorem cLe_iff {T : Nat → Int32} {n p : Nat} : cLe T n p = true ↔ p < n ∧ isLe (T p) := decide_eq_true_iff
theorem cDi_iff {T : Nat → Int32} {n p : Nat} : cDi T n p = true ↔ p < n ∧ isDi (T p) := decide_eq_true_iff
theorem cSp_lt {T : Nat → Int32} {n : Nat} : ∀ p, cSp T n p = true → p < n := fun _ h => (cSp_iff.mp h).1
theorem cLe_lt {T : Nat → Int32} {n : Nat} : ∀ p, cLe T n p = true → p < n := fun _ h => (cLe_iff.mp h).1
theorem cDi_lt {T : Nat → Int32} {n : Nat} : ∀ p, cDi T n p = true → p < n := fun _ h => (cDi_iff.mp h).1
theorem di_not_le {v : Int32} (h : isDi v) : ¬ isLe v := by
  rintro ⟨h1, -⟩
  have h2 := h.2
  rw [Int32.le_iff_toInt_le] at h1 h2
  have e1 : (97 : Int32).toInt = 97 := by decide
  have e2 : (57 : Int32).toInt = 57 := by decide
  omega
/-- the token at s: its end, its kind for the reference, its sign for the class -/
def tE (T : Nat → Int32) (n s : Nat) : Nat := if n ≤ s then s else if isDi (T s) then rnT (cDi T n) 101 s else if isLe (T s) then rnT (cLe T n) 101 s else s + 1
def tS (T : Nat → Int32) (n s : Nat) : Int32 := if n ≤ s then 0 else if isLe (T s) then 1 else if isDi (T s) then 2 else 3
def nmT : List Int32 := [119, 114, 32, 32, 114, 119, 32, 32, 114, 111, 119, 32, 102, 105, 116, 32, 102, 97, 108, 108, 115, 105, 122, 101]
def nmC (m i : Nat) : Int32 := nmT.getD (4 * m + i) 0
abbrev nmP (T : Nat → Int32) (s e m : Nat) : Prop := e - s ≤ 4 ∧ ∀ i, i < 4 → (if s + i < e then T (s + i) else 32) = nmC m i
def tI (T : Nat → Int32) (s e : Nat) : Nat → Option Nat
  | 0 => none
  | k + 1 => if nmP T s e k then some k else tI T s e k
theorem tI_lt {T : Nat → Int32} {s e m : Nat} : ∀ k, tI T s e k = some m → m < k
  | 0, h => by cases h
  | k + 1, h => by
    have h : (if nmP T s e k then some k else tI T s e k) = some m := h
    by_cases c : nmP T s e k
    · rw [if_pos c] at h
      have := Option.some.inj h
      omega
    · rw [if_neg c] at h
      have := tI_lt k h
      omega
def tG (T : Nat → Int32) (n s : Nat) : Int32 := if n ≤ s then 257 else if isDi (T s) then (if tE T n s - s ≤ 4 then 256 else 258) else if isLe (T s) then (if (tI T s (tE T n s) 6).isSome = true then 256 else 258) else T s
def dgV (T : Nat → Int32) (s : Nat) : Nat → Int32
  | 0 => 0
  | j + 1 => dgV T s j * 10 + (T (s + j) - 48)
/-- what the token is worth, and its step -/
def tV (T : Nat → Int32) (n : Nat) (M : Nat → Int32) (s : Nat) : Int32 := if isDi (T s) then dgV T s (tE T n s - s) else M ((tI T s (tE T n s) 6).getD 0)
def tC (T : Nat → Int32) (n s : Nat) : Int32 := if isDi (T s) then dgV T s (tE T n s - s) else iN (10000 + (tI T s (tE T n s) 6).getD 0)
/-- the next token's start -/
def nx (T : Nat → Int32) (n s : Nat) : Nat := rnT (cSp T n) 101 (tE T n s)
theorem tE_le {T : Nat → Int32} {n s : Nat} (hs : s ≤ n) : tE T n s ≤ n := by
  unfold tE
  split
  · exact hs
  · split
    · exact rnT_le cDi_lt 101 s hs
    · split
      · exact rnT_le cLe_lt 101 s hs
      · omega
theorem tE_gt {T : Nat → Int32} {n s : Nat} (hn : n ≤ 100) (hs : s < n) : s < tE T n s := by
  unfold tE
  rw [if_neg (by omega)]
  split
  · exact rnT_next cDi_lt (by omega) (cDi_iff.mpr ⟨hs, by assumption⟩)
  · split
    · exact rnT_next cLe_lt (by omega) (cLe_iff.mpr ⟨hs, by assumption⟩)
    · omega
theorem nx_le {T : Nat → Int32} {n s : Nat} (hs : s ≤ n) : nx T n s ≤ n := rnT_le cSp_lt 101 _ (tE_le hs)
theorem nx_gt {T : Nat → Int32} {n s : Nat} (hn : n ≤ 100) (hs : s < n) : s < nx T n s := by
  have h1 := tE_gt (T := T) hn hs
  have h2 := rnT_ge (c := cSp T n) 101 (tE T n s)
  unfold nx
  omega
theorem tG_lt {T : Nat → Int32} {n s : Nat} (h : ¬ tG T n s = 257) : s < n := by
  by_cases c : n ≤ s
  · exact absurd (if_pos c) h
  · omega
/-! the class's state: cell 70 -/
def stQ (A : ruA) (F : Nat → Int32) : ruA := rusetA A 70 F
theorem stQ_70 (A : ruA) (F : Nat → Int32) : (stQ A F).1 70 = F := rsA_same _ _ _
theorem stQ_k (A : ruA) (F : Nat → Int32) {k : Nat} (h : k ≠ 70) : (stQ A F).1 k = A.1 k := rsA_ne _ _ h
theorem stQ_2 (A : ruA) (F : Nat → Int32) : (stQ A F).2 = A.2 := rfl
theorem stQ_set (A : ruA) (F : Nat → Int32) (j : Nat) (v : Int32) : ruset (stQ A F) 70 j v = stQ A (upd F j v) := by
  unfold stQ
  rw [ruset_eq, rsA_same, rusetA_two]
theorem upd_selfT {F : Nat → Int32} {j : Nat} {v : Int32} (h : F j = v) : upd F j v = F := by
  funext i
  by_cases e : i = j
  · rw [e, upd_same, h]
  · rw [upd_ne _ _ e]
theorem upd_twoT (F : Nat → Int32) (j : Nat) (v w : Int32) : upd (upd F j v) j w = upd F j w := by
  funext i
  by_cases e : i = j
  · rw [e, upd_same, upd_same]
  · rw [upd_ne _ _ e, upd_ne _ _ e, upd_ne _ _ e]
def bsQ (A : ruA) (T : Nat → Int32) (n : Nat) : Prop := rudI A.2.2.1 = some 100 ∧ A.2.2.1 ≠ 70 ∧ (∀ i, i < n → A.1 A.2.2.1 i = T i) ∧ rudI A.2.2.2 = some 6 ∧ A.2.2.2 ≠ 70
theorem q_load {A : ruA} {T : Nat → Int32} {n : Nat} (hb : bsQ A T n) (hn : n ≤ 100) (F : Nat → Int32) {p : Nat} (hp : p < n) : ruld ((stQ A F).1 A.2.2.1) 100 (iN p) = some (T p) := by
  rw [stQ_k A F hb.2.1, ruld_iN (by omega) (by decide), hb.2.2.1 p hp]
theorem e_letter (v : Int32) : fX4_isLetter v = some (b2 (isLe v)) := by
  unfold fX4_isLetter
  by_cases c1 : v < 97
  · rw [if_pos c1, b2_neg (fun h => (Int32.not_lt.mpr h.1) c1)]
  · rw [if_neg c1]
    by_cases c2 : 122 < v
    · rw [if_pos c2, b2_neg (fun h => (Int32.not_lt.mpr h.2) c2)]
    · rw [if_neg c2, b2_pos ⟨Int32.not_lt.mp c1, Int32.not_lt.mp c2⟩]
theorem e_digit (v : Int32) : fX4_isDigit v = some (b2 (isDi v)) := by
  unfold fX4_isDigit
  by_cases c1 : v < 48
  · rw [if_pos c1, b2_neg (fun h => (Int32.not_lt.mpr h.1) c1)]
  · rw [if_neg c1]
    by_cases c2 : 57 < v
    · rw [if_pos c2, b2_neg (fun h => (Int32.not_lt.mpr h.2) c2)]
    · rw [if_neg c2, b2_pos ⟨Int32.not_lt.mp c1, Int32.not_lt.mp c2⟩]
theorem q_l9 {β : Type} {A : ruA} {T : Nat → Int32} {n : Nat} (hb : bsQ A T n) (hn : n ≤ 100) (F : Nat → Int32) (h1 : F 1 = iN n) {p : Nat} (hp : p ≤ n) (K : ruA → Option β) : fX4_step_l9 K ruF (stQ A (upd F 2 (iN p))) = K (stQ A (upd F 2 (iN (rnT (cSp T n) 101 p)))) := by
  have hge := rnT_ge (c := cSp T n) 101 p
  have hle := rnT_le (c := cSp T n) cSp_lt 101 p hp
  have hst := rnT_stop (c := cSp T n) cSp_lt 101 p (by omega)
  have hin := rnT_in (c := cSp T n) 101 p
  generalize rnT (cSp T n) 101 p = r at *
  have e1 : ∀ v, (upd F 2 v) 1 = iN n := fun v => by rw [upd_ne _ _ (by decide)]; exact h1
  refine loop_inv (fun f q (_ : Unit) => fX4_step_l9 K f (stQ A (upd F 2 (iN (p + q))))) (r - p) (fun _ => ()) _ ?_ ?_ ruF 0 (Nat.zero_le _) (by rw [ruF_eq]; omega)
  · intro f
    show fX4_step_l9 K (f + 1) (stQ A (upd F 2 (iN (p + (r - p))))) = _
    rw [show p + (r - p) = r by omega, fX4_step_l9, stQ_70, e1, upd_same, stQ_2, hb.1, Option.bind_some]
    by_cases c : r < n
    · rw [if_neg (by rw [iN_le (by omega) (by omega)]; omega), q_load hb hn _ c, Option.bind_some, if_neg (fun h => hst (cSp_iff.mpr ⟨c, h⟩))]
    · rw [if_pos ((iN_le (by omega) (by omega)).mpr (by omega))]
  · intro f q hq
    show fX4_step_l9 K (f + 1) (stQ A (upd F 2 (iN (p + q)))) = fX4_step_l9 K f (stQ A (upd F 2 (iN (p + (q + 1)))))
    have hc := cSp_iff.mp (hin (p + q) (by omega) (by omega))
    rw [fX4_step_l9, stQ_70, e1, upd_same, stQ_2, hb.1, Option.bind_some, if_neg (by rw [iN_le (by omega) (by omega)]; omega), q_load hb hn _ hc.1, Option.bind_some, if_pos hc.2, Option.bind_some, stQ_set, upd_twoT, iN_add1]
    rfl
/-- a word's letters as one number, a byte a letter -/
def lwV (T : Nat → Int32) (s : Nat) : Nat → Int32
  | 0 => 0
  | j + 1 => (lwV T s j <<< ((8 : Int32) &&& 31)) ||| T (s + j)
theorem q_lW {β : Type} {A : ruA} {T : Nat → Int32} {n : Nat} (hb : bsQ A T n) (hn : n ≤ 100) (F : Nat → Int32) (h1 : F 1 = iN n) {p : Nat} (hp : p ≤ n) (K : Int32 → ruA → Option β) : fX4_stepWord_l2 K ruF 0 (stQ A (upd F 2 (iN p))) = K (lwV T p (rnT (cLe T n) 101 p - p)) (stQ A (upd F 2 (iN (rnT (cLe T n) 101 p)))) := by
  have hge := rnT_ge (c := cLe T n) 101 p
  have hle := rnT_le (c := cLe T n) cLe_lt 101 p hp
  have hst := rnT_stop (c := cLe T n) cLe_lt 101 p (by omega)
  have hin := rnT_in (c := cLe T n) 101 p
  generalize rnT (cLe T n) 101 p = r at *
  have e1 : ∀ v, (upd F 2 v) 1 = iN n := fun v => by rw [upd_ne _ _ (by decide)]; exact h1
  refine loop_inv (fun f q (_ : Unit) => fX4_stepWord_l2 K f (lwV T p q) (stQ A (upd F 2 (iN (p + q))))) (r - p) (fun _ => ()) _ ?_ ?_ ruF 0 (Nat.zero_le _) (by rw [ruF_eq]; omega)
  · intro f
    show fX4_stepWord_l2 K (f + 1) (lwV T p (r - p)) (stQ A (upd F 2 (iN (p + (r - p))))) = _
    rw [show p + (r - p) = r by omega, fX4_stepWord_l2, stQ_70, e1, upd_same, stQ_2, hb.1, Option.bind_some]
    by_cases c : r < n
    · rw [if_neg (by rw [iN_le (by omega) (by omega)]; omega), q_load hb hn _ c, Option.bind_some, e_letter, Option.bind_some, b2_ne, if_neg (fun h => hst (cLe_iff.mpr ⟨c, h⟩))]
    · rw [if_pos ((iN_le (by omega) (by omega)).mpr (by omega))]
  · intro f q hq
    show fX4_stepWord_l2 K (f + 1) (lwV T p q) (stQ A (upd F 2 (iN (p + q)))) = fX4_stepWord_l2 K f ((lwV T p q <<< ((8 : Int32) &&& 31)) ||| T (p + q)) (stQ A (upd F 2 (iN (p + (q + 1)))))
    have hc := cLe_iff.mp (hin (p + q) (by omega) (by omega))
    rw [fX4_stepWord_l2, stQ_70, e1, upd_same, stQ_2, hb.1, Option.bind_some, if_neg (by rw [iN_le (by omega) (by omega)]; omega), q_load hb hn _ hc.1, Option.bind_some, e_letter, Option.bind_some, b2_ne, if_pos hc.2, Option.bind_some, Option.bind_some, stQ_set, upd_twoT, iN_add1]
    rfl
theorem upd_52 (F : Nat → Int32) (a b c d : Int32) : upd (upd (upd (upd F 5 a) 2 b) 5 c) 2 d = upd (upd F 5 c) 2 d := by
  funext i
  by_cases e : i = 2
  · rw [e, upd_same, upd_same]
  · rw [upd_ne _ _ e, upd_ne _ _ e]
    by_cases e5 : i = 5
    · rw [e5, upd_same, upd_same]
    · rw [upd_ne _ _ e5, upd_ne _ _ e, upd_ne _ _ e5, upd_ne _ _ e5]
theorem q_lN {β : Type} {A : ruA} {T : Nat → Int32} {n : Nat} (hb : bsQ A T n) (hn : n ≤ 100) (F : Nat → Int32) (h1 : F 1 = iN n) {p : Nat} (hp : p ≤ n) (K : ruA → Option β) : fX4_stepNumber_l5 K ruF (stQ A (upd (upd F 5 0) 2 (iN p))) = K (stQ A (upd (upd F 5 (dgV T p (rnT (cDi T n) 101 p - p))) 2 (iN (rnT (cDi T n) 101 p)))) := by
  have hge := rnT_ge (c := cDi T n) 101 p
  have hle := rnT_le (c := cDi T n) cDi_lt 101 p hp
  have hst := rnT_stop (c := cDi T n) cDi_lt 101 p (by omega)
  have hin := rnT_in (c := cDi T n) 101 p
  generalize rnT (cDi T n) 101 p = r at *
  have e1 : ∀ u v, (upd (upd F 5 u) 2 v) 1 = iN n := fun u v => by rw [upd_ne _ _ (by decide), upd_ne _ _ (by decide)]; exact h1
  refine loop_inv (fun f q (_ : Unit) => fX4_stepNumber_l5 K f (stQ A (upd (upd F 5 (dgV T p q)) 2 (iN (p + q))))) (r - p) (fun _ => ()) _ ?_ ?_ ruF 0 (Nat.zero_le _) (by rw [ruF_eq]; omega)
  · intro f
    show fX4_stepNumber_l5 K (f + 1) (stQ A (upd (upd F 5 (dgV T p (r - p))) 2 (iN (p + (r - p))))) = _
    rw [show p + (r - p) = r by omega, fX4_stepNumber_l5, stQ_70, e1, upd_same, stQ_2, hb.1, Option.bind_some]
    by_cases c : r < n
    · rw [if_neg (by rw [iN_le (by omega) (by omega)]; omega), q_load hb hn _ c, Option.bind_some, e_digit, Option.bind_some, b2_ne, if_neg (fun h => hst (cDi_iff.mpr ⟨c, h⟩))]
    · rw [if_pos ((iN_le (by omega) (by omega)).mpr (by omega))]
  · intro f q hq
    show fX4_stepNumber_l5 K (f + 1) (stQ A (upd (upd F 5 (dgV T p q)) 2 (iN (p + q)))) = fX4_stepNumber_l5 K f (stQ A (upd (upd F 5 (dgV T p q * 10 + (T (p + q) - 48))) 2 (iN (p + (q + 1)))))
    have hc := cDi_iff.mp (hin (p + q) (by omega) (by omega))
    have e5 : (upd (upd F 5 (dgV T p q)) 2 (iN (p + q))) 5 = dgV T p q := by rw [upd_ne _ _ (by decide), upd_same]
    have e2 : ∀ w, (upd (upd (upd F 5 (dgV T p q)) 2 (iN (p + q))) 5 w) 2 = iN (p + q) := fun w => by rw [upd_ne _ _ (by decide), upd_same]
    rw [fX4_stepNumber_l5, stQ_70, e1, upd_same, stQ_2, hb.1, Option.bind_some, if_neg (by rw [iN_le (by omega) (by omega)]; omega), q_load hb hn _ hc.1, Option.bind_some, e_digit, Option.bind_some, b2_ne, if_pos hc.2, Option.bind_some, Option.bind_some, e5, stQ_set, Option.bind_some, stQ_70, e2, stQ_set, upd_52, iN_add1]
    rfl
