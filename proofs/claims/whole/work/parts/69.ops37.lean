/-! LEVEL 2: lengths from 1 up -/
/-- after length l was tried -/
def cfT (N : Nat → Int32) (x : Int32) (y m t l : Nat) (f : fnC) : fnC := cfP N x y m t l (f.1, f.2.1, iN t - 1) (13 - l)
/-- lengths 1 to j: length, and what was found; the flag says that it goes on -/
def cfL (N : Nat → Int32) (x : Int32) (y m t : Nat) (f : fnC) : Nat → Bool × Int32 × fnC
  | 0 => (true, 0, f)
  | j + 1 => if (cfL N x y m t f j).1 = true then (if iN t ≤ (cfT N x y m t (j + 1) (cfL N x y m t f j).2.2).2.2 then (true, iN (j + 1), cfT N x y m t (j + 1) (cfL N x y m t f j).2.2) else (false, (cfL N x y m t f j).2.1, cfT N x y m t (j + 1) (cfL N x y m t f j).2.2)) else cfL N x y m t f j
theorem cfL_stop {N : Nat → Int32} {x : Int32} {y m t : Nat} {f : fnC} {j : Nat} (h : (cfL N x y m t f j).1 = false) : ∀ i, cfL N x y m t f (j + i) = cfL N x y m t f j
  | 0 => rfl
  | i + 1 => by
    show (if (cfL N x y m t f (j + i)).1 = true then _ else cfL N x y m t f (j + i)) = _
    rw [cfL_stop h i, if_neg (by rw [h]; decide)]
theorem f8_l24 {A B : ruA} {N : Nat → Int32} {m : Nat} (h : roC A N m) {y : Nat} (hy : y < 6) {x : Int32} (hg : gat A B N x y m) (t : Nat) (f : fnC) : fX8_find_l24 (iN t) (fun A9 => some A9) (fun A10 => some A10) ruF 1 (stC (ruset B 65 0 0) f) = some (stC (ruset B 65 0 (cfL N x y m t f 12).2.1) (cfL N x y m t f 12).2.2) := by
  refine loop_gen (fun n j (z : Int32 × fnC) => fX8_find_l24 (iN t) (fun A9 => some A9) (fun A10 => some A10) n (iN (1 + j)) (stC (ruset B 65 0 z.1) z.2)) 12 (fun j z => (true, z) = cfL N x y m t f j) (fun r => r = some (stC (ruset B 65 0 (cfL N x y m t f 12).2.1) (cfL N x y m t f 12).2.2)) ?_ ?_ ruF 0 (0, f) (by decide) (by decide) rfl
  · intro n z hz
    show fX8_find_l24 (iN t) (fun A9 => some A9) (fun A10 => some A10) (n + 1) (iN 13) (stC (ruset B 65 0 z.1) z.2) = _
    rw [fX8_find_l24, if_pos (by decide), ← hz]
  · intro n j z hj hz
    have hstep : fX8_find_l24 (iN t) (fun A9 => some A9) (fun A10 => some A10) (n + 1) (iN (1 + j)) (stC (ruset B 65 0 z.1) z.2) = if iN t ≤ (cfT N x y m t (j + 1) z.2).2.2 then fX8_find_l24 (iN t) (fun A9 => some A9) (fun A10 => some A10) n (iN (1 + (j + 1))) (stC (ruset B 65 0 (iN (j + 1))) (cfT N x y m t (j + 1) z.2)) else some (stC (ruset B 65 0 z.1) (cfT N x y m t (j + 1) z.2)) := by
      have e0 : ∀ v, ruset (ruset B 65 0 z.1) 65 0 v = ruset B 65 0 v := by
        intro v
        simp only [ruset_eq, rusetA_two, rsA_same]
        congr 1
        funext i
        by_cases e : i = 0
        · rw [e, upd_same, upd_same]
        · rw [upd_ne _ _ e, upd_ne _ _ e, upd_ne _ _ e]
      rw [fX8_find_l24, li12, if_neg (by rw [iN_lt (by omega) (by omega)]; omega), Option.bind_some, stC_cnt, f8_l41 (roC_65 h _) hy (gat_len hg z.1) (by omega), stC_3, Option.bind_some, stC_len, e0, iN_add1, Nat.add_comm 1 j, show 1 + (j + 1) = j + 1 + 1 by omega]
      rfl
    have hcf : cfL N x y m t f (j + 1) = if iN t ≤ (cfT N x y m t (j + 1) z.2).2.2 then (true, iN (j + 1), cfT N x y m t (j + 1) z.2) else (false, z.1, cfT N x y m t (j + 1) z.2) := by
      show (if (cfL N x y m t f j).1 = true then (if iN t ≤ (cfT N x y m t (j + 1) (cfL N x y m t f j).2.2).2.2 then (true, iN (j + 1), cfT N x y m t (j + 1) (cfL N x y m t f j).2.2) else (false, (cfL N x y m t f j).2.1, cfT N x y m t (j + 1) (cfL N x y m t f j).2.2)) else cfL N x y m t f j) = _
      rw [← hz, if_pos rfl]
    by_cases c1 : iN t ≤ (cfT N x y m t (j + 1) z.2).2.2
    · right
      refine ⟨(iN (j + 1), cfT N x y m t (j + 1) z.2), ?_, ?_⟩
      · rw [hstep, if_pos c1]
      · rw [hcf, if_pos c1]
    · left
      rw [if_neg c1] at hcf
      have hs := cfL_stop (N := N) (x := x) (y := y) (m := m) (t := t) (f := f) (j := j + 1) (by rw [hcf]) (12 - (j + 1))
      rw [show j + 1 + (12 - (j + 1)) = 12 by omega, hcf] at hs
      rw [hstep, if_neg c1, hs]
