/-! LEVEL 2: the class finds its string -/
theorem stC_init (B : ruA) (a b : Int32) : ruset (ruset B 65 1 a) 65 2 b = stC B (a, b, B.1 65 3) := by
  unfold stC
  simp only [ruset_eq, rusetA_two, rsA_same]
  congr 1
  funext i
  by_cases e3 : i = 3
  · subst e3
    rw [upd_same, upd_ne _ _ (by decide), upd_ne _ _ (by decide)]
  · rw [upd_ne _ _ e3]
theorem f8_find {A : ruA} {N : Nat → Int32} {m : Nat} (h : roC A N m) {y : Nat} (hy : y < 6) (x : Int32) (t : Nat) : ∃ B, gat A B N x y m ∧ fX8_find x (iN y) (iN t) A = some (stC (ruset B 65 0 (cfL N x y m t (-1, 0, A.1 65 3) 12).2.1) (cfL N x y m t (-1, 0, A.1 65 3) 12).2.2) := by
  obtain ⟨B, b1, bg⟩ := f8_gather h hy x
  refine ⟨B, bg, ?_⟩
  have e3 : (ruset B 65 0 0).1 65 3 = A.1 65 3 := by
    rw [rs_eq, upd_ne _ _ (by decide)]
    exact bg.2.2.1 3 (by decide)
  unfold fX8_find
  rw [b1, Option.bind_some, Option.bind_some, Option.bind_some, Option.bind_some, stC_init, e3, f8_l24 h hy bg]
