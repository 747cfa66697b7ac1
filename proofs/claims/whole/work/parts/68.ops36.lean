/-! LEVEL 2: the class finds its string -/
def cfP (N : Nat → Int32) (x : Int32) (y m t l : Nat) (f : fnC) : Nat → fnC
  | 0 => f
  | p + 1 => (cfS N x y m t l p (cfP N x y m t l f p) m).1
theorem f8_l41 {β : Type} {A B : ruA} {N : Nat → Int32} {m : Nat} (h : roC A N m) {y : Nat} (hy : y < 6) {x : Int32} (hg : gat A B N x y m) {l : Nat} (hl : l ≤ 12) (t : Nat) (f : fnC) (K : ruA → Option β) : fX8_find_l41 (iN t) (iN l) K ruF 0 (stC B f) = K (stC B (cfP N x y m t l f (13 - l))) := by
  refine loop_inv (fun n p (g : fnC) => fX8_find_l41 (iN t) (iN l) K n (iN p) (stC B g)) (13 - l) (fun p => cfP N x y m t l f p) _ ?_ ?_ ruF 0 (Nat.zero_le _) (by rw [ruF_eq]; omega)
  · intro n
    rw [fX8_find_l41, li12, iN_sub hl, if_pos ((iN_lt (by omega) (by omega)).mpr (by omega))]
  · intro n p hp
    show fX8_find_l41 (iN t) (iN l) K (n + 1) (iN p) (stC B (cfP N x y m t l f p)) = fX8_find_l41 (iN t) (iN l) K n (iN (p + 1)) (stC B (cfS N x y m t l p (cfP N x y m t l f p) m).1)
    rw [fX8_find_l41, li12, iN_sub hl, if_neg (by rw [iN_lt (by omega) (by omega)]; omega), f8_lookAt h hy hg (by omega), Option.bind_some, iN_add1]
theorem gat_len {A B : ruA} {N : Nat → Int32} {x : Int32} {y m : Nat} (h : gat A B N x y m) (v : Int32) : gat (rusetA A 65 ((ruset B 65 0 v).1 65)) (ruset B 65 0 v) N x y m := by
  obtain ⟨g1, g2, g3, g4⟩ := h
  refine ⟨fun k hk => ?_, ?_, fun j _ => ?_, fun d hd hin => ?_⟩
  · rw [rs_ne _ _ _ hk.1, rsA_ne _ _ hk.1]
    exact g1 k hk
  · rw [rs_eq, upd_ne _ _ (by decide)]
    exact g2
  · rw [rsA_same]
  · rw [rs_ne _ _ _ (by decide), rs_ne _ _ _ (by decide), rs_2]
    exact g4 d hd hin
theorem stC_len (B : ruA) (f : fnC) (v : Int32) : ruset (stC B f) 65 0 v = stC (ruset B 65 0 v) f := by
  unfold stC
  simp only [ruset_eq, rusetA_two, rsA_same]
  congr 1
  funext i
  by_cases e : i = 0
  · subst e
    rw [upd_same, upd_ne _ _ (by decide), upd_ne _ _ (by decide), upd_ne _ _ (by decide), upd_same]
  · rw [upd_ne _ _ e]
    by_cases e3 : i = 3
    · subst e3
      rw [upd_same, upd_same]
    · rw [upd_ne _ _ e3, upd_ne _ _ e3]
      by_cases e2 : i = 2
      · subst e2
        rw [upd_same, upd_same]
      · rw [upd_ne _ _ e2, upd_ne _ _ e2]
        by_cases e1 : i = 1
        · subst e1
          rw [upd_same, upd_same]
        · rw [upd_ne _ _ e1, upd_ne _ _ e1, upd_ne _ _ e]
theorem stC_cnt (B : ruA) (f : fnC) (v : Int32) : ruset (stC B f) 65 3 v = stC B (f.1, f.2.1, v) := by
  unfold stC
  simp only [ruset_eq, rusetA_two, rsA_same]
  congr 1
  funext i
  by_cases e3 : i = 3
  · subst e3
    rw [upd_same, upd_same]
  · rw [upd_ne _ _ e3, upd_ne _ _ e3, upd_ne _ _ e3]
