/-! LEVEL 2: the class finds its string -/
def cfP (N : Nat → Int32) (x : Int32) (y m t l : Nat) (f : fnC) : Nat → fnC
  | 0 => f
  | p + 1 => (cfS N x y m t l p (cfP N x y m t l f p) m).1
theorem f8_l41 {β : Type} {A B : ruA} {N : Nat → Int32} {m : Nat} (h : roC A N m) {y : Nat} (hy : y < 6) {x : Int32} (hg : gat A B N x y m) {l : Nat} (hl : l ≤ 12) (t : Nat) (f : fnC) (K : ruA → Option β) : fX8_find_l41 (iN t) (iN l) K ruF 0 (stC B f) = K (stC B (cfP N x y m t l f (13 - l))) := by
  refine loop_inv (fun n p (g : fnC) => fX8_find_l41 (iN t) (iN l) K n (iN p) (stC B g)) (13 - l) (fun p => cfP N x y m t l f p) _ ?_ ?_ ruF 0 (Nat.zero_le _) (by rw [ruF_eq]; omega)
  · intro n
    rw [fX8_find_l41, li12, iN_sub hl, if_pos ((iN_lt (by omega) (by omega)).mpr (by omega))]
  · intro n p hp
    show fX8_find_l41 (iN t) (iN l) K (n + 1) (iN p) (stC B (cfP N x y m t l f p)) = fX8_find_l41 (iN t) (iN l) K n (iN (p + 1)) (stC B (cfS N x y m t l p (cfP N x y m t l f p) m).1)
    rw [fX8_find_l41, li12, iN_sub hl, if_neg (by rw [iN_lt (by omega) (by omega)]; omega), f8_lookAt h hy hg (by omega), Option.bind_some, iN_add1]
