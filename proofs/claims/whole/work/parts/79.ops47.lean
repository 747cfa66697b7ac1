/-! LEVEL 2: the line -/
/-- room r: has puts -/
abbrev quP (N : Nat → Int32) (y m r : Nat) : Prop := ¬ vM N 6 (iN r) y m ≤ 0
def wrL (N : Nat → Int32) (k y m R : Nat) (l : Int32) : Nat := cN (fun r => hsP N y m r ∧ ¬ vM N k (iN r) y m < l ∧ ¬ quP N y m r) R
def miL (N : Nat → Int32) (k y m R : Nat) (l : Int32) : Nat := cN (fun r => hsP N y m r ∧ vM N k (iN r) y m < l ∧ quP N y m r) R
abbrev lexB (f g : Nat → Nat) (a b : Nat) : Prop := f a < f b ∨ (f a = f b ∧ (g a < g b ∨ (g a = g b ∧ a < b)))
theorem cN_pack {P g h : Nat → Prop} [DecidablePred P] [DecidablePred g] [DecidablePred h] : ∀ R, (∀ e, e < R → P e → (g (cN P e) ↔ h e)) → cN g (cN P R) = cN (fun r => P r ∧ h r) R
  | 0, _ => rfl
  | R + 1, hh => by
    have ih := cN_pack R (fun e he => hh e (by omega))
    show cN g (cN P R + (if P R then 1 else 0)) = cN (fun r => P r ∧ h r) R + (if P R ∧ h R then 1 else 0)
    by_cases c : P R
    · rw [if_pos c]
      show cN g (cN P R) + (if g (cN P R) then 1 else 0) = _
      rw [ih]
      by_cases c2 : h R
      · rw [if_pos ((hh R (by omega) c).mpr c2), if_pos (show P R ∧ h R from ⟨c, c2⟩)]
      · rw [if_neg (fun h => c2 ((hh R (by omega) c).mp h)), if_neg (show ¬ (P R ∧ h R) from fun h => c2 h.2)]
    · rw [if_neg c, Nat.add_zero, if_neg (fun h => c h.1), Nat.add_zero, ih]
theorem small4 : ∀ a, a < 7 → ∀ b, b < 7 → ∀ c, c < 7 → ∀ d, d < 7 → ((iN a + iN b - iN c - iN d < 0 ↔ a + b < c + d) ∧ (iN a + iN b - iN c - iN d = 0 ↔ a + b = c + d)) := by decide +kernel
theorem r_inner {β : Type} (A : ruA) {n : Nat} (hn : n ≤ 6) (x3 a b c l : Int32) (K : Int32 → Int32 → Option β) : fX11_line_l148 x3 (iN n) a b c l A K ruF 0 0 0 = K (iN (cN (fun j => ¬ A.1 94 j < l ∧ A.1 95 j = 0) n)) (iN (cN (fun j => A.1 94 j < l ∧ ¬ A.1 95 j = 0) n)) := by
  refine loop_inv (fun f j (s : Int32 × Int32) => fX11_line_l148 x3 (iN n) a b c l A K f s.1 s.2 (iN j)) n (fun j => (iN (cN (fun j => ¬ A.1 94 j < l ∧ A.1 95 j = 0) j), iN (cN (fun j => A.1 94 j < l ∧ ¬ A.1 95 j = 0) j))) _ ?_ ?_ ruF 0 (Nat.zero_le _) (by rw [ruF_eq]; omega)
  · intro f
    rw [fX11_line_l148, if_pos ((iN_le (by omega) (by omega)).mpr (Nat.le_refl _))]
  · intro f j hj
    show fX11_line_l148 x3 (iN n) a b c l A K (f + 1) (iN (cN (fun j => ¬ A.1 94 j < l ∧ A.1 95 j = 0) j)) (iN (cN (fun j => A.1 94 j < l ∧ ¬ A.1 95 j = 0) j)) (iN j) = fX11_line_l148 x3 (iN n) a b c l A K f (iN (cN (fun j => ¬ A.1 94 j < l ∧ A.1 95 j = 0) j + (if ¬ A.1 94 j < l ∧ A.1 95 j = 0 then 1 else 0))) (iN (cN (fun j => A.1 94 j < l ∧ ¬ A.1 95 j = 0) j + (if A.1 94 j < l ∧ ¬ A.1 95 j = 0 then 1 else 0))) (iN (j + 1))
    rw [fX11_line_l148, if_neg (by rw [iN_le (by omega) (by omega)]; omega), ruld_iN (show j < 6 by omega) (by decide), ruld_iN (show j < 6 by omega) (by decide), iN_add1]
    simp only [Option.bind_some]
    by_cases c1 : A.1 94 j < l
    · have c2 : ¬ l ≤ A.1 94 j := fun h => (Int32.not_lt.mpr h) c1
      rw [if_pos c1, Option.bind_some, if_neg c2, if_neg (show ¬ (¬ A.1 94 j < l ∧ A.1 95 j = 0) from fun h => h.1 c1), Int32.add_zero, Nat.add_zero]
      by_cases c3 : A.1 95 j = 0
      · rw [if_pos c3, Option.bind_some, if_neg (fun h => h.2 c3), Int32.add_zero, Nat.add_zero]
        rfl
      · rw [if_neg c3, Option.bind_some, if_pos ⟨c1, c3⟩, iN_add1]
        rfl
    · have c2 : l ≤ A.1 94 j := Int32.not_lt.mp c1
      rw [if_neg c1, if_pos c2, if_neg (show ¬ (A.1 94 j < l ∧ ¬ A.1 95 j = 0) from fun h => c1 h.1), Nat.add_zero]
      by_cases c3 : A.1 95 j = 0
      · rw [if_pos c3, Option.bind_some, Option.bind_some, if_pos ⟨c1, c3⟩, Int32.add_zero, iN_add1]
        rfl
      · rw [if_neg c3, Option.bind_some, Option.bind_some, if_neg (fun h => c3 h.2), Int32.add_zero, Int32.add_zero, Nat.add_zero]
        rfl
theorem r_scan {β : Type} (A : ruA) {n : Nat} (x3 : Int32) (w mi : Nat → Nat) (hw : ∀ l, w l ≤ 6) (hmi : ∀ l, mi l ≤ 6) (K : Int32 → Int32 → Int32 → Option β)
    (hin : ∀ l, l < 10000 → ∀ (a b c : Int32) (K2 : Int32 → Int32 → Option β), fX11_line_l148 x3 (iN n) a b c (iN l) A K2 ruF 0 0 0 = K2 (iN (w l)) (iN (mi l))) : ∃ b, b < 10000 ∧ (∀ l, l < 10000 → ¬ lexB (fun l => w l + mi l) w l b) ∧ fX11_line_l131 x3 (iN n) A K ruF (-1) 0 0 0 = K (iN b) (iN (w b)) (iN (mi b)) := by
  refine loop_gen (fun f q (s : Int32 × Int32 × Int32) => fX11_line_l131 x3 (iN n) A K f s.1 s.2.1 s.2.2 (iN q)) 10000 (fun q s => (q = 0 ∧ s = (-1, 0, 0)) ∨ (∃ b, b < q ∧ s = (iN b, iN (w b), iN (mi b)) ∧ ∀ l, l < q → ¬ lexB (fun l => w l + mi l) w l b)) (fun r => ∃ b, b < 10000 ∧ (∀ l, l < 10000 → ¬ lexB (fun l => w l + mi l) w l b) ∧ r = K (iN b) (iN (w b)) (iN (mi b))) ?_ ?_ ruF 0 (-1, 0, 0) (by decide) (by decide) (Or.inl ⟨rfl, rfl⟩)
  · intro f s hs
    rcases hs with ⟨h, -⟩ | ⟨b, h1, h2, h3⟩
    · exact absurd h (by decide)
    · refine ⟨b, h1, h3, ?_⟩
      show fX11_line_l131 x3 (iN n) A K (f + 1) s.1 s.2.1 s.2.2 (iN 10000) = _
      rw [fX11_line_l131, if_pos (by decide), h2]
  · intro f q s hq hs
    right
    show ∃ s' : Int32 × Int32 × Int32, fX11_line_l131 x3 (iN n) A K (f + 1) s.1 s.2.1 s.2.2 (iN q) = _ ∧ _
    rw [fX11_line_l131, li10000, if_neg (by rw [iN_le (by omega) (by omega)]; omega), hin q hq, iN_add1]
    rcases hs with ⟨h0, rfl⟩ | ⟨b, h1, rfl, h3⟩
    · subst h0
      refine ⟨(iN 0, iN (w 0), iN (mi 0)), ?_, Or.inr ⟨0, by omega, rfl, fun l hl => ?_⟩⟩
      · rw [if_pos (show (-1 : Int32) < 0 by decide), ruB3_some]
      · have : l = 0 := by omega
        subst this
        show ¬ (_ ∨ _)
        omega
    · obtain ⟨s1, s2⟩ := small4 (w q) (by have := hw q; omega) (mi q) (by have := hmi q; omega) (w b) (by have := hw b; omega) (mi b) (by have := hmi b; omega)
      have hwq := hw q
      have hwb := hw b
      show ∃ s' : Int32 × Int32 × Int32, (ruB3 (if iN b < 0 then some (iN q, iN (w q), iN (mi q)) else if iN (w q) + iN (mi q) - iN (w b) - iN (mi b) < 0 then some (iN q, iN (w q), iN (mi q)) else if iN (w q) + iN (mi q) - iN (w b) - iN (mi b) = 0 then (if iN (w b) ≤ iN (w q) then some (iN b, iN (w b), iN (mi b)) else some (iN q, iN (w q), iN (mi q))) else some (iN b, iN (w b), iN (mi b))) fun v29 v30 v31 => fX11_line_l131 x3 (iN n) A K f v29 v30 v31 (iN (q + 1))) = _ ∧ _
      rw [if_neg (iN_lt_zero (by omega))]
      have s3 := iN_le (a := w b) (b := w q) (by omega) (by omega)
      simp only [s1, s2, s3]
      have take : (w q + mi q < w b + mi b ∨ (w q + mi q = w b + mi b ∧ w q < w b)) → ∀ l, l < q + 1 → ¬ lexB (fun l => w l + mi l) w l q := by
        intro ht l hl
        show ¬ (w l + mi l < w q + mi q ∨ (w l + mi l = w q + mi q ∧ (w l < w q ∨ (w l = w q ∧ l < q))))
        by_cases e : l = q
        · subst e
          omega
        · have h4 : ¬ (w l + mi l < w b + mi b ∨ (w l + mi l = w b + mi b ∧ (w l < w b ∨ (w l = w b ∧ l < b)))) := h3 l (by omega)
          omega
      have keep : ¬ (w q + mi q < w b + mi b ∨ (w q + mi q = w b + mi b ∧ w q < w b)) → ∀ l, l < q + 1 → ¬ lexB (fun l => w l + mi l) w l b := by
        intro ht l hl
        by_cases e : l = q
        · subst e
          show ¬ (w l + mi l < w b + mi b ∨ (w l + mi l = w b + mi b ∧ (w l < w b ∨ (w l = w b ∧ l < b))))
          omega
        · exact h3 l (by omega)
      by_cases c1 : w q + mi q < w b + mi b
      · refine ⟨(iN q, iN (w q), iN (mi q)), ?_, Or.inr ⟨q, by omega, rfl, take (Or.inl c1)⟩⟩
        rw [if_pos c1, ruB3_some]
      · rw [if_neg c1]
        by_cases c2 : w q + mi q = w b + mi b
        · rw [if_pos c2]
          by_cases c3 : w b ≤ w q
          · refine ⟨(iN b, iN (w b), iN (mi b)), ?_, Or.inr ⟨b, by omega, rfl, keep (by omega)⟩⟩
            rw [if_pos c3, ruB3_some]
          · refine ⟨(iN q, iN (w q), iN (mi q)), ?_, Or.inr ⟨q, by omega, rfl, take (by omega)⟩⟩
            rw [if_neg c3, ruB3_some]
        · refine ⟨(iN b, iN (w b), iN (mi b)), ?_, Or.inr ⟨b, by omega, rfl, keep (by omega)⟩⟩
          rw [if_neg c2, ruB3_some]
def lkL (A B : ruA) : Prop := (∀ k, k ≠ 83 ∧ k ≠ 94 ∧ k ≠ 95 → B.1 k = A.1 k) ∧ ∀ j, j ≠ 10 ∧ j ≠ 11 ∧ j ≠ 12 → B.1 83 j = A.1 83 j
theorem lkL_refl (A : ruA) : lkL A A := ⟨fun _ _ => rfl, fun _ _ => rfl⟩
theorem lkL_R {A B C : ruA} (h : lkL A B) (h2 : lkR B C) : lkL A C := ⟨fun k hk => (h2.1 k hk.1).trans (h.1 k hk), fun j hj => (h2.2 j hj).trans (h.2 j hj)⟩
theorem lkL_94 {A B : ruA} (h : lkL A B) (i : Nat) (v : Int32) : lkL A (ruset B 94 i v) := ⟨fun k hk => by rw [rs_ne _ _ _ hk.2.1]; exact h.1 k hk, fun j hj => by rw [rs_ne _ _ _ (by decide)]; exact h.2 j hj⟩
theorem lkL_95 {A B : ruA} (h : lkL A B) (i : Nat) (v : Int32) : lkL A (ruset B 95 i v) := ⟨fun k hk => by rw [rs_ne _ _ _ hk.2.2]; exact h.1 k hk, fun j hj => by rw [rs_ne _ _ _ (by decide)]; exact h.2 j hj⟩
theorem r_build {β : Type} {B : ruA} {N : Nat → Int32} {m R : Nat} (hm : m ≤ 24) (hR : R ≤ 6) (e84 : B.1 84 = N) (e2 : N 2 = iN m) (e1 : N 1 = iN R) (hkd : ∀ s, s < 144 → ∀ q, q < 12 → 0 ≤ N (141 + 28 * s + q) ∧ N (141 + 28 * s + q) ≤ 7) {y k : Nat} (hy : y < 6) (hk : k < 7) (x3 : Int32) (K : Int32 → ruA → Option β) : ∃ C, lkL B C ∧ (∀ e, e < R → hsP N y m e → C.1 94 (cN (fun r => hsP N y m r) e) = vM N k (iN e) y m ∧ C.1 95 (cN (fun r => hsP N y m r) e) = b2 (quP N y m e)) ∧ (cN (fun r => hsP N y m r) R = 0 → C = B) ∧ fX11_line_l38 (iN k) (iN y) x3 K ruF 0 0 B = K (iN (cN (fun r => hsP N y m r) R)) C := by
  refine loop_gen (fun n r (s : Int32 × ruA) => fX11_line_l38 (iN k) (iN y) x3 K n s.1 (iN r) s.2) R (fun r s => s.1 = iN (cN (fun r => hsP N y m r) r) ∧ lkL B s.2 ∧ (∀ e, e < r → hsP N y m e → s.2.1 94 (cN (fun r => hsP N y m r) e) = vM N k (iN e) y m ∧ s.2.1 95 (cN (fun r => hsP N y m r) e) = b2 (quP N y m e)) ∧ (cN (fun r => hsP N y m r) r = 0 → s.2 = B)) (fun o => ∃ C, lkL B C ∧ (∀ e, e < R → hsP N y m e → C.1 94 (cN (fun r => hsP N y m r) e) = vM N k (iN e) y m ∧ C.1 95 (cN (fun r => hsP N y m r) e) = b2 (quP N y m e)) ∧ (cN (fun r => hsP N y m r) R = 0 → C = B) ∧ o = K (iN (cN (fun r => hsP N y m r) R)) C) ?_ ?_ ruF 0 (0, B) (Nat.zero_le _) (by rw [ruF_eq]; omega) ⟨rfl, lkL_refl B, fun e he => by omega, fun _ => rfl⟩
  · rintro n s ⟨h1, h2, h3, h4⟩
    refine ⟨s.2, h2, h3, h4, ?_⟩
    rw [fX11_line_l38, l1A, h2.1 84 (by decide), e84, e1, Option.bind_some, if_pos ((iN_le (by omega) (by omega)).mpr (Nat.le_refl _)), h1]
  · rintro n r s hr ⟨h1, h2, h3, h4⟩
    right
    have e84s : s.2.1 84 = N := (h2.1 84 (by decide)).trans e84
    have hle := cN_le (p := fun c => inR N (iN r) y c) m
    have hle2 := cN_le (p := fun r => hsP N y m r) r
    show ∃ s' : Int32 × ruA, fX11_line_l38 (iN k) (iN y) x3 K (n + 1) s.1 (iN r) s.2 = _ ∧ s'.1 = iN (cN (fun r => hsP N y m r) r + (if hsP N y m r then 1 else 0)) ∧ _ ∧ _ ∧ (cN (fun r => hsP N y m r) r + (if hsP N y m r then 1 else 0) = 0 → s'.2 = B)
    rw [fX11_line_l38, l1A, e84s, e1, Option.bind_some, if_neg (by rw [iN_le (by omega) (by omega)]; omega), r_has hm e84s e2 hy, Option.bind_some, iN_add1]
    by_cases c1 : hsP N y m r
    · obtain ⟨C, c2, c3⟩ := r_of (A := s.2) hm (by rw [e84s]; exact e2) (by rw [e84s]; exact hkd) hy hk (iN r)
      rw [e84s] at c2
      have e84d : (ruset C 94 (cN (fun r => hsP N y m r) r) (vM N k (iN r) y m)).1 84 = N := by rw [rs_ne _ _ _ (by decide), lkR_84 c3]; exact e84s
      obtain ⟨D, d2, d3⟩ := r_of (A := ruset C 94 (cN (fun r => hsP N y m r) r) (vM N k (iN r) y m)) hm (by rw [e84d]; exact e2) (by rw [e84d]; exact hkd) hy (k := 6) (by decide) (iN r)
      rw [e84d] at d2
      have d2 : fX11_measured (iN r) (iN y) 6 (ruset C 94 (cN (fun r => hsP N y m r) r) (vM N k (iN r) y m)) = some (vM N 6 (iN r) y m, D) := d2
      have hv : (if vM N 6 (iN r) y m ≤ 0 then some (0 : Int32) else some 1) = some (b2 (quP N y m r)) := by
        by_cases c : vM N 6 (iN r) y m ≤ 0
        · rw [if_pos c, b2_neg (fun h => h c)]
        · rw [if_neg c, b2_pos c]
      have hv2 : b2 (quP N y m r) &&& 1 = b2 (quP N y m r) := by
        unfold b2
        split <;> rfl
      refine ⟨(iN (cN (fun r => hsP N y m r) r + 1), ruset D 95 (cN (fun r => hsP N y m r) r) (b2 (quP N y m r))), ?_, ?_, ?_, ?_, ?_⟩
      · rw [if_neg (by rw [le0_iN (by omega)]; omega), c2, ruB2_some, h1, rust_iN (by omega) (by decide), Option.bind_some, d2, ruB2_some, hv, Option.bind_some, hv2, rust_iN (by omega) (by decide), Option.bind_some, ruB2_some, iN_add1]
      · rw [if_pos c1]
      · exact lkL_95 (lkL_R (lkL_94 (lkL_R h2 c3) _ _) d3) _ _
      · intro e he hp
        show (ruset D 95 (cN (fun r => hsP N y m r) r) (b2 (quP N y m r))).1 94 _ = _ ∧ (ruset D 95 (cN (fun r => hsP N y m r) r) (b2 (quP N y m r))).1 95 _ = _
        rw [rs_eq, rs_ne _ _ _ (by decide), d3.1 94 (by decide), rs_eq]
        by_cases e9 : e = r
        · subst e9
          rw [upd_same, upd_same]
          exact ⟨rfl, rfl⟩
        · have hlt := cN_lt (p := fun r => hsP N y m r) hp (show e < r by omega)
          rw [upd_ne _ _ (by omega), upd_ne _ _ (by omega), c3.1 94 (by decide), d3.1 95 (by decide), rs_ne _ _ _ (by decide), c3.1 95 (by decide)]
          exact h3 e (by omega) hp
      · rw [if_pos c1]
        intro h
        omega
    · refine ⟨s, ?_, ?_, h2, ?_, ?_⟩
      · rw [if_pos (by rw [le0_iN (by omega)]; omega), ruB2_some]
      · rw [if_neg c1, Nat.add_zero, h1]
      · intro e he hp
        by_cases e9 : e = r
        · subst e9
          exact absurd hp c1
        · exact h3 e (by omega) hp
      · rw [if_neg c1, Nat.add_zero]
        exact h4
theorem no_puts {N : Nat → Int32} {y m r : Nat} (h : quP N y m r) : hsP N y m r := by
  by_cases c : hsP N y m r
  · exact c
  · exfalso
    apply h
    have h0 := (cN_zero (p := fun c => inR N (iN r) y c) m).mp (by omega)
    have e : vM N 6 (iN r) y m = 0 := by
      show sumI (fun c => if inR N (iN r) y c then nMea N 6 c y else 0) m = 0
      rw [sumI_cut (n := 0) (Nat.zero_le _) (fun j _ hj => if_neg (h0 j hj))]
      rfl
    rw [e]
    exact Int32.le_refl _
theorem c_puts {A : ruA} {N : Nat → Int32} {m R : Nat} (h : roC A N m) (hR : R ≤ 6) (e1 : A.1 2 1 = iN R) {y : Nat} (hy : y < 6) : fX3_roomsWithPuts (iN y) A = some (sB (fun r => quP N y m r) R, A) := by
  unfold fX3_roomsWithPuts
  refine loop_inv (fun n r z => fX3_roomsWithPuts_l4 (iN y) (fun v4 A5 => some (v4, A5)) n z (iN r) A) R (fun r => sB (fun r => quP N y m r) r) _ ?_ ?_ ruF 0 (Nat.zero_le _) (by rw [ruF_eq]; omega)
  · intro n
    rw [fX3_roomsWithPuts_l4, e1, if_pos ((iN_le (by omega) (by omega)).mpr (Nat.le_refl _))]
  · intro n r hr
    have hof : fX3_of 6 (iN r) (iN y) A = some (vM N 6 (iN r) y m, A) := f10_of h hy (k := 6) (by decide) (by decide) (iN r)
    show fX3_roomsWithPuts_l4 (iN y) (fun v4 A5 => some (v4, A5)) (n + 1) (sB (fun r => quP N y m r) r) (iN r) A = fX3_roomsWithPuts_l4 (iN y) (fun v4 A5 => some (v4, A5)) n (sB (fun r => quP N y m r) r ||| (if quP N y m r then (1 : Int32) <<< (iN r &&& 31) else 0)) (iN (r + 1)) A
    rw [fX3_roomsWithPuts_l4, e1, if_neg (by rw [iN_le (by omega) (by omega)]; omega), hof, ruB2_some, iN_add1]
    by_cases c1 : vM N 6 (iN r) y m ≤ 0
    · rw [if_pos c1, Option.bind_some, if_neg (fun h => h c1), Int32.or_zero]
    · rw [if_neg c1, Option.bind_some, if_pos c1]
theorem bt_not {x : Int32} {k : Nat} (hk : k < 32) : bt (x ^^^ -1) k = true ↔ ¬ bt x k = true := by
  rw [bt_xor, bt_m1 hk]
  cases bt x k <;> decide
/-- the class has worked out its values -/
def woC (A : ruA) (N : Nat → Int32) (k y m R : Nat) : Prop := R ≤ 6 ∧ ∀ e, e < R → hsP N y m e → A.1 64 e = vM N k (iN e) y m
theorem c_wr {A : ruA} {N : Nat → Int32} {k y m R : Nat} (h : woC A N k y m R) (u : Int32) : fJ6_bitCount_0f7a4 (sB (fun r => bt (sB (fun r => hsP N y m r) R) r = true ∧ ¬ A.1 64 r < u) 6 &&& (sB (fun r => quP N y m r) R ^^^ -1)) = some (iN (wrL N k y m R u)) := by
  obtain ⟨hR, h64⟩ := h
  rw [f10_bits (fun j hj => by rw [bt_and, bt_sB 6 (by decide), decide_eq_false (by omega), Bool.false_and])]
  unfold wrL
  rw [pc_of (n := R) (p := fun r => hsP N y m r ∧ ¬ vM N k (iN r) y m < u ∧ ¬ quP N y m r) (by omega)]
  intro j hj
  rw [bt_and, Bool.and_eq_true, bt_not (by omega), bt_sB_iff (by decide), bt_sB_iff (by omega), bt_sB_iff (by omega)]
  constructor
  · rintro ⟨⟨a, ⟨b, c⟩, d⟩, e⟩
    rw [h64 j b c] at d
    exact ⟨b, c, d, fun q => e ⟨b, q⟩⟩
  · rintro ⟨a, b, c, d⟩
    exact ⟨⟨by omega, ⟨a, b⟩, by rw [h64 j a b]; exact c⟩, fun q => d q.2⟩
theorem c_mi {A : ruA} {N : Nat → Int32} {k y m R : Nat} (h : woC A N k y m R) (u : Int32) : fJ6_bitCount_0f7a4 (sB (fun r => quP N y m r) R &&& (sB (fun r => bt (sB (fun r => hsP N y m r) R) r = true ∧ ¬ A.1 64 r < u) 6 ^^^ -1)) = some (iN (miL N k y m R u)) := by
  obtain ⟨hR, h64⟩ := h
  rw [f10_bits (fun j hj => by rw [bt_and, bt_sB R (by omega), decide_eq_false (by omega), Bool.false_and])]
  unfold miL
  rw [pc_of (n := R) (p := fun r => hsP N y m r ∧ vM N k (iN r) y m < u ∧ quP N y m r) (by omega)]
  intro j hj
  rw [bt_and, Bool.and_eq_true, bt_not (by omega), bt_sB_iff (by omega), bt_sB_iff (by decide), bt_sB_iff (by omega)]
  constructor
  · rintro ⟨⟨a, b⟩, c⟩
    have hp := no_puts b
    refine ⟨a, hp, ?_, b⟩
    by_cases d : vM N k (iN j) y m < u
    · exact d
    · exact absurd ⟨by omega, ⟨a, hp⟩, by rw [h64 j a hp]; exact d⟩ c
  · rintro ⟨a, b, c, d⟩
    refine ⟨⟨a, d⟩, fun q => q.2.2 ?_⟩
    rw [h64 j a b]
    exact c
theorem wr_le {N : Nat → Int32} {k y m R : Nat} (hR : R ≤ 6) (u : Int32) : wrL N k y m R u ≤ 6 := Nat.le_trans (cN_le R) hR
theorem mi_le {N : Nat → Int32} {k y m R : Nat} (hR : R ≤ 6) (u : Int32) : miL N k y m R u ≤ 6 := Nat.le_trans (cN_le R) hR
abbrev lxN (N : Nat → Int32) (k y m R a b : Nat) : Prop := lexB (fun l => wrL N k y m R (iN l) + miL N k y m R (iN l)) (fun l => wrL N k y m R (iN l)) a b
theorem c_better {A : ruA} {N : Nat → Int32} {k y m R : Nat} (h : woC A N k y m R) {a b : Nat} (ha : a < 10000) (hb : b < 10000) : fX3_isBetter (iN a) (iN b) (sB (fun r => hsP N y m r) R) (sB (fun r => quP N y m r) R) A = some (b2 (lxN N k y m R a b)) := by
  unfold fX3_isBetter
  rw [c_from, Option.bind_some, c_from, Option.bind_some, c_wr h, Option.bind_some, c_wr h, Option.bind_some, c_mi h, Option.bind_some, c_mi h, Option.bind_some, iN_add, iN_add]
  have w1 := wr_le (N := N) (k := k) (y := y) (m := m) h.1 (iN a)
  have w2 := wr_le (N := N) (k := k) (y := y) (m := m) h.1 (iN b)
  have m1 := mi_le (N := N) (k := k) (y := y) (m := m) h.1 (iN a)
  have m2 := mi_le (N := N) (k := k) (y := y) (m := m) h.1 (iN b)
  show _ = some (b2 (wrL N k y m R (iN a) + miL N k y m R (iN a) < wrL N k y m R (iN b) + miL N k y m R (iN b) ∨ (wrL N k y m R (iN a) + miL N k y m R (iN a) = wrL N k y m R (iN b) + miL N k y m R (iN b) ∧ (wrL N k y m R (iN a) < wrL N k y m R (iN b) ∨ (wrL N k y m R (iN a) = wrL N k y m R (iN b) ∧ a < b)))))
  generalize wrL N k y m R (iN a) = p1 at *
  generalize wrL N k y m R (iN b) = p2 at *
  generalize miL N k y m R (iN a) = p3 at *
  generalize miL N k y m R (iN b) = p4 at *
  have t1 := iN_inj (a := p1 + p3) (b := p2 + p4) (by omega) (by omega)
  have t2 := iN_inj (a := p1) (b := p2) (by omega) (by omega)
  have t3 := iN_le (a := b) (b := a) (by omega) (by omega)
  have t4 := iN_le (a := p2) (b := p1) (by omega) (by omega)
  have t5 := iN_le (a := p2 + p4) (b := p1 + p3) (by omega) (by omega)
  simp only [t1, t2, t3, t4, t5]
  by_cases c1 : p1 + p3 = p2 + p4
  · rw [if_pos c1]
    by_cases c2 : p1 = p2
    · rw [if_pos c2]
      by_cases c3 : b ≤ a
      · rw [if_pos c3, b2_neg (by omega)]
      · rw [if_neg c3, b2_pos (by omega)]
    · rw [if_neg c2]
      by_cases c3 : p2 ≤ p1
      · rw [if_pos c3, b2_neg (by omega)]
      · rw [if_neg c3, b2_pos (by omega)]
  · rw [if_neg c1]
    by_cases c3 : p2 + p4 ≤ p1 + p3
    · rw [if_pos c3, b2_neg (by omega)]
    · rw [if_neg c3, b2_pos (by omega)]
theorem lex_tr {f g : Nat → Nat} {a b c : Nat} (h : lexB f g b c) (h2 : ¬ lexB f g a c) : ¬ lexB f g a b := by
  have h : f b < f c ∨ (f b = f c ∧ (g b < g c ∨ (g b = g c ∧ b < c))) := h
  have h2 : ¬ (f a < f c ∨ (f a = f c ∧ (g a < g c ∨ (g a = g c ∧ a < c)))) := h2
  show ¬ (f a < f b ∨ (f a = f b ∧ (g a < g b ∨ (g a = g b ∧ a < b))))
  omega
theorem lex_ir {f g : Nat → Nat} {a : Nat} : ¬ lexB f g a a := by
  show ¬ (f a < f a ∨ (f a = f a ∧ (g a < g a ∨ (g a = g a ∧ a < a))))
  omega
theorem lex_eq {f g : Nat → Nat} {a b : Nat} (h : ¬ lexB f g a b) (h2 : ¬ lexB f g b a) : a = b := by
  have h : ¬ (f a < f b ∨ (f a = f b ∧ (g a < g b ∨ (g a = g b ∧ a < b)))) := h
  have h2 : ¬ (f b < f a ∨ (f b = f a ∧ (g b < g a ∨ (g b = g a ∧ b < a)))) := h2
  omega
/-- a line that the class tries -/
def caL (N : Nat → Int32) (k y m R r b : Nat) : Prop := b = 0 ∨ ∃ e v, e < r ∧ e < R ∧ hsP N y m e ∧ vM N k (iN e) y m = iN v ∧ v ≤ 9998 ∧ b = v + 1
theorem c_best {A : ruA} {N : Nat → Int32} {k y m R : Nat} (h : woC A N k y m R) : ∃ b, b < 10000 ∧ (∀ c, caL N k y m R 6 c → ¬ lxN N k y m R c b) ∧ fX3_bestLine (sB (fun r => hsP N y m r) R) (sB (fun r => quP N y m r) R) A = some (iN b) := by
  have hR := h.1
  unfold fX3_bestLine
  refine loop_gen (fun n r z => fX3_bestLine_l5 (sB (fun r => hsP N y m r) R) (sB (fun r => quP N y m r) R) A (fun v8 => some v8) n z (iN r)) 6 (fun r z => ∃ b, z = iN b ∧ b < 10000 ∧ ∀ c, caL N k y m R r c → ¬ lxN N k y m R c b) (fun o => ∃ b, b < 10000 ∧ (∀ c, caL N k y m R 6 c → ¬ lxN N k y m R c b) ∧ o = some (iN b)) ?_ ?_ ruF 0 0 (by decide) (by decide) ⟨0, rfl, by decide, ?_⟩
  · rintro n z ⟨b, rfl, hb, hc⟩
    refine ⟨b, hb, hc, ?_⟩
    show fX3_bestLine_l5 (sB (fun r => hsP N y m r) R) (sB (fun r => quP N y m r) R) A (fun v8 => some v8) (n + 1) (iN b) (iN 6) = _
    rw [fX3_bestLine_l5, if_pos (by decide)]
  · rintro n r z hr ⟨b, rfl, hb, hc⟩
    right
    show ∃ s' : Int32, fX3_bestLine_l5 (sB (fun r => hsP N y m r) R) (sB (fun r => quP N y m r) R) A (fun v8 => some v8) (n + 1) (iN b) (iN r) = _ ∧ _
    rw [fX3_bestLine_l5, li6, if_neg (by rw [iN_le (by omega) (by omega)]; omega), e10_has (by omega), Option.bind_some, b2_ne, iN_add1, ruld_iN hr (by decide)]
    have same : (¬ ∃ v, r < R ∧ hsP N y m r ∧ vM N k (iN r) y m = iN v ∧ v ≤ 9998) → ∀ c, caL N k y m R (r + 1) c → ¬ lxN N k y m R c b := by
      rintro hno c (hc0 | ⟨e, v, a1, a2, a3, a4, a5, a6⟩)
      · exact hc c (Or.inl hc0)
      · by_cases e9 : e = r
        · subst e9
          exact absurd ⟨v, a2, a3, a4, a5⟩ hno
        · exact hc c (Or.inr ⟨e, v, by omega, a2, a3, a4, a5, a6⟩)
    by_cases c1 : bt (sB (fun r => hsP N y m r) R) r = true
    · obtain ⟨c2, c3⟩ := (bt_sB_iff (by omega)).mp c1
      have e64 := h.2 r c2 c3
      rw [if_pos c1, Option.bind_some, e64, e10_isWithin, Option.bind_some, b2_ne]
      by_cases c4 : 0 ≤ vM N k (iN r) y m ∧ vM N k (iN r) y m ≤ 9998
      · obtain ⟨v, hv, ev⟩ := iN_of (m := 9998) c4.1 (by decide) c4.2
        rw [if_pos c4, Option.bind_some, ev, iN_add1, c_better h (by omega) hb, Option.bind_some, b2_ne]
        by_cases c5 : lxN N k y m R (v + 1) b
        · refine ⟨iN (v + 1), ?_, v + 1, rfl, by omega, ?_⟩
          · rw [if_pos c5, Option.bind_some, Option.bind_some, iN_add1]
          · rintro c (hc0 | ⟨e, u, a1, a2, a3, a4, a5, a6⟩)
            · exact lex_tr c5 (hc c (Or.inl hc0))
            · by_cases e9 : e = r
              · subst e9
                rw [ev, iN_inj (by omega) (by omega)] at a4
                rw [a6, ← a4]
                exact lex_ir
              · exact lex_tr c5 (hc c (Or.inr ⟨e, u, by omega, a2, a3, a4, a5, a6⟩))
        · refine ⟨iN b, ?_, b, rfl, hb, ?_⟩
          · rw [if_neg c5, Option.bind_some]
          · rintro c (hc0 | ⟨e, u, a1, a2, a3, a4, a5, a6⟩)
            · exact hc c (Or.inl hc0)
            · by_cases e9 : e = r
              · subst e9
                rw [ev, iN_inj (by omega) (by omega)] at a4
                rw [a6, ← a4]
                exact c5
              · exact hc c (Or.inr ⟨e, u, by omega, a2, a3, a4, a5, a6⟩)
      · refine ⟨iN b, ?_, b, rfl, hb, same ?_⟩
        · rw [if_neg c4, Option.bind_some]
        · rintro ⟨v, -, -, a3, a4⟩
          apply c4
          rw [a3]
          exact ⟨iN_nonneg (by omega), (iN_le (b := 9998) (by omega) (by decide)).mpr a4⟩
    · refine ⟨iN b, ?_, b, rfl, hb, same ?_⟩
      · rw [if_neg c1, Option.bind_some]
      · rintro ⟨v, a1, a2, -⟩
        exact c1 ((bt_sB_iff (by omega)).mpr ⟨a1, a2⟩)
  · rintro c (rfl | ⟨e, v, a1, -⟩)
    · exact lex_ir
    · omega
theorem line_in {N : Nat → Int32} {k y m R b : Nat} (hR : R ≤ 6) (hb : b < 10000) (h : ∀ l, l < 10000 → ¬ lxN N k y m R l b) : caL N k y m R 6 b := by
  by_cases c0 : b = 0
  · exact Or.inl c0
  · by_cases c1 : ∃ e, e < R ∧ hsP N y m e ∧ vM N k (iN e) y m = iN (b - 1)
    · obtain ⟨e, a1, a2, a3⟩ := c1
      exact Or.inr ⟨e, b - 1, by omega, a1, a2, a3, by omega, by omega⟩
    · exfalso
      have key : ∀ e, e < R → hsP N y m e → (vM N k (iN e) y m < iN (b - 1) ↔ vM N k (iN e) y m < iN b) := by
        intro e he hp
        have hne : ¬ vM N k (iN e) y m = iN (b - 1) := fun h9 => c1 ⟨e, he, hp, h9⟩
        rw [← Int32.toInt_inj, iN_toInt (by omega)] at hne
        rw [Int32.lt_iff_toInt_lt, Int32.lt_iff_toInt_lt, iN_toInt (by omega), iN_toInt (by omega)]
        omega
      have ew : wrL N k y m R (iN (b - 1)) = wrL N k y m R (iN b) := by
        unfold wrL
        refine cN_congr R fun e he => ?_
        constructor
        · exact fun q => ⟨q.1, fun z => q.2.1 ((key e he q.1).mpr z), q.2.2⟩
        · exact fun q => ⟨q.1, fun z => q.2.1 ((key e he q.1).mp z), q.2.2⟩
      have em : miL N k y m R (iN (b - 1)) = miL N k y m R (iN b) := by
        unfold miL
        refine cN_congr R fun e he => ?_
        constructor
        · exact fun q => ⟨q.1, (key e he q.1).mp q.2.1, q.2.2⟩
        · exact fun q => ⟨q.1, (key e he q.1).mpr q.2.1, q.2.2⟩
      refine h (b - 1) (by omega) (Or.inr ⟨?_, Or.inr ⟨?_, by omega⟩⟩)
      · show wrL N k y m R (iN (b - 1)) + miL N k y m R (iN (b - 1)) = wrL N k y m R (iN b) + miL N k y m R (iN b)
        rw [ew, em]
      · exact ew
theorem Inv.looksL {W : ruWy} {A B C : ruA} (hI : Inv W A) (h1 : lkW A B) (h2 : lkL B C) : Inv W C := by
  have e : ∀ k, k ≠ 64 ∧ k ≠ 65 ∧ k ≠ 66 ∧ k ≠ 68 ∧ k ≠ 83 ∧ k ≠ 94 ∧ k ≠ 95 → C.1 k = A.1 k := fun k hk => (h2.1 k hk.2.2.2.2).trans (h1 k ⟨hk.1, hk.2.1, hk.2.2.1, hk.2.2.2.1⟩)
  have e8 : ∀ j, j ≠ 10 ∧ j ≠ 11 ∧ j ≠ 12 → C.1 83 j = A.1 83 j := fun j hj => (h2.2 j hj).trans (by rw [h1 83 (by decide)])
  exact hI.same ⟨fun k hk => e k (by omega), ⟨by rw [e 0 (by decide)], by rw [e 0 (by decide)], by rw [e 0 (by decide)]⟩, ⟨e8 _ (by decide), e8 _ (by decide), e8 _ (by decide)⟩⟩ ⟨fun k hk => e k (by omega), e 84 (by decide)⟩
