/-! LEVEL 2: the class looks at a start -/
def cfS (N : Nat → Int32) (x : Int32) (y m t l p : Nat) (f : fnC) : Nat → fnC × Int32
  | 0 => (f, 0)
  | c + 1 => if inR N x y c ∧ ¬ bt (cfS N x y m t l p f c).2 c = true ∧ fuB N y c p l = true then (tkC t p (alS N x y c p l m) (cfS N x y m t l p f c).1, (cfS N x y m t l p f c).2 ||| alS N x y c p l m) else cfS N x y m t l p f c
theorem cfS_skip {N : Nat → Int32} {x : Int32} {y m t l p : Nat} {f : fnC} {c : Nat} : ∀ j, (∀ e, c ≤ e → e < c + j → ¬ inR N x y e) → cfS N x y m t l p f (c + j) = cfS N x y m t l p f c
  | 0, _ => rfl
  | j + 1, h => by
    show (if inR N x y (c + j) ∧ ¬ bt (cfS N x y m t l p f (c + j)).2 (c + j) = true ∧ fuB N y (c + j) p l = true then _ else cfS N x y m t l p f (c + j)) = _
    rw [if_neg (fun h2 => h (c + j) (by omega) (by omega) h2.1), cfS_skip j (fun e a b => h e a (by omega))]
theorem gat_stC {A B : ruA} {N : Nat → Int32} {x : Int32} {y m : Nat} (h : gat A B N x y m) (f : fnC) : gat (rusetA A 65 ((stC B f).1 65)) (stC B f) N x y m := by
  obtain ⟨g1, g2, g3, g4⟩ := h
  refine ⟨fun k hk => ?_, ?_, fun j _ => ?_, fun d hd hin => ?_⟩
  · rw [stC_k B f hk.1, rsA_ne _ _ hk.1]
    exact g1 k hk
  · rw [stC_j B f (by omega)]
    exact g2
  · rw [rsA_same]
  · rw [stC_k B f (by decide), stC_k B f (by decide)]
    exact g4 d hd hin
theorem roC_65 {A : ruA} {N : Nat → Int32} {m : Nat} (h : roC A N m) (F : Nat → Int32) : roC (rusetA A 65 F) N m :=
  ⟨shC_keep h.1 fun k hk => rsA_ne _ _ (by omega), h.2.1, h.2.2⟩
theorem f8_lookAt {A B : ruA} {N : Nat → Int32} {m : Nat} (h : roC A N m) {y : Nat} (hy : y < 6) {x : Int32} (hg : gat A B N x y m) {p l : Nat} (hp : p + l ≤ 12) (t : Nat) (f : fnC) : fX8_lookAt (iN p) (iN l) (iN t) (stC B f) = some (stC B (cfS N x y m t l p f m).1) := by
  have hm := h.2.2.2
  have hnm : cN (fun c => inR N x y c) m ≤ m := cN_le m
  unfold fX8_lookAt
  refine loop_gen (fun n j (z : fnC × Int32) => fX8_lookAt_l15 (iN p) (iN l) (iN t) (mkF p l) (fun A8 => some A8) n z.2 (iN j) (stC B z.1)) (cN (fun c => inR N x y c) m) (fun j z => ∃ c, c ≤ m ∧ cN (fun c => inR N x y c) c = j ∧ z = cfS N x y m t l p f c) (fun r => r = some (stC B (cfS N x y m t l p f m).1)) ?_ ?_ ruF 0 (f, 0) (Nat.zero_le _) (by rw [ruF_eq]; omega) ⟨0, Nat.zero_le _, rfl, rfl⟩
  · rintro n z ⟨c, hc, hcj, hz⟩
    have e4 : (stC B z.1).1 65 4 = iN (cN (fun c => inR N x y c) m) := by rw [stC_j B _ (by omega)]; exact hg.2.1
    have hsk := cfS_skip (N := N) (x := x) (y := y) (m := m) (t := t) (l := l) (p := p) (f := f) (c := c) (m - c) (fun e a b hin => by
      have h1 := cN_lt (p := fun c => inR N x y c) hin (show e < m by omega)
      have h2 := cN_mono (p := fun c => inR N x y c) (a := c) (e - c)
      rw [show c + (e - c) = e by omega] at h2
      omega)
    rw [show c + (m - c) = m by omega] at hsk
    rw [fX8_lookAt_l15, e4, if_pos ((iN_le (by omega) (by omega)).mpr (Nat.le_refl _)), hz, hsk]
  · rintro n j z hj ⟨c, hc, hcj, hz⟩
    right
    obtain ⟨d, hd, hdi, hdj⟩ := cN_sur (p := fun c => inR N x y c) (j := j) m hj
    have hcd : c ≤ d := by
      by_cases c9 : d < c
      · have := cN_lt (p := fun c => inR N x y c) hdi c9
        omega
      · omega
    have hsk := cfS_skip (N := N) (x := x) (y := y) (m := m) (t := t) (l := l) (p := p) (f := f) (c := c) (d - c) (fun e a b hin => by
      have h1 := cN_lt (p := fun c => inR N x y c) hin (show e < d by omega)
      have h2 := cN_mono (p := fun c => inR N x y c) (a := c) (e - c)
      rw [show c + (e - c) = e by omega] at h2
      omega)
    rw [show c + (d - c) = d by omega] at hsk
    rw [← hsk] at hz
    have e4 : (stC B z.1).1 65 4 = iN (cN (fun c => inR N x y c) m) := by rw [stC_j B _ (by omega)]; exact hg.2.1
    have gd := hg.2.2.2 d hd hdi
    rw [hdj] at gd
    have hal := f8_alike (roC_65 h _) hy (gat_stC hg z.1) hd hdi hp
    rw [hdj] at hal
    have htk := f8_take B z.1 (S := alS N x y d p l m) (fun k hk => by rw [bt_alS m hm, decide_eq_false (by omega)]) t p
    refine ⟨cfS N x y m t l p f (d + 1), ?_, d + 1, by omega, ?_, rfl⟩
    · show fX8_lookAt_l15 (iN p) (iN l) (iN t) (mkF p l) (fun A8 => some A8) (n + 1) z.2 (iN j) (stC B z.1) = _
      rw [fX8_lookAt_l15, e4, if_neg (by rw [iN_le (by omega) (by omega)]; omega), stC_k B _ (by decide), stC_k B _ (by decide), ruld_iN (by omega) (by decide), Option.bind_some, gd.1, e10_has (by omega), Option.bind_some, b2_ne, ruld_iN (by omega) (by decide), Option.bind_some, gd.2.2, hal, Option.bind_some, htk, Option.bind_some, iN_add1]
      have ecf : cfS N x y m t l p f (d + 1) = if inR N x y d ∧ ¬ bt z.2 d = true ∧ fuB N y d p l = true then (tkC t p (alS N x y d p l m) z.1, z.2 ||| alS N x y d p l m) else z := by
        rw [hz]
        rfl
      rw [ecf]
      by_cases c1 : bt z.2 d = true
      · rw [if_pos c1, ruB2_some, if_neg (fun h => h.2.1 c1)]
      · rw [if_neg c1]
        by_cases c2 : fuB N y d p l = true
        · rw [if_pos ((full_iff hp).mpr c2), ruB2_some, if_pos (show inR N x y d ∧ ¬ bt z.2 d = true ∧ fuB N y d p l = true from ⟨hdi, c1, c2⟩)]
        · rw [if_neg (fun h => c2 ((full_iff hp).mp h)), ruB2_some, if_neg (fun h => c2 h.2.2)]
    · show cN (fun c => inR N x y c) d + (if inR N x y d then 1 else 0) = j + 1
      rw [if_pos hdi, hdj]
