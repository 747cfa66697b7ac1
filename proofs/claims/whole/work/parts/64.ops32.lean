/-! LEVEL 2: the class: who is alike -/
theorem cN_sur {p : Nat → Prop} [DecidablePred p] {j : Nat} : ∀ m, j < cN p m → ∃ d, d < m ∧ p d ∧ cN p d = j
  | 0, h => by
    have h : j < 0 := h
    omega
  | m + 1, h => by
    have h : j < cN p m + (if p m then 1 else 0) := h
    by_cases c : j < cN p m
    · obtain ⟨d, h1, h2⟩ := cN_sur m c
      exact ⟨d, by omega, h2⟩
    · by_cases c2 : p m
      · rw [if_pos c2] at h
        exact ⟨m, by omega, c2, by omega⟩
      · rw [if_neg c2] at h
        omega
theorem cN_inj {p : Nat → Prop} [DecidablePred p] {d e : Nat} (hd : p d) (he : p e) (h : cN p d = cN p e) : d = e := by
  by_cases c : d < e
  · have := cN_lt hd c
    omega
  · by_cases c2 : e < d
    · have := cN_lt he c2
      omega
    · omega
theorem chA_rng {A : ruA} {N : Nat → Int32} (sh : shC A N) {c y : Nat} (hc : c < 24) (hy : y < 6) : ∀ q, q < 12 → -1 ≤ chA N y c q ∧ chA N y c q ≤ 3 := fun q hq => (sh.2.2.1 (6 * c + y) (by omega) q hq).2.1
theorem f8_alikeTo {A B : ruA} {N : Nat → Int32} {m : Nat} (h : roC A N m) {y : Nat} (hy : y < 6) {x : Int32} (hg : gat A B N x y m) {c p l : Nat} (hc : c < m) (hin : inR N x y c) (hp : p + l ≤ 12) : ∃ S, fX8_alikeTo (iN (cN (fun c => inR N x y c) c)) (iN p) (iN l) B = some S ∧ ∀ k, bt S k = decide (k < m ∧ inR N x y k ∧ c ≤ k ∧ alB N y c k p l = true) := by
  obtain ⟨sh, h5, e22, hm⟩ := h
  obtain ⟨g1, g2, g3, g4⟩ := hg
  have hcm := cN_lt (p := fun c => inR N x y c) hin hc
  have hnm : cN (fun c => inR N x y c) m ≤ m := cN_le m
  have gc := g4 c hc hin
  generalize hi : cN (fun c => inR N x y c) c = i at *
  generalize hn : cN (fun c => inR N x y c) m = n at *
  unfold fX8_alikeTo
  refine loop_gen (fun f j z => fX8_alikeTo_l19 (iN i) (mkL p l) B (fun v5 => some v5) f z (iN (i + j))) (n - i) (fun j z => ∀ k, bt z k = decide (k < m ∧ inR N x y k ∧ (i ≤ cN (fun c => inR N x y c) k ∧ cN (fun c => inR N x y c) k < i + j) ∧ alB N y c k p l = true)) (fun r => ∃ S, r = some S ∧ ∀ k, bt S k = decide (k < m ∧ inR N x y k ∧ c ≤ k ∧ alB N y c k p l = true)) ?_ ?_ ruF 0 0 (Nat.zero_le _) (by rw [ruF_eq]; omega) ?_
  · intro f z hz
    refine ⟨z, ?_, ?_⟩
    · rw [fX8_alikeTo_l19, g2, if_pos ((iN_le (by omega) (by omega)).mpr (by omega))]
    · intro k
      rw [hz k]
      congr 1
      apply propext
      constructor
      · rintro ⟨a1, a2, ⟨a3, a4⟩, a5⟩
        refine ⟨a1, a2, ?_, a5⟩
        by_cases c9 : k < c
        · have := cN_lt (p := fun c => inR N x y c) a2 c9
          omega
        · omega
      · rintro ⟨a1, a2, a3, a5⟩
        refine ⟨a1, a2, ⟨?_, ?_⟩, a5⟩
        · by_cases c9 : k = c
          · rw [c9, hi]
            exact Nat.le_refl _
          · have := cN_lt (p := fun c => inR N x y c) hin (show c < k by omega)
            omega
        · have := cN_lt (p := fun c => inR N x y c) a2 a1
          omega
  · intro f j z hj hz
    right
    obtain ⟨d, hd, hdi, hdj⟩ := cN_sur (p := fun c => inR N x y c) (j := i + j) m (by omega)
    have gd := g4 d hd hdi
    rw [hdj] at gd
    have hal := pk_alike (chA_rng sh (show c < 24 by omega) hy) (chA_rng sh (show d < 24 by omega) hy) hp
    have halB : lg_cmp ((pkL (chA N y c) 12 ^^^ pkL (chA N y d) 12) &&& mkL p l) 0 = 0 ↔ alB N y c d p l = true := by
      rw [hal, alB_iff]
      exact ⟨fun h r a b => (h r a b).symm, fun h r a b => (h r a b).symm⟩
    have hstep : fX8_alikeTo_l19 (iN i) (mkL p l) B (fun v5 => some v5) (f + 1) z (iN (i + j)) = fX8_alikeTo_l19 (iN i) (mkL p l) B (fun v5 => some v5) f (if alB N y c d p l = true then z ||| (1 <<< (iN d &&& 31)) else z) (iN (i + (j + 1))) := by
      rw [fX8_alikeTo_l19, g2, if_neg (by rw [iN_le (by omega) (by omega)]; omega), ruldL_iN (by omega) (by decide), ruldL_iN (by omega) (by decide), Option.bind_some, Option.bind_some, gc.2.1, gd.2.1, ruld_iN (by omega) (by decide), Option.bind_some, gd.1, iN_add1]
      by_cases c1 : alB N y c d p l = true
      · rw [if_pos (halB.mpr c1), Option.bind_some, if_pos c1]
        rfl
      · rw [if_neg (fun h => c1 (halB.mp h)), Option.bind_some, if_neg c1]
        rfl
    refine ⟨_, hstep, ?_⟩
    intro k
    by_cases e : k = d
    · subst e
      have hzf : bt z k = false := by
        rw [hz k, decide_eq_false]
        rintro ⟨-, -, ⟨-, a4⟩, -⟩
        omega
      by_cases c1 : alB N y c k p l = true
      · rw [if_pos c1, bt_or, bt_bit (by omega), decide_eq_true rfl, Bool.or_true, decide_eq_true ⟨hd, hdi, ⟨by omega, by omega⟩, c1⟩]
      · rw [if_neg c1, hzf, decide_eq_false (fun h => c1 h.2.2.2)]
    · have e9 : bt (if alB N y c d p l = true then z ||| (1 <<< (iN d &&& 31)) else z) k = bt z k := by
        split
        · rw [bt_or, bt_bit (by omega), decide_eq_false e, Bool.or_false]
        · rfl
      rw [e9, hz k]
      congr 1
      apply propext
      constructor
      · rintro ⟨a1, a2, ⟨a3, a4⟩, a5⟩
        exact ⟨a1, a2, ⟨a3, by omega⟩, a5⟩
      · rintro ⟨a1, a2, ⟨a3, a4⟩, a5⟩
        refine ⟨a1, a2, ⟨a3, ?_⟩, a5⟩
        by_cases e8 : cN (fun c => inR N x y c) k = i + j
        · exact absurd (cN_inj (p := fun c => inR N x y c) a2 hdi (e8.trans hdj.symm)) e
        · omega
  · intro k
    rw [bt_zero, decide_eq_false]
    rintro ⟨-, -, ⟨a3, a4⟩, -⟩
    omega
