/-! LEVEL 2: child -/
theorem loop_find {β : Type} (L : Nat → Nat → Option β) (hi : Nat) (p : Nat → Prop) (R0 R1 : Option β) (hexit : ∀ n, L (n + 1) hi = R0) (h1 : ∀ n q, q < hi → p q → L (n + 1) q = R1) (h0 : ∀ n q, q < hi → ¬ p q → L (n + 1) q = L n (q + 1)) : ∀ n, hi < n → (∀ q, q < hi → ¬ p q) ∧ L n 0 = R0 ∨ (∃ q, q < hi ∧ p q) ∧ L n 0 = R1 := by
  have key : ∀ (m n q : Nat), q + m = hi → m < n → (∀ j, q ≤ j → j < hi → ¬ p j) ∧ L n q = R0 ∨ (∃ j, j < hi ∧ p j) ∧ L n q = R1 := by
    intro m
    induction m with
    | zero =>
      intro n q h3 h4
      obtain ⟨n, rfl⟩ : ∃ k, n = k + 1 := ⟨n - 1, by omega⟩
      have e : q = hi := by omega
      subst e
      exact Or.inl ⟨fun j a b => by omega, hexit n⟩
    | succ m ih =>
      intro n q h3 h4
      obtain ⟨n, rfl⟩ : ∃ k, n = k + 1 := ⟨n - 1, by omega⟩
      by_cases hp : p q
      · exact Or.inr ⟨⟨q, by omega, hp⟩, h1 n q (by omega) hp⟩
      · rw [h0 n q (by omega) hp]
        rcases ih n (q + 1) (by omega) (by omega) with ⟨a, b⟩ | ⟨a, b⟩
        · refine Or.inl ⟨fun j c d => ?_, b⟩
          by_cases e : j = q
          · rw [e]
            exact hp
          · exact a j (by omega) d
        · exact Or.inr ⟨a, b⟩
  intro n hn
  rcases key hi n 0 (by omega) hn with ⟨a, b⟩ | ⟨a, b⟩
  · exact Or.inl ⟨fun q hq => a q (by omega) hq, b⟩
  · exact Or.inr ⟨a, b⟩
theorem f10_isTaken (A : ruA) {m : Nat} (hm : m ≤ 24) (e22 : A.1 2 2 = iN m) (x1 x2 : Int32) : (∀ q, q < m → ¬ (A.1 5 q = x1 ∧ A.1 6 q = x2)) ∧ fX5_isTaken x1 x2 A = some 0 ∨ (∃ q, q < m ∧ (A.1 5 q = x1 ∧ A.1 6 q = x2)) ∧ fX5_isTaken x1 x2 A = some 1 := by
  unfold fX5_isTaken
  refine loop_find (fun n q => fX5_isTaken_l2 x1 x2 A (some 1) (some 0) n (iN q)) m (fun q => A.1 5 q = x1 ∧ A.1 6 q = x2) (some 0) (some 1) ?_ ?_ ?_ ruF (by rw [ruF_eq]; omega)
  · intro n
    rw [fX5_isTaken_l2, e22, if_pos ((iN_le (by omega) (by omega)).mpr (Nat.le_refl _))]
  · intro n q hq hp
    rw [fX5_isTaken_l2, e22, if_neg (by rw [iN_le (by omega) (by omega)]; omega), ruld_iN (by omega) (by decide), Option.bind_some, if_pos hp.1, ruld_iN (by omega) (by decide), Option.bind_some, if_pos hp.2]
  · intro n q hq hp
    rw [fX5_isTaken_l2, e22, if_neg (by rw [iN_le (by omega) (by omega)]; omega), ruld_iN (by omega) (by decide), Option.bind_some, ruld_iN (by omega) (by decide), iN_add1]
    by_cases c1 : A.1 5 q = x1
    · rw [if_pos c1, Option.bind_some, if_neg (fun h => hp ⟨c1, h⟩)]
    · rw [if_neg c1]
theorem f11_taken {β : Type} (A : ruA) {m : Nat} (hm : m ≤ 24) (e2 : A.1 84 2 = iN m) (x1 x2 : Int32) (k1 k0 : Option β) : (∀ q, q < m → ¬ (A.1 84 (32 + 4 * q) = x1 ∧ A.1 84 (33 + 4 * q) = x2)) ∧ fX11_child_l28 x1 x2 A k1 k0 ruF 0 = k0 ∨ (∃ q, q < m ∧ (A.1 84 (32 + 4 * q) = x1 ∧ A.1 84 (33 + 4 * q) = x2)) ∧ fX11_child_l28 x1 x2 A k1 k0 ruF 0 = k1 := by
  have l2 : ruld (A.1 84) 4920 2 = some (iN m) := by rw [l2A, e2]
  refine loop_find (fun n q => fX11_child_l28 x1 x2 A k1 k0 n (iN q)) m (fun q => A.1 84 (32 + 4 * q) = x1 ∧ A.1 84 (33 + 4 * q) = x2) k0 k1 ?_ ?_ ?_ ruF (by rw [ruF_eq]; omega)
  · intro n
    rw [fX11_child_l28, l2, Option.bind_some, if_pos ((iN_le (by omega) (by omega)).mpr (Nat.le_refl _))]
  · intro n q hq hp
    have f0 : fX11_childOf (iN q) 0 A = some (A.1 84 (32 + 4 * q)) := f11_childOf A (j := 0) (by omega) (by decide)
    have f1 : fX11_childOf (iN q) 1 A = some (A.1 84 (33 + 4 * q)) := by
      have := f11_childOf A (c := q) (j := 1) (by omega) (by decide)
      rw [show 32 + 4 * q + 1 = 33 + 4 * q by omega] at this
      exact this
    rw [fX11_child_l28, l2, Option.bind_some, if_neg (by rw [iN_le (by omega) (by omega)]; omega), f0, Option.bind_some, if_pos hp.1, f1, Option.bind_some, if_pos hp.2]
  · intro n q hq hp
    have f0 : fX11_childOf (iN q) 0 A = some (A.1 84 (32 + 4 * q)) := f11_childOf A (j := 0) (by omega) (by decide)
    have f1 : fX11_childOf (iN q) 1 A = some (A.1 84 (33 + 4 * q)) := by
      have := f11_childOf A (c := q) (j := 1) (by omega) (by decide)
      rw [show 32 + 4 * q + 1 = 33 + 4 * q by omega] at this
      exact this
    rw [fX11_child_l28, l2, Option.bind_some, if_neg (by rw [iN_le (by omega) (by omega)]; omega), f0, Option.bind_some, f1, iN_add1]
    by_cases c1 : A.1 84 (32 + 4 * q) = x1
    · rw [if_pos c1, Option.bind_some, if_neg (fun h => hp ⟨c1, h⟩)]
    · rw [if_neg c1]
theorem f10_seated (A : ruA) {m : Nat} (hm : m < 24) (e22 : A.1 2 2 = iN m) (x1 x2 : Int32) : fX5_seated x1 x2 A = some (iN m, ruset (ruset (ruset A 5 m x1) 6 m x2) 2 2 (iN (m + 1))) := by
  simp (disch := omega) only [fX5_seated, e22, rust_iN, Option.bind_some, rs_ne, iN_add1]
/-- the six sheets of a new child -/
def nNone (N : Nat → Int32) (c : Nat) : Nat → (Nat → Int32)
  | 0 => N
  | y + 1 => upd (nNone N c y) (128 + 28 * (6 * c + y)) 0
theorem nNone_out {N : Nat → Int32} {c : Nat} : ∀ (y i : Nat), (∀ j, j < y → i ≠ 128 + 28 * (6 * c + j)) → nNone N c y i = N i
  | 0, _, _ => rfl
  | y + 1, i, h => by
    show upd (nNone N c y) _ 0 i = _
    rw [upd_ne _ _ (h y (by omega)), nNone_out y i (fun j hj => h j (by omega))]
theorem nNone_in {N : Nat → Int32} {c : Nat} : ∀ (y j : Nat), j < y → nNone N c y (128 + 28 * (6 * c + j)) = 0
  | 0, _, h => by omega
  | y + 1, j, h => by
    show upd (nNone N c y) _ 0 _ = _
    by_cases e : j = y
    · subst e
      exact upd_same _ _ _
    · rw [upd_ne _ _ (by omega)]
      exact nNone_in y j (by omega)
theorem f11_none {β : Type} (A : ruA) (N : Nat → Int32) {c : Nat} (hc : c < 24) (k : ruA → Option β) : fX11_child_l148 (iN c) k ruF 0 (rusetA A 84 N) = k (rusetA A 84 (nNone N c 6)) := by
  refine loop_inv (fun n q B => fX11_child_l148 (iN c) k n (iN q) B) 6 (fun q => rusetA A 84 (nNone N c q)) _ ?_ ?_ ruF 0 (by decide) (by decide)
  · intro n
    show fX11_child_l148 (iN c) k (n + 1) (iN 6) _ = _
    rw [fX11_child_l148, if_pos (by decide)]
  · intro n q hq
    show fX11_child_l148 (iN c) k (n + 1) (iN q) _ = _
    rw [fX11_child_l148, li6, if_neg (by rw [iN_le (by omega) (by omega)]; omega), e11_sheetAt, Option.bind_some, rust84 A _ 0 (by omega), Option.bind_some, iN_add1]
    rfl
def nChild (N : Nat → Int32) (m : Nat) (x1 x2 : Int32) : Nat → Int32 := upd (nNone (upd (upd (upd (upd N (32 + 4 * m) x1) (33 + 4 * m) x2) (34 + 4 * m) 0) (35 + 4 * m) 0) m 6) 2 (iN (m + 1))
theorem f11_child_in (B : ruA) (N : Nat → Int32) {m : Nat} (hm : m < 24) (e84 : B.1 84 = N) (e2 : N 2 = iN m) (x1 x2 : Int32) : ((ruld (B.1 84) 4920 (2 : Int32)).bind fun v10 => (if v10 = (24 : Int32) then ruB2 (fX11_finding (-1000002 : Int32) B) fun v20 A21 => some (v20, A21) else (rust B 84 4920 ((32 : Int32) + ((4 : Int32) * v10)) x1).bind fun A11 => (rust A11 84 4920 (((32 : Int32) + ((4 : Int32) * v10)) + (1 : Int32)) x2).bind fun A12 => (rust A12 84 4920 (((32 : Int32) + ((4 : Int32) * v10)) + (2 : Int32)) (0 : Int32)).bind fun A13 => (rust A13 84 4920 (((32 : Int32) + ((4 : Int32) * v10)) + (3 : Int32)) (0 : Int32)).bind fun A14 => fX11_child_l148 v10 (fun A17 => (ruld (A17.1 84) 4920 (2 : Int32)).bind fun v18 => (rust A17 84 4920 (2 : Int32) (v18 + (1 : Int32))).bind fun A19 => some (v10, A19)) ruF (0 : Int32) A14)) = some (iN m, rusetA B 84 (nChild N m x1 x2)) := by
  have l2 : ruld (B.1 84) 4920 2 = some (iN m) := by rw [l2A, e84, e2]
  have a0 : (32 : Int32) + 4 * iN m = iN (32 + 4 * m) := by rw [li32, li4, iN_mul, iN_add]
  have w0 : rust B 84 4920 (iN (32 + 4 * m)) x1 = some (rusetA B 84 (upd N (32 + 4 * m) x1)) := by
    have := rust84 B N (i := 32 + 4 * m) x1 (by omega)
    rw [self84 e84] at this
    exact this
  have a1 : iN (32 + 4 * m) + 1 = iN (33 + 4 * m) := by rw [iN_add1]; congr 1; omega
  have a2 : iN (32 + 4 * m) + 2 = iN (34 + 4 * m) := by rw [li2, iN_add]; congr 1; omega
  have a3 : iN (32 + 4 * m) + 3 = iN (35 + 4 * m) := by rw [li3, iN_add]; congr 1; omega
  have n24 : ¬ iN m = 24 := by
    rw [li24, iN_inj (by omega) (by omega)]
    omega
  rw [l2, Option.bind_some, if_neg n24, a0, w0, Option.bind_some, a1, rust84 B _ x2 (by omega), Option.bind_some, a2, rust84 B _ 0 (by omega), Option.bind_some, a3, rust84 B _ 0 (by omega), Option.bind_some, f11_none B _ hm]
  have e9 : nNone (upd (upd (upd (upd N (32 + 4 * m) x1) (33 + 4 * m) x2) (34 + 4 * m) 0) (35 + 4 * m) 0) m 6 2 = iN m := by
    rw [nNone_out 6 2 (fun j hj => by omega), upd_ne _ _ (by omega), upd_ne _ _ (by omega), upd_ne _ _ (by omega), upd_ne _ _ (by omega), e2]
  rw [ruld84_2, Option.bind_some, e9, iN_add1]
  have w9 := rust84 B (nNone (upd (upd (upd (upd N (32 + 4 * m) x1) (33 + 4 * m) x2) (34 + 4 * m) 0) (35 + 4 * m) 0) m 6) (i := 2) (iN (m + 1)) (by omega)
  rw [show (2 : Int32) = iN 2 from rfl, w9, Option.bind_some]
  rfl
theorem nChild_at (N : Nat → Int32) (m : Nat) (x1 x2 : Int32) : ∀ i, i ≠ 2 → i ≠ 32 + 4 * m → i ≠ 33 + 4 * m → i ≠ 34 + 4 * m → i ≠ 35 + 4 * m → (∀ j, j < 6 → i ≠ 128 + 28 * (6 * m + j)) → nChild N m x1 x2 i = N i := by
  intro i h1 h2 h3 h4 h5 h6
  unfold nChild
  rw [upd_ne _ _ h1, nNone_out 6 i h6, upd_ne _ _ h5, upd_ne _ _ h4, upd_ne _ _ h3, upd_ne _ _ h2]
theorem op_child {W : ruWy} {A : ruA} (hI : Inv W A) (x1 x2 : Int32) : Op2 W (fX10_child x1 x2) (fX11_child x1 x2) A := by
  obtain ⟨⟨hn, hq, hc, hs, hb, hr, hh, hf, hw⟩, hK, hMf, hMt, hMs⟩ := id hI
  obtain ⟨m0, m1, m2, m3, m4, m5⟩ := id hn
  have q0 : A.1 2 0 = A.1 84 0 := m0.1
  have q1 : A.1 2 1 = A.1 84 1 := m1.1
  have q2 : A.1 2 2 = A.1 84 2 := m2.1
  have q3 : A.1 14 0 = A.1 84 3 := m3.1
  have q4 : A.1 23 0 = A.1 84 4 := m4.1
  have q5 : A.1 29 0 = A.1 84 5 := m5.1
  by_cases h1 : 0 ≤ x1 ∧ x1 ≤ A.1 84 1 - 1
  · by_cases h2 : 0 ≤ x2 ∧ x2 ≤ 19
    · obtain ⟨-, ec, hc24⟩ := id m2
      generalize hm9 : cn (A.1 84) 2 = m at *
      have t10 := f10_isTaken A hc24 (q2.trans ec) x1 x2
      have i1 : fX10_isRoom x1 A = some (b2 (0 ≤ x1 ∧ x1 ≤ A.1 84 1 - 1)) := by rw [e10_isRoom, q1]
      have same : ∀ q, q < m → ((A.1 5 q = x1 ∧ A.1 6 q = x2) ↔ (A.1 84 (32 + 4 * q) = x1 ∧ A.1 84 (33 + 4 * q) = x2)) := by
        intro q hq9
        rw [show A.1 5 q = _ from (hc q (by omega)).1, show A.1 6 q = _ from (hc q (by omega)).2.1]
      rcases t10 with ⟨nt, f0⟩ | ⟨⟨q, hq9, hp⟩, f1⟩
      · by_cases h3 : m < 24
        · generalize hA1 : ruset (ruset (ruset A 5 m x1) 6 m x2) 2 2 (iN (m + 1)) = A1
          have hse := f10_seated A h3 (q2.trans ec) x1 x2
          rw [hA1] at hse
          have e84 : A1.1 84 = A.1 84 := by rw [← hA1]; rfl
          have eK : ∀ k, k ≠ 2 ∧ k ≠ 5 ∧ k ≠ 6 → A1.1 k = A.1 k := by
            intro k hk
            rw [← hA1]
            simp (disch := omega) only [rs_eq, rs_ne, upd_same, upd_ne, Nat.reduceAdd]
          have a5 : A1.1 5 = upd (A.1 5) m x1 := by rw [← hA1]; rfl
          have a6 : A1.1 6 = upd (A.1 6) m x2 := by rw [← hA1]; rfl
          have a2 : A1.1 2 = upd (A.1 2) 2 (iN (m + 1)) := by rw [← hA1]; rfl
          clear hA1
          refine ⟨iN m, A1, rusetA A1 84 (nChild (A.1 84) m x1 x2), ?_, ?_, ?_⟩
          · have hlt : A.1 2 2 < 24 := by
              rw [q2, ec]
              exact (iN_lt (b := 24) (by omega) (by decide)).mpr h3
            unfold fX10_child
            rw [i1, Option.bind_some, b2_pos h1, ite10, e10_isWithin, Option.bind_some, b2_pos h2, ite10, f0, Option.bind_some, ite00, if_pos hlt, hse, ruB2_some]
          · have i2 : fX11_is x1 1 A1 = some (b2 (0 ≤ x1 ∧ x1 ≤ A.1 84 1 - 1)) := by rw [e11_is1, e84]
            unfold fX11_child
            rw [i2, Option.bind_some, b2_pos h1, ite10, e11_within, Option.bind_some, b2_pos h2, ite10]
            rcases f11_taken A1 hc24 (by rw [e84]; exact ec) x1 x2 (ruB2 (fX11_finding (-1000005 : Int32) A1) fun v8 A9 => some (v8, A9)) _ with ⟨a, b⟩ | ⟨⟨q, hq9, hp⟩, b⟩
            · rw [b]
              exact f11_child_in A1 (A.1 84) h3 e84 ec x1 x2
            · rw [e84] at hp
              exact absurd ((same q hq9).mpr hp) (nt q hq9)
          · have eN := nChild_at (A.1 84) m x1 x2
            generalize hN2 : nChild (A.1 84) m x1 x2 = N2 at *
            have v2 : N2 2 = iN (m + 1) := by rw [← hN2]; exact upd_same _ _ _
            have v32 : N2 (32 + 4 * m) = x1 := by
              rw [← hN2]
              unfold nChild
              rw [upd_ne _ _ (by omega), nNone_out 6 _ (fun j hj => by omega), upd_ne _ _ (by omega), upd_ne _ _ (by omega), upd_ne _ _ (by omega), upd_same]
            have v33 : N2 (33 + 4 * m) = x2 := by
              rw [← hN2]
              unfold nChild
              rw [upd_ne _ _ (by omega), nNone_out 6 _ (fun j hj => by omega), upd_ne _ _ (by omega), upd_ne _ _ (by omega), upd_same]
            have v34 : N2 (34 + 4 * m) = 0 := by
              rw [← hN2]
              unfold nChild
              rw [upd_ne _ _ (by omega), nNone_out 6 _ (fun j hj => by omega), upd_ne _ _ (by omega), upd_same]
            have v35 : N2 (35 + 4 * m) = 0 := by
              rw [← hN2]
              unfold nChild
              rw [upd_ne _ _ (by omega), nNone_out 6 _ (fun j hj => by omega), upd_same]
            have vth : ∀ j, j < 6 → N2 (128 + 28 * (6 * m + j)) = 0 := by
              intro j hj
              rw [← hN2]
              unfold nChild
              rw [upd_ne _ _ (by omega), nNone_in 6 j hj]
            clear hN2
            have e9 : cn N2 2 = m + 1 := cn_iN v2 (by omega)
            have zK : ∀ k, k ≠ 2 ∧ k ≠ 5 ∧ k ≠ 6 ∧ k ≠ 84 → (rusetA A1 84 N2).1 k = A.1 k := fun k hk => by rw [rsA_ne _ _ (by omega), eK k (by omega)]
            have z2 : (rusetA A1 84 N2).1 2 = upd (A.1 2) 2 (iN (m + 1)) := by rw [rsA_ne _ _ (by omega), a2]
            have z5 : (rusetA A1 84 N2).1 5 = upd (A.1 5) m x1 := by rw [rsA_ne _ _ (by omega), a5]
            have z6 : (rusetA A1 84 N2).1 6 = upd (A.1 6) m x2 := by rw [rsA_ne _ _ (by omega), a6]
            have z84 : (rusetA A1 84 N2).1 84 = N2 := rsA_same _ _ _
            generalize rusetA A1 84 N2 = A2 at *
            refine hI.now ⟨fun k hk => zK k (by omega), ⟨by rw [zK 0 (by omega)], by rw [zK 0 (by omega)], by rw [zK 0 (by omega)]⟩, ⟨by rw [zK 83 (by omega)], by rw [zK 83 (by omega)], by rw [zK 83 (by omega)]⟩⟩ ?_
            rw [z84]
            have cN : ∀ i, i ≠ 2 → i < 6 → N2 i = A.1 84 i := fun i a b => eN i a (by omega) (by omega) (by omega) (by omega) (fun j hj => by omega)
            refine ⟨⟨?_, ?_, ⟨?_, by rw [e9]; exact v2, by rw [e9]; omega⟩, ?_, ?_, ?_⟩, hq.congr ⟨zK _ (by omega), zK _ (by omega)⟩ fun i a b => eN i (by omega) (by omega) (by omega) (by omega) (by omega) (fun j hj => by omega), ?_, ?_, hb.congr ⟨zK _ (by omega), zK _ (by omega)⟩ fun i a j b => eN _ (by omega) (by omega) (by omega) (by omega) (by omega) (fun j hj => by omega), hr.congr (zK _ (by omega)) fun i a j b => eN _ (by omega) (by omega) (by omega) (by omega) (by omega) (fun j hj => by omega), hh.congr ⟨zK _ (by omega), zK _ (by omega), zK _ (by omega), zK _ (by omega)⟩ (cN 4 (by omega) (by omega)) m4.2.2 fun i a b => eN _ (by omega) (by omega) (by omega) (by omega) (by omega) (fun j hj => by omega), hf.congr ⟨zK _ (by omega), zK _ (by omega)⟩ (cN 5 (by omega) (by omega)) m5.2.2 fun i a b => eN _ (by omega) (by omega) (by omega) (by omega) (by omega) (fun j hj => by omega), hw.congr (fun k a b => zK _ (by omega)) (cN 3 (by omega) (by omega)) m3.2.2 fun i a b => eN _ (by omega) (by omega) (by omega) (by omega) (by omega) (fun j hj => by omega)⟩
            · rw [show A2.1 (1 + 1) = upd (A.1 2) 2 (iN (m + 1)) from z2, upd_ne _ _ (by omega), cN 0 (by omega) (by omega), cn_congr (cN 0 (by omega) (by omega))]; exact m0
            · rw [show A2.1 (1 + 1) = upd (A.1 2) 2 (iN (m + 1)) from z2, upd_ne _ _ (by omega), cN 1 (by omega) (by omega), cn_congr (cN 1 (by omega) (by omega))]; exact m1
            · rw [show A2.1 (1 + 1) = upd (A.1 2) 2 (iN (m + 1)) from z2, upd_same, v2]
            · rw [zK _ (by omega), cN 3 (by omega) (by omega), cn_congr (cN 3 (by omega) (by omega))]; exact m3
            · rw [zK _ (by omega), cN 4 (by omega) (by omega), cn_congr (cN 4 (by omega) (by omega))]; exact m4
            · rw [zK _ (by omega), cN 5 (by omega) (by omega), cn_congr (cN 5 (by omega) (by omega))]; exact m5
            · intro c hc9
              have h9 := hc c hc9
              rw [show A2.1 (1 + 4) = upd (A.1 5) m x1 from z5, show A2.1 (1 + 5) = upd (A.1 6) m x2 from z6, zK _ (by omega), zK _ (by omega), e9]
              by_cases e : c = m
              · subst e
                have h10 := h9.2.2.2.2 (by omega)
                rw [upd_same, upd_same, v32, v33, v34, v35]
                exact ⟨rfl, rfl, h9.2.2.1.trans h10.1, h9.2.2.2.1.trans h10.2, by omega⟩
              · rw [upd_ne _ _ e, upd_ne _ _ e, eN _ (by omega) (by omega) (by omega) (by omega) (by omega) (fun j hj => by omega), eN _ (by omega) (by omega) (by omega) (by omega) (by omega) (fun j hj => by omega), eN _ (by omega) (by omega) (by omega) (by omega) (by omega) (fun j hj => by omega), eN _ (by omega) (by omega) (by omega) (by omega) (by omega) (fun j hj => by omega)]
                exact ⟨h9.1, h9.2.1, h9.2.2.1, h9.2.2.2.1, fun h => h9.2.2.2.2 (by omega)⟩
            · intro s hs9
              have h9 := hs s hs9
              rw [zK _ (by omega), e9]
              by_cases e : 6 * m ≤ s ∧ s < 6 * m + 6
              · obtain ⟨j, rfl⟩ : ∃ j, s = 6 * m + j := ⟨s - 6 * m, by omega⟩
                rw [vth j (by omega)]
                exact ⟨h9.1.trans (h9.2.2 (by omega)), Or.inl rfl, fun _ => rfl⟩
              · rw [eN _ (by omega) (by omega) (by omega) (by omega) (by omega) (fun j hj => by omega)]
                exact ⟨h9.1, h9.2.1, fun h => h9.2.2 (by omega)⟩
        · have h6 : m = 24 := by omega
          subst h6
          have hlt : ¬ A.1 2 2 < 24 := by
            rw [q2, ec]
            decide
          refine Op_find hI (-1000002) 1 (by decide) (by decide) ?_ ?_
          · unfold fX10_child
            rw [i1, Option.bind_some, b2_pos h1, ite10, e10_isWithin, Option.bind_some, b2_pos h2, ite10, f0, Option.bind_some, ite00, if_neg hlt]
          · unfold fX11_child
            rw [e11_is1f, Option.bind_some, b2_pos h1, ite10, e11_within, Option.bind_some, b2_pos h2, ite10]
            rcases f11_taken (fndC A 1) (m := 24) (by omega) ec x1 x2 (ruB2 (fX11_finding (-1000005 : Int32) (fndC A 1)) fun v8 A9 => some (v8, A9)) _ with ⟨a, b⟩ | ⟨⟨q, hq9, hp⟩, b⟩
            · rw [b, l2A, Option.bind_some, fndC_84, ec, if_pos (show iN 24 = 24 from rfl)]
            · exact absurd ((same q hq9).mpr hp) (nt q hq9)
      · refine Op_find hI (-1000005) 4 (by decide) (by decide) ?_ ?_
        · unfold fX10_child
          rw [i1, Option.bind_some, b2_pos h1, ite10, e10_isWithin, Option.bind_some, b2_pos h2, ite10, f1, Option.bind_some, ite10]
        · unfold fX11_child
          rw [e11_is1f, Option.bind_some, b2_pos h1, ite10, e11_within, Option.bind_some, b2_pos h2, ite10]
          rcases f11_taken (fndC A 4) hc24 ec x1 x2 (ruB2 (fX11_finding (-1000005 : Int32) (fndC A 4)) fun v8 A9 => some (v8, A9)) _ with ⟨a, b⟩ | ⟨-, b⟩
          · exact absurd ((same q hq9).mp hp) (a q hq9)
          · rw [b]
    · refine Op_find hI (-1000001) 0 (by decide) (by decide) ?_ ?_
      · simp only [fX10_child, e10_isWithin, e10_isQuestion, e10_isYear, e10_isKind, e10_isSlip, e10_isRoom, e10_isChild, e10_isWay, e10_areHours, q1, q2, q3, Option.bind_some, b2_pos h1, b2_neg h2, ite00, ite10, if_true, if_false]
      · simp only [fX11_child, e11_within, e11_isQuestion, e11_isYear, e11_isSlip, e11_is1f, e11_is2f, e11_is3f, e11_areHours, fndC_84, fndC_83, fndC_88, fndC_89, fndC_90, Option.bind_some, b2_pos h1, b2_neg h2, ite00, ite10, if_true, if_false]
  · refine Op_find hI (-1000001) 0 (by decide) (by decide) ?_ ?_
    · simp only [fX10_child, e10_isWithin, e10_isQuestion, e10_isYear, e10_isKind, e10_isSlip, e10_isRoom, e10_isChild, e10_isWay, e10_areHours, q1, q2, q3, Option.bind_some, b2_neg h1, ite00, ite10, if_true, if_false]
    · simp only [fX11_child, e11_within, e11_isQuestion, e11_isYear, e11_isSlip, e11_is1f, e11_is2f, e11_is3f, e11_areHours, fndC_84, fndC_83, fndC_88, fndC_89, fndC_90, Option.bind_some, b2_neg h1, ite00, ite10, if_true, if_false]
