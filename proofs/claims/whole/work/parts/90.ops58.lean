/-! LEVEL 2: way, the call -/
theorem op_way {A : ruA} (hI : Inv wyW A) : Op2 wyW fX10_way fX11_way A := by
  obtain ⟨⟨hn, hq, hc, hs, hb, hr, hh, hf, hw⟩, hK, hMf, hMt, hMs⟩ := id hI
  obtain ⟨m0, m1, m2, m3, m4, m5⟩ := id hn
  have q0 : A.1 2 0 = A.1 84 0 := m0.1
  have q1 : A.1 2 1 = A.1 84 1 := m1.1
  have q2 : A.1 2 2 = A.1 84 2 := m2.1
  have q3 : A.1 14 0 = A.1 84 3 := m3.1
  have q4 : A.1 23 0 = A.1 84 4 := m4.1
  have q5 : A.1 29 0 = A.1 84 5 := m5.1
  obtain ⟨-, e3, hw6⟩ := m3
  generalize hwg : cn (A.1 84) 3 = w at *
  by_cases h : w < 6
  · obtain ⟨⟨t1, t2, t3⟩, t4⟩ := hMt
    generalize cn (A.1 83) 6 = n at *
    have e9 : A.1 0 9 = iN n := t1.trans t2
    obtain ⟨ok, s1, E, z1, z2, zC, zR⟩ := read_both (T := A.1 87) (n := n) t3 (fun i hi => (t4 i hi).2)
    obtain ⟨v, F', c1, c2, c3⟩ := zC (ruset A 0 9 0) 72 71 rfl (by decide) rfl (by decide) (fun i hi => by rw [rs_ne _ _ _ (by decide)]; exact (t4 i hi).1)
    have hfa : fX4_faultOf (iN n) (ruset A 0 9 0) = some (F' 6, stQ (rusetm (rusett (ruset A 0 9 0) 72) 71) F') := by
      unfold fX4_faultOf
      rw [c1, ruB2_some, stQ_70]
    generalize hA3 : stQ (rusetm (rusett (ruset A 0 9 0) 72) 71) F' = A3 at *
    have k3 : ∀ k, k ≠ 0 ∧ k ≠ 70 → A3.1 k = A.1 k := fun k hk => by
      rw [← hA3, stQ_k _ _ hk.2]
      exact rs_ne _ _ _ hk.1
    have k0 : ∀ j, A3.1 0 j = if j = 9 then 0 else A.1 0 j := fun j => by
      rw [← hA3, stQ_k _ _ (by decide)]
      show (ruset A 0 9 0).1 0 j = _
      rw [rs_eq, upd_at]
    clear hA3
    have hcls : fX10_way A = if F' 6 < 0 then ruB2 (fX9_taken (iN n) A3) fun v4 A5 => some (v4, A5) else some ((-1 : Int32) - F' 6, A3) := by
      unfold fX10_way
      rw [q3, e3, li6, if_pos ((iN_lt (by omega) (by omega)).mpr h), Option.bind_some, e9, hfa, ruB2_some]
    have href : ∀ X : ruA, (∀ k, k = 83 ∨ k = 87 ∨ (k = 84) → X.1 k = A.1 k) → ∃ G' H', fX11_way X = wayR (stP X G' H') ∧ kpG (X.1 83) G' ∧ G' 20 = iN E.length ∧ (∀ i, i < E.length → H' i = E.getD i 0) ∧ G' 15 = iN s1 ∧ (ok = true → G' 17 = 0 ∧ G' 14 = 0) ∧ (ok = false → G' 17 = 1 ∨ (G' 17 = 0 ∧ ¬ G' 14 = 0)) := by
      intro X hX
      have x83 := hX 83 (Or.inl rfl)
      obtain ⟨G', H', r1, r2, r3⟩ := zR X (upd (upd (upd (upd (X.1 83) 16 0) 17 0) 18 0) 20 0) (X.1 92) (fun i hi => by rw [hX 87 (Or.inr (Or.inl rfl))]) (by simp (disch := omega) only [upd_same, upd_ne]; rw [x83]; exact t2) (by simp (disch := omega) only [upd_same, upd_ne]) (by simp (disch := omega) only [upd_same, upd_ne]) (by simp (disch := omega) only [upd_same, upd_ne]) (by simp (disch := omega) only [upd_same, upd_ne])
      refine ⟨G', H', way_in h (by rw [hX 84 (Or.inr (Or.inr rfl))]; exact e3) r1, fun j hj => ?_, r3⟩
      rw [r2 j hj, upd_ne _ _ hj.2.2.2.2.2, upd_ne _ _ hj.2.2.2.2.1, upd_ne _ _ hj.2.2.2.1, upd_ne _ _ hj.2.2.1]
    cases ok with
    | false =>
      have c3 := c3 rfl
      obtain ⟨G', H', r1, r2, -, -, r5, -, r7⟩ := href A3 (fun k hk => k3 k (by omega))
      refine ⟨(-1 : Int32) - iN s1, A3, stP A3 (upd (upd G' 17 1) 6 0) H', ?_, ?_, ?_⟩
      · rw [hcls, c3, if_neg (iN_lt_zero (by omega))]
      · rw [r1, wayR_bad (r7 rfl), r5]
      · generalize hC : stP A3 (upd (upd G' 17 1) 6 0) H' = C
        have kC : ∀ k, k ≠ 0 ∧ k ≠ 70 ∧ k ≠ 83 ∧ k ≠ 92 → C.1 k = A.1 k := fun k hk => by
          rw [← hC, stP_k _ _ _ hk.2.2]
          exact k3 k ⟨hk.1, hk.2.1⟩
        have k83 : ∀ j, j ≠ 6 ∧ j ≠ 14 ∧ j ≠ 15 ∧ j ≠ 16 ∧ j ≠ 17 ∧ j ≠ 18 ∧ j ≠ 20 → C.1 83 j = A.1 83 j := fun j hj => by
          rw [← hC, stP_83, upd_ne _ _ hj.1, upd_ne _ _ hj.2.2.2.2.1, r2 j hj.2, k3 83 (by decide)]
        refine hI.taped (fun k hk => kC k (by omega)) ⟨?_, ?_, ?_⟩ ⟨k83 2 (by decide), k83 3 (by decide), ?_⟩ ?_
        · rw [← hC, stP_k _ _ _ (by decide), k0, if_neg (by decide)]
        · rw [← hC, stP_k _ _ _ (by decide), k0, if_neg (by decide)]
        · rw [← hC, stP_k _ _ _ (by decide), k0, if_pos rfl]
        · rw [← hC, stP_83, upd_same]
        · rw [kC 84 (by decide)]
          exact hI.1.congr fun k a b => kC k (by omega)
    | true =>
      obtain ⟨c2, -⟩ := c2 rfl
      have htk := f9_taken A3 h t3 (by rw [k3 14 (by decide)]; exact q3.trans e3)
      generalize hX : ruset (ruset (rusetA A3 (16 + w) (va_cpy (A3.1 72) (A3.1 (16 + w)) 0 0 n)) 22 w (iN n)) 14 0 (iN (w + 1)) = X at *
      have kX : ∀ k, k ≠ 0 ∧ k ≠ 70 ∧ k ≠ 14 ∧ k ≠ 22 ∧ k ≠ 16 + w → X.1 k = A.1 k := fun k hk => by
        rw [← hX, rs_ne _ _ _ hk.2.2.1, rs_ne _ _ _ hk.2.2.2.1, rsA_ne _ _ hk.2.2.2.2]
        exact k3 k ⟨hk.1, hk.2.1⟩
      have x0 : ∀ j, X.1 0 j = if j = 9 then 0 else A.1 0 j := fun j => by
        rw [← hX, rs_ne _ _ _ (by decide), rs_ne _ _ _ (by decide), rsA_ne _ _ (by omega)]
        exact k0 j
      have x14 : X.1 14 0 = iN (w + 1) := by rw [← hX, rs_eq, upd_same]
      have x22 : ∀ j, X.1 22 j = if j = w then iN n else A.1 22 j := fun j => by
        rw [← hX, rs_ne _ _ _ (by decide), rs_eq, upd_at, rsA_ne _ _ (by omega), k3 22 (by decide)]
      have xT : ∀ i, i < n → X.1 (16 + w) i = A.1 87 i := fun i hi => by
        rw [← hX, rs_ne _ _ _ (by omega), rs_ne _ _ _ (by omega), rsA_same]
        show (if 0 ≤ i ∧ i < 0 + n then A3.1 72 (0 + (i - 0)) else _) = _
        rw [if_pos (by omega), Nat.zero_add, Nat.sub_zero, k3 72 (by decide)]
        exact (t4 i hi).1
      clear hX
      obtain ⟨G', H', r1, r2, r3, r4, -, r6, -⟩ := href X (fun k hk => kX k (by omega))
      obtain ⟨r6, r7⟩ := r6 rfl
      have hg := wayR_good (X := X) (H' := H') h (show E.length ≤ 100 by omega) (by rw [kX 84 (by omega)]; exact e3) r6 r7 r3
      refine ⟨iN w, X, _, ?_, r1.trans hg, ?_⟩
      · rw [hcls, c2, if_pos (by decide), htk, ruB2_some]
      · generalize hN3 : upd (cpS (upd (X.1 84) (4160 + 104 * w) (iN E.length)) (4160 + 104 * w) H' E.length) 3 (iN (w + 1)) = N3
        generalize hC : rusetA (stP X (upd G' 6 0) H') 84 N3 = C
        have n3 : N3 3 = iN (w + 1) := by rw [← hN3, upd_same]
        have nE : N3 (4160 + 104 * w) = iN E.length := by
          rw [← hN3, upd_ne _ _ (by omega), cpS_out _ (by omega), upd_same]
        have nS : ∀ i, i < E.length → N3 (4160 + 104 * w + 1 + i) = E.getD i 0 := fun i hi => by
          rw [← hN3, upd_ne _ _ (by omega), cpS_in _ hi]
          exact r4 i hi
        have nO : ∀ j, j ≠ 3 → (j < 4160 + 104 * w ∨ 4160 + 104 * w + 104 ≤ j) → N3 j = A.1 84 j := fun j hj hj2 => by
          rw [← hN3, upd_ne _ _ hj, cpS_out _ (by omega), upd_ne _ _ (by omega), kX 84 (by omega)]
        clear hN3
        have cN3 : C.1 84 = N3 := by rw [← hC, rsA_same]
        have kC : ∀ k, k ≠ 0 ∧ k ≠ 70 ∧ k ≠ 83 ∧ k ≠ 84 ∧ k ≠ 92 ∧ k ≠ 14 ∧ k ≠ 22 ∧ k ≠ 16 + w → C.1 k = A.1 k := fun k hk => by
          rw [← hC, rsA_ne _ _ hk.2.2.2.1, stP_k _ _ _ ⟨hk.2.2.1, hk.2.2.2.2.1⟩]
          exact kX k ⟨hk.1, hk.2.1, hk.2.2.2.2.2⟩
        have kD : ∀ k, k ≠ 83 ∧ k ≠ 84 ∧ k ≠ 92 → C.1 k = X.1 k := fun k hk => by
          rw [← hC, rsA_ne _ _ hk.2.1, stP_k _ _ _ ⟨hk.1, hk.2.2⟩]
        have k83 : ∀ j, j ≠ 6 ∧ j ≠ 14 ∧ j ≠ 15 ∧ j ≠ 16 ∧ j ≠ 17 ∧ j ≠ 18 ∧ j ≠ 20 → C.1 83 j = A.1 83 j := fun j hj => by
          rw [← hC, rsA_ne _ _ (by decide), stP_83, upd_ne _ _ hj.1, r2 j hj.2, kX 83 (by omega)]
        have k836 : C.1 83 6 = 0 := by rw [← hC, rsA_ne _ _ (by decide), stP_83, upd_same]
        clear hC
        refine hI.taped (fun k hk => kC k (by omega)) ⟨?_, ?_, ?_⟩ ⟨k83 2 (by decide), k83 3 (by decide), k836⟩ ?_
        · rw [kD 0 (by decide), x0, if_neg (by decide)]
        · rw [kD 0 (by decide), x0, if_neg (by decide)]
        · rw [kD 0 (by decide), x0, if_pos rfl]
        · rw [cN3]
          have cn3 : cn N3 3 = w + 1 := cn_iN n3 (by omega)
          refine ⟨⟨?_, ?_, ?_, ⟨?_, by rw [cn3]; exact n3, by rw [cn3]; omega⟩, ?_, ?_⟩, ?_, ?_, ?_, ?_, ?_, ?_, ?_, ?_⟩
          · rw [kC _ (by omega), nO 0 (by omega) (by omega), cn_congr (nO 0 (by omega) (by omega))]
            exact m0
          · rw [kC _ (by omega), nO 1 (by omega) (by omega), cn_congr (nO 1 (by omega) (by omega))]
            exact m1
          · rw [kC _ (by omega), nO 2 (by omega) (by omega), cn_congr (nO 2 (by omega) (by omega))]
            exact m2
          · rw [n3, kD _ (by omega)]
            exact x14
          · rw [kC _ (by omega), nO 4 (by omega) (by omega), cn_congr (nO 4 (by omega) (by omega))]
            exact m4
          · rw [kC _ (by omega), nO 5 (by omega) (by omega), cn_congr (nO 5 (by omega) (by omega))]
            exact m5
          · exact hq.congr ⟨kC _ (by omega), kC _ (by omega)⟩ fun i a b => nO i (by omega) (by omega)
          · exact hc.congr ⟨kC _ (by omega), kC _ (by omega), kC _ (by omega), kC _ (by omega)⟩ (nO 2 (by omega) (by omega)) fun i a b => nO i (by omega) (by omega)
          · exact hs.congr (kC _ (by omega)) (nO 2 (by omega) (by omega)) fun i a => nO _ (by omega) (by omega)
          · exact hb.congr ⟨kC _ (by omega), kC _ (by omega)⟩ fun i a j b => nO _ (by omega) (by omega)
          · exact hr.congr (kC _ (by omega)) fun i a j b => nO _ (by omega) (by omega)
          · exact hh.congr ⟨kC _ (by omega), kC _ (by omega), kC _ (by omega), kC _ (by omega)⟩ (nO 4 (by omega) (by omega)) m4.2.2 fun i a b => nO i (by omega) (by omega)
          · exact hf.congr ⟨kC _ (by omega), kC _ (by omega)⟩ (nO 5 (by omega) (by omega)) m5.2.2 fun i a b => nO i (by omega) (by omega)
          · intro u hu
            rw [cn3] at hu
            by_cases eu : u = w
            · subst eu
              refine ⟨n, E, t3, ?_, by omega, ?_, fun i hi => ?_, fun B tc mc b1 b2 b3 b4 b5 => ?_⟩
              · rw [kD _ (by omega)]
                exact (x22 u).trans (if_pos rfl)
              · unfold cutF
                rw [if_pos (by decide)]
                exact nE
              · unfold cutF
                rw [if_pos (by omega)]
                show N3 (4160 + 104 * u + (1 + i)) = _
                rw [← Nat.add_assoc]
                exact nS i hi
              · obtain ⟨v2, F2, g1, g2, -⟩ := zC B tc mc b1 b2 b3 b4 (fun i hi => by
                  rw [b5 i hi]
                  unfold cutF
                  rw [if_pos (by omega), kD _ (by omega)]
                  exact xT i hi)
                exact ⟨v2, F2, g1, (g2 rfl).2⟩
            · have hu2 : u < w := by omega
              have h9 := hw u (by rw [hwg]; exact hu2)
              have ec : cutF 104 (fun i => N3 (4160 + 104 * u + i)) = cutF 104 (fun i => A.1 84 (4160 + 104 * u + i)) := cutF_congr fun i hi => nO _ (by omega) (by omega)
              have et : C.1 (1 + 15 + u) = A.1 (1 + 15 + u) := kC _ (by omega)
              have el : C.1 (1 + 21) u = A.1 (1 + 21) u := by
                rw [kD _ (by omega)]
                exact (x22 u).trans (if_neg eu)
              rw [ec, et, el]
              exact h9
  · have h6 : w = 6 := by omega
    subst h6
    refine Op_find hI (-1000002) 1 (by decide) (by decide) ?_ ?_
    · unfold fX10_way
      rw [q3, e3, li6, if_neg (by decide)]
    · rw [way_eq, l3A, Option.bind_some, fndC_84, e3, li6, if_pos rfl]
