/-! LEVEL 2: the class gathers the sheets of a room -/
theorem cN_mono {p : Nat → Prop} [DecidablePred p] {a : Nat} : ∀ j, cN p a ≤ cN p (a + j)
  | 0 => Nat.le_refl _
  | j + 1 => by
    show cN p a ≤ cN p (a + j) + (if p (a + j) then 1 else 0)
    have := cN_mono (p := p) (a := a) j
    omega
theorem cN_lt {p : Nat → Prop} [DecidablePred p] {d c : Nat} (hd : p d) (h : d < c) : cN p d < cN p c := by
  obtain ⟨j, rfl⟩ : ∃ j, c = d + 1 + j := ⟨c - (d + 1), by omega⟩
  have h1 := cN_mono (p := p) (a := d + 1) j
  have h2 : cN p (d + 1) = cN p d + 1 := by
    show cN p d + (if p d then 1 else 0) = _
    rw [if_pos hd]
  omega
theorem shC_keep {A A0 : ruA} {N : Nat → Int32} (h : shC A0 N) (e : ∀ k, k ≤ 31 → A.1 k = A0.1 k) : shC A N := by
  obtain ⟨h1, h2, h3, h4⟩ := h
  exact ⟨h1.congr ⟨e _ (by omega), e _ (by omega)⟩ (fun _ _ _ => rfl), h2.congr (e _ (by omega)) rfl (fun _ _ => rfl), h3.congr ⟨e _ (by omega), e _ (by omega)⟩ (fun _ _ _ _ => rfl), h4.congr (e _ (by omega)) (fun _ _ _ _ => rfl)⟩
/-- gathered up to child c -/
def gat (A0 A : ruA) (N : Nat → Int32) (x : Int32) (y c : Nat) : Prop :=
  (∀ k, k ≠ 65 ∧ k ≠ 66 ∧ k ≠ 68 → A.1 k = A0.1 k) ∧ A.1 65 4 = iN (cN (fun c => inR N x y c) c) ∧ (∀ j, j ≠ 4 → A.1 65 j = A0.1 65 j) ∧
  ∀ d, d < c → inR N x y d → A.1 66 (cN (fun c => inR N x y c) d) = iN d ∧ A.2.1 67 (cN (fun c => inR N x y c) d) = pkL (chA N y d) 12 ∧ A.1 68 (cN (fun c => inR N x y c) d) = pkF (chA N y d) 12
theorem rsL_f (A : ruA) (k j : Nat) (v : Int64) : (rusetL A k j v).1 = A.1 := rfl
theorem rsL_at (A : ruA) (k j i : Nat) (v : Int64) : (rusetL A k j v).2.1 k i = if i = j then v else A.2.1 k i := by
  unfold rusetL
  show (if k = k then vp_updL (A.2.1 k) j v else A.2.1 k) i = _
  rw [if_pos rfl]
  rfl
theorem rs_2 (A : ruA) (k j : Nat) (v : Int32) : (ruset A k j v).2 = A.2 := rfl
theorem f8_gather {A : ruA} {N : Nat → Int32} {m : Nat} (h : roC A N m) {y : Nat} (hy : y < 6) (x : Int32) : ∃ B, fX8_gather x (iN y) A = some B ∧ gat A B N x y m := by
  obtain ⟨sh, h5, e22, hm⟩ := h
  unfold fX8_gather
  rw [Option.bind_some]
  refine loop_gen (fun n c B => fX8_gather_l7 x (iN y) (fun A9 => some A9) n (iN c) B) m (fun c B => gat A B N x y c) (fun r => ∃ B, r = some B ∧ gat A B N x y m) ?_ ?_ ruF 0 (ruset A 65 4 0) (Nat.zero_le _) (by rw [ruF_eq]; omega) ?_
  · intro n B hB
    have e : B.1 2 2 = iN m := by rw [hB.1 2 (by omega)]; exact e22
    refine ⟨B, ?_, hB⟩
    rw [fX8_gather_l7, e, if_pos ((iN_le (by omega) (by omega)).mpr (Nat.le_refl _))]
  · intro n c B hc hB
    right
    obtain ⟨g1, g2, g3, g4⟩ := hB
    have e : B.1 2 2 = iN m := by rw [g1 2 (by omega)]; exact e22
    have e5 : B.1 5 c = N (32 + 4 * c) := by rw [g1 5 (by omega)]; exact h5 c (by omega)
    have shB : shC B N := shC_keep sh fun k hk => g1 k (by omega)
    have hst : 6 * c + y < 144 := by omega
    have hle : cN (fun c => inR N x y c) c ≤ c := cN_le c
    generalize hi : cN (fun c => inR N x y c) c = i at *
    have r66 : rust B 66 24 (B.1 65 4) (iN c) = some (ruset B 66 i (iN c)) := by rw [g2, rust_iN (by omega) (by decide)]
    have shB2 : shC (ruset B 66 i (iN c)) N := shC_keep shB fun k hk => rs_ne _ _ _ (by omega)
    have e654 : (ruset B 66 i (iN c)).1 65 4 = iN i := by rw [rs_ne _ _ _ (by decide)]; exact g2
    have hpk := f8_pack shB2 hst (i := i) (by omega) e654
    have hstep : fX8_gather_l7 x (iN y) (fun A9 => some A9) (n + 1) (iN c) B = (if N (32 + 4 * c) = x then (if N (128 + 28 * (6 * c + y)) = 0 then some B else some (ruset (ruset (rusetL (ruset B 66 i (iN c)) 67 i (pkL (chA N y c) 12)) 68 i (pkF (chA N y c) 12)) 65 4 ((ruset (rusetL (ruset B 66 i (iN c)) 67 i (pkL (chA N y c) 12)) 68 i (pkF (chA N y c) 12)).1 65 4 + 1))) else some B).bind fun A4 => fX8_gather_l7 x (iN y) (fun A9 => some A9) n (iN (c + 1)) A4 := by
      rw [fX8_gather_l7, e, if_neg (by rw [iN_le (by omega) (by omega)]; omega), e10_place, Option.bind_some, ruld_iN (by omega) (by decide), Option.bind_some, e5, f10_there shB hst, Option.bind_some, r66, Option.bind_some, hpk, Option.bind_some, Option.bind_some, iN_add1 c]
    show ∃ B', fX8_gather_l7 x (iN y) (fun A9 => some A9) (n + 1) (iN c) B = _ ∧ gat A B' N x y (c + 1)
    rw [hstep]
    by_cases c1 : inR N x y c
    · have hsuc : cN (fun c => inR N x y c) (c + 1) = i + 1 := by
        show cN (fun c => inR N x y c) c + (if inR N x y c then 1 else 0) = _
        rw [hi, if_pos c1]
      generalize hC : ruset (ruset (rusetL (ruset B 66 i (iN c)) 67 i (pkL (chA N y c) 12)) 68 i (pkF (chA N y c) 12)) 65 4 ((ruset (rusetL (ruset B 66 i (iN c)) 67 i (pkL (chA N y c) 12)) 68 i (pkF (chA N y c) 12)).1 65 4 + 1) = C
      refine ⟨C, ?_, ?_, ?_, ?_, ?_⟩
      · rw [if_pos c1.1, if_neg (by rw [c1.2]; decide), Option.bind_some]
      · intro k hk
        rw [← hC, rs_ne _ _ _ hk.1, rs_ne _ _ _ hk.2.2, rsL_f, rs_ne _ _ _ hk.2.1]
        exact g1 k hk
      · rw [hsuc, ← hC, rs_eq, upd_same, rs_ne _ _ _ (by decide), rsL_f, e654, iN_add1]
      · intro j hj
        rw [← hC, rs_eq, upd_ne _ _ hj, rs_ne _ _ _ (by decide), rsL_f, rs_ne _ _ _ (by decide)]
        exact g3 j hj
      · intro d hd hin
        have b66 : C.1 66 = upd (B.1 66) i (iN c) := by
          rw [← hC, rs_ne _ _ _ (by decide), rs_ne _ _ _ (by decide), rsL_f, rs_eq]
        have b68 : C.1 68 = upd (B.1 68) i (pkF (chA N y c) 12) := by
          rw [← hC, rs_ne _ _ _ (by decide), rs_eq, rsL_f, rs_ne _ _ _ (by decide)]
        have b67 : ∀ j, C.2.1 67 j = if j = i then pkL (chA N y c) 12 else B.2.1 67 j := by
          intro j
          rw [← hC, rs_2, rs_2, rsL_at, rs_2]
        rw [b66, b68, b67]
        by_cases e9 : d = c
        · rw [e9, hi, upd_same, upd_same, if_pos rfl]
          exact ⟨rfl, rfl, rfl⟩
        · have hlt := cN_lt (p := fun c => inR N x y c) hin (show d < c by omega)
          rw [hi] at hlt
          rw [upd_ne _ _ (by omega), upd_ne _ _ (by omega), if_neg (by omega)]
          exact g4 d (by omega) hin
    · have hsuc : cN (fun c => inR N x y c) (c + 1) = i := by
        show cN (fun c => inR N x y c) c + (if inR N x y c then 1 else 0) = _
        rw [hi, if_neg c1, Nat.add_zero]
      refine ⟨B, ?_, g1, by rw [hsuc]; exact g2, g3, ?_⟩
      · by_cases c2 : N (32 + 4 * c) = x
        · rcases (sh.2.1 _ hst).2.1 with e9 | e9
          · rw [if_pos c2, if_pos e9, Option.bind_some]
          · exact absurd ⟨c2, e9⟩ c1
        · rw [if_neg c2, Option.bind_some]
      · intro d hd hin
        have hne : d ≠ c := fun e9 => c1 (by rw [← e9]; exact hin)
        exact g4 d (by omega) hin
  · refine ⟨fun k hk => rs_ne _ _ _ hk.1, ?_, ?_, fun d hd => by omega⟩
    · rw [rs_eq, upd_same]
      rfl
    · intro j hj
      rw [rs_eq, upd_ne _ _ hj]
