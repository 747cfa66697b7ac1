/-! LEVEL 2: ways worked out -/
def pil (f : Nat → Int32) : List Int32 → Prop
  | [] => True
  | a :: τ => f τ.length = a ∧ pil f τ
theorem pil_keep {f g : Nat → Int32} : ∀ {σ : List Int32}, pil f σ → (∀ i, i < σ.length → g i = f i) → pil g σ
  | [], _, _ => trivial
  | a :: τ, h, e => ⟨(e τ.length (by show τ.length < τ.length + 1; omega)).trans h.1, pil_keep h.2 (fun i hi => e i (by show i < τ.length + 1; omega))⟩
theorem evs_congr {M M' : Nat → Int32} (h : ∀ m, m < 6 → M m = M' m) : ∀ (E σ : List Int32), evs M E σ = evs M' E σ
  | [], _ => rfl
  | c :: E, σ => by
    have h1 : stR1 M c σ = stR1 M' c σ := by
      unfold stR1
      by_cases c1 : 10100 ≤ c
      · rw [if_pos c1, if_pos c1]
      · rw [if_neg c1, if_neg c1]
        by_cases c2 : 10000 ≤ c
        · rw [if_pos c2, if_pos c2]
          by_cases c3 : (c - 10000).toNatClampNeg < 6 ∧ c = iN (10000 + (c - 10000).toNatClampNeg)
          · rw [if_pos c3, if_pos c3, h _ c3.1]
          · rw [if_neg c3, if_neg c3]
        · rw [if_neg c2, if_neg c2]
    show (stR1 M c σ).bind (fun τ => evs M E τ) = (stR1 M' c σ).bind (fun τ => evs M' E τ)
    rw [h1]
    congr 1
    funext τ
    exact evs_congr h E τ
def lkP (A C : ruA) : Prop := (∀ k, k ≠ 83 ∧ k ≠ 93 → C.1 k = A.1 k) ∧ ∀ j, j ≠ 10 ∧ j ≠ 11 ∧ j ≠ 12 → C.1 83 j = A.1 83 j
theorem lkP_refl (A : ruA) : lkP A A := ⟨fun _ _ => rfl, fun _ _ => rfl⟩
theorem lkP_trans {A B C : ruA} (h : lkP A B) (h2 : lkP B C) : lkP A C := ⟨fun k hk => (h2.1 k hk).trans (h.1 k hk), fun j hj => (h2.2 j hj).trans (h.2 j hj)⟩
theorem lkP_R {A B : ruA} (h : lkR A B) : lkP A B := ⟨fun k hk => h.1 k hk.1, h.2⟩
theorem lkP_93 {A B : ruA} (h : lkP A B) (i : Nat) (v : Int32) : lkP A (ruset B 93 i v) := ⟨fun k hk => by rw [rs_ne _ _ _ hk.2]; exact h.1 k hk, fun j hj => by rw [rs_ne _ _ _ (by decide)]; exact h.2 j hj⟩
theorem ruB2_id {α β : Type} (o : Option (α × β)) : (ruB2 o fun a b => some (a, b)) = o := by
  cases o <;> rfl
theorem r_worked {A : ruA} {N M : Nat → Int32} {mm w y : Nat} {E : List Int32} {x v : Int32} (hm : mm ≤ 24) (e84 : A.1 84 = N) (e2 : N 2 = iN mm) (hkd : ∀ s, s < 144 → ∀ q, q < 12 → 0 ≤ N (141 + 28 * s + q) ∧ N (141 + 28 * s + q) ≤ 7) (hy : y < 6) (hw : w < 6) (hE : E.length ≤ 100) (p0 : N (4160 + 104 * w) = iN E.length) (pE : ∀ i, i < E.length → N (4160 + 104 * w + 1 + i) = E.getD i 0) (hM : ∀ m, m < 6 → M m = vM N m x y mm) (hv : evs M E [] = some [v]) : ∃ C, lkP A C ∧ fX11_worked (iN w) x (iN y) A = some (v, C) := by
  unfold fX11_worked
  rw [li4160, li104, iN_mul, iN_add]
  refine loop_gen (fun f j (s : Int32 × ruA) => fX11_worked_l16 x (iN y) (iN (4160 + 104 * w)) (fun A17 => (ruld (A17.1 93) 200 (0 : Int32)).bind fun v18 => some (v18, A17)) f s.1 (iN j) s.2) E.length (fun j s => ∃ σ : List Int32, s.1 = iN σ.length ∧ σ.length ≤ j ∧ pil (s.2.1 93) σ ∧ evs M (E.drop j) σ = some [v] ∧ lkP A s.2) (fun o => ∃ C, lkP A C ∧ o = some (v, C)) ?_ ?_ ruF 0 (0, A) (Nat.zero_le _) (by rw [ruF_eq]; omega) ⟨[], rfl, Nat.zero_le _, trivial, hv, lkP_refl A⟩
  · rintro f s ⟨σ, h1, h2, h3, h4, h5⟩
    have e84s : s.2.1 84 = N := (h5.1 84 (by decide)).trans e84
    refine ⟨s.2, h5, ?_⟩
    rw [List.drop_length] at h4
    have h4 : σ = [v] := Option.some.inj h4
    rw [h4] at h3
    have h3 : s.2.1 93 0 = v := h3.1
    show fX11_worked_l16 x (iN y) (iN (4160 + 104 * w)) (fun A17 => (ruld (A17.1 93) 200 (0 : Int32)).bind fun v18 => some (v18, A17)) (f + 1) s.1 (iN E.length) s.2 = _
    rw [fX11_worked_l16, e84s, ruld_iN (by omega) (by decide), Option.bind_some, p0, if_pos ((iN_le (by omega) (by omega)).mpr (Nat.le_refl _)), show ruld (s.2.1 93) 200 0 = some (s.2.1 93 0) from ruld_iN (i := 0) (by decide) (by decide), Option.bind_some, h3]
  · rintro f j s hj ⟨σ, h1, h2, h3, h4, h5⟩
    right
    have e84s : s.2.1 84 = N := (h5.1 84 (by decide)).trans e84
    have hdrop : E.drop j = E.getD j 0 :: E.drop (j + 1) := by
      rw [List.drop_eq_getElem_cons hj, List.getD_eq_getElem?_getD, List.getElem?_eq_getElem hj]
      rfl
    rw [hdrop] at h4
    generalize hc : E.getD j 0 = c at *
    have h4 : (stR1 M c σ).bind (fun τ => evs M (E.drop (j + 1)) τ) = some [v] := h4
    have hbody : ∀ (u : Int32) (B : ruA), (ruB2 ((if (10100 : Int32) ≤ c then
  (if c = (10107 : Int32) then
  (ruld (s.2.1 93) 200 (s.1 - (1 : Int32))).bind fun v9 =>
  ((if v9 = 0 then
  some (1 : Int32)
else
  some (0 : Int32))).bind fun v10 =>
  (rust s.2 93 200 (s.1 - (1 : Int32)) v10).bind fun A11 =>
  some (s.1, A11)
else
  (ruld (s.2.1 93) 200 ((s.1 + (-1 : Int32)) - (1 : Int32))).bind fun v5 =>
  (ruld (s.2.1 93) 200 (s.1 + (-1 : Int32))).bind fun v6 =>
  (fX11_done c v5 v6).bind fun v7 =>
  (rust s.2 93 200 ((s.1 + (-1 : Int32)) - (1 : Int32)) v7).bind fun A8 =>
  some ((s.1 + (-1 : Int32)), A8))
else
  ruB2 ((if (10000 : Int32) ≤ c then
  ruB2 (fX11_measured x (iN y) (c - (10000 : Int32)) s.2) fun v14 A15 =>
  some (v14, A15)
else
  some (c, s.2))) fun v12 A13 =>
  (rust A13 93 200 s.1 v12).bind fun A16 =>
  some ((s.1 + (1 : Int32)), A16))) fun v3 A4 => some (v3, A4)) = some (u, B) → fX11_worked_l16 x (iN y) (iN (4160 + 104 * w)) (fun A17 => (ruld (A17.1 93) 200 (0 : Int32)).bind fun v18 => some (v18, A17)) (f + 1) s.1 (iN j) s.2 = fX11_worked_l16 x (iN y) (iN (4160 + 104 * w)) (fun A17 => (ruld (A17.1 93) 200 (0 : Int32)).bind fun v18 => some (v18, A17)) f u (iN (j + 1)) B := by
      intro u B hub
      rw [fX11_worked_l16, e84s, ruld_iN (by omega) (by decide), Option.bind_some, p0, if_neg (by rw [iN_le (by omega) (by omega)]; omega), iN_add1, iN_add, ruld_iN (by omega) (by decide), Option.bind_some, pE j hj, hc, iN_add1]
      rw [ruB2_id] at hub
      rw [hub, ruB2_some]
    suffices hs : ∃ (τ : List Int32) (B : ruA), stR1 M c σ = some τ ∧ τ.length ≤ j + 1 ∧ pil (B.1 93) τ ∧ lkP A B ∧ fX11_worked_l16 x (iN y) (iN (4160 + 104 * w)) (fun A17 => (ruld (A17.1 93) 200 (0 : Int32)).bind fun v18 => some (v18, A17)) (f + 1) s.1 (iN j) s.2 = fX11_worked_l16 x (iN y) (iN (4160 + 104 * w)) (fun A17 => (ruld (A17.1 93) 200 (0 : Int32)).bind fun v18 => some (v18, A17)) f (iN τ.length) (iN (j + 1)) B by
      obtain ⟨τ, B, g1, g2, g3, g4, g5⟩ := hs
      rw [g1, Option.bind_some] at h4
      exact ⟨(iN τ.length, B), g5, τ, rfl, g2, g3, h4, g4⟩
    have hne : ∀ z, stR1 M c σ = z → z ≠ none := by
      rintro z hz rfl
      rw [hz] at h4
      cases h4
    by_cases c1 : (10100 : Int32) ≤ c
    · by_cases c2 : c = 10107
      · cases σ with
        | nil =>
          refine absurd ?_ (hne _ rfl)
          unfold stR1
          rw [if_pos c1, if_pos c2]
        | cons a τ =>
          have hl : (a :: τ).length = τ.length + 1 := rfl
          rw [hl] at h1 h2
          have ha : s.2.1 93 τ.length = a := h3.1
          have e1 : s.1 - 1 = iN τ.length := by rw [h1, iN_sub1 (by omega), Nat.add_sub_cancel]
          refine ⟨(if a = 0 then 1 else 0) :: τ, ruset s.2 93 τ.length (if a = 0 then 1 else 0), ?_, by show τ.length + 1 ≤ j + 1; omega, ⟨?_, ?_⟩, lkP_93 h5 _ _, ?_⟩
          · unfold stR1
            rw [if_pos c1, if_pos c2]
          · rw [rs_eq, upd_same]
          · refine pil_keep h3.2 (fun i hi => ?_)
            rw [rs_eq, upd_ne _ _ (by omega)]
          · refine hbody _ _ ?_
            rw [if_pos c1, if_pos c2, e1, ruld_iN (by omega) (by decide), Option.bind_some, ha, ite_some, Option.bind_some, rust_iN (by omega) (by decide), Option.bind_some, ruB2_some, h1]
            rfl
      · match σ, h1, h2, h3, h4, hne with
        | [], _, _, _, _, hne =>
          refine absurd ?_ (hne _ rfl)
          unfold stR1
          rw [if_pos c1, if_neg c2]
        | [_], _, _, _, _, hne =>
          refine absurd ?_ (hne _ rfl)
          unfold stR1
          rw [if_pos c1, if_neg c2]
        | b :: a :: τ, h1, h2, h3, h4, hne =>
          have hl : (b :: a :: τ).length = τ.length + 2 := rfl
          rw [hl] at h1 h2
          have hb : s.2.1 93 (τ.length + 1) = b := h3.1
          have ha : s.2.1 93 τ.length = a := h3.2.1
          have e1 : s.1 + -1 = iN (τ.length + 1) := by
            have := iN_sub1 (a := τ.length + 2) (by omega)
            rw [Int32.sub_eq_add_neg, show τ.length + 2 - 1 = τ.length + 1 by omega] at this
            rw [h1]
            exact this
          have e3 : iN (τ.length + 1) - 1 = iN τ.length := by rw [iN_sub1 (by omega), Nat.add_sub_cancel]
          obtain ⟨r, hr⟩ : ∃ r, fX11_done c a b = some r := by
            cases hz : fX11_done c a b with
            | none =>
              refine absurd ?_ (hne _ rfl)
              unfold stR1
              rw [if_pos c1, if_neg c2]
              show (fX11_done c a b).map (fun r => r :: τ) = none
              rw [hz]
              rfl
            | some r => exact ⟨r, rfl⟩
          refine ⟨r :: τ, ruset s.2 93 τ.length r, stR1_bin M c1 c2 a b r hr τ, by show τ.length + 1 ≤ j + 1; omega, ⟨?_, ?_⟩, lkP_93 h5 _ _, ?_⟩
          · rw [rs_eq, upd_same]
          · refine pil_keep h3.2.2 (fun i hi => ?_)
            rw [rs_eq, upd_ne _ _ (by omega)]
          · refine hbody _ _ ?_
            rw [if_pos c1, if_neg c2, e1, e3, ruld_iN (by omega) (by decide), Option.bind_some, ruld_iN (by omega) (by decide), Option.bind_some, ha, hb, hr, Option.bind_some, rust_iN (by omega) (by decide), Option.bind_some, ruB2_some]
            rfl
    · have push : ∀ (B : ruA) (u : Int32), lkP A B → B.1 93 = s.2.1 93 → pil ((ruset B 93 σ.length u).1 93) (u :: σ) ∧ lkP A (ruset B 93 σ.length u) := by
        intro B u hB h93
        refine ⟨⟨?_, ?_⟩, lkP_93 hB _ _⟩
        · rw [rs_eq, upd_same]
        · refine pil_keep h3 (fun i hi => ?_)
          rw [rs_eq, upd_ne _ _ (by omega), h93]
      by_cases c2 : (10000 : Int32) ≤ c
      · have hcc : (c - 10000).toNatClampNeg < 6 ∧ c = iN (10000 + (c - 10000).toNatClampNeg) := by
          by_cases c3 : (c - 10000).toNatClampNeg < 6 ∧ c = iN (10000 + (c - 10000).toNatClampNeg)
          · exact c3
          · refine absurd ?_ (hne _ rfl)
            unfold stR1
            rw [if_neg c1, if_pos c2, if_neg c3]
        generalize hmm : (c - 10000).toNatClampNeg = m at hcc
        have ecm : c - 10000 = iN m := by rw [hcc.2, li10000, iN_sub (by omega), Nat.add_sub_cancel_left]
        obtain ⟨C, g1, g2⟩ := r_of (A := s.2) hm (by rw [e84s]; exact e2) (by rw [e84s]; exact hkd) hy (k := m) (by omega) x
        rw [e84s] at g1
        obtain ⟨k1, k2⟩ := push C (vM N m x y mm) (lkP_trans h5 (lkP_R g2)) (g2.1 93 (by decide))
        refine ⟨vM N m x y mm :: σ, ruset C 93 σ.length (vM N m x y mm), ?_, by show σ.length + 1 ≤ j + 1; omega, k1, k2, ?_⟩
        · rw [hcc.2, stR1_name M hcc.1, hM m hcc.1]
        · refine hbody _ _ ?_
          rw [if_neg c1, if_pos c2, ecm, g1, ruB2_some, ruB2_some, h1, rust_iN (by omega) (by decide), Option.bind_some, ruB2_some, iN_add1]
          rfl
      · obtain ⟨k1, k2⟩ := push s.2 c h5 rfl
        refine ⟨c :: σ, ruset s.2 93 σ.length c, ?_, by show σ.length + 1 ≤ j + 1; omega, k1, k2, ?_⟩
        · unfold stR1
          rw [if_neg c1, if_neg c2]
        · refine hbody _ _ ?_
          rw [if_neg c1, if_neg c2, ruB2_some, h1, rust_iN (by omega) (by decide), Option.bind_some, ruB2_some, iN_add1]
          rfl
