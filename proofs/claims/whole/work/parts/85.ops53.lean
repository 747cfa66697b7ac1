/-! LEVEL 2: both readers, side by side -/
def K4 (T : Nat → Int32) (n : Nat) (f : ruA → Option (Int32 × ruA)) (s : Nat) (ok : Bool) (s1 : Nat) (E : List Int32) : Prop :=
  ∀ (A : ruA) (F : Nat → Int32), bsQ A T n → good4 T n (A.1 A.2.2.2) F s → ∃ v F', f (stQ A F) = some (v, stQ A F') ∧ (ok = true → good4 T n (A.1 A.2.2.2) F' s1 ∧ ∀ σ, evs (A.1 A.2.2.2) E σ = some (v :: σ)) ∧ (ok = false → bad4 n F' s1)
def stp (k : Nat) (E : List Int32) (H H' : Nat → Int32) : Prop := (∀ i, i < k → H' i = H i) ∧ ∀ i, i < E.length → H' (k + i) = E.getD i 0
def K11 (T : Nat → Int32) (n : Nat) (f : ruA → Option ruA) (d s : Nat) (ok : Bool) (s1 : Nat) (E : List Int32) : Prop :=
  ∀ (B : ruA) (G H : Nat → Int32) (k : Nat), bsR B T n → goodR T n G s → G 6 = iN n → G 18 = iN d → G 20 = iN k → k ≤ s → ∃ G' H', f (stP B G H) = some (stP B G' H') ∧ kpG G G' ∧ G' 18 = iN d ∧ G' 20 = iN (k + E.length) ∧ stp k E H H' ∧ (ok = true → goodR T n G' s1) ∧ (ok = false → badR G' s1)
def Sim (T : Nat → Int32) (n : Nat) (f4 : ruA → Option (Int32 × ruA)) (f11 : ruA → Option ruA) (d : Nat) : Prop :=
  ∀ s, s ≤ n → ∃ ok s1 E, s ≤ s1 ∧ s1 ≤ n ∧ E.length + s ≤ s1 ∧ K4 T n f4 s ok s1 E ∧ K11 T n f11 d s ok s1 E
def B4 (f : ruA → Option (Int32 × ruA)) : Prop := ∀ A n F s, bad4 n F s → s ≤ 100 → ∃ v, f (stQ A F) = some (v, stQ A F)
def B11 (f : ruA → Option ruA) : Prop := ∀ B G H, G 17 = 1 → f (stP B G H) = some (stP B G H)
theorem getD_app1 {E1 E2 : List Int32} {i : Nat} (h : i < E1.length) : (E1 ++ E2).getD i 0 = E1.getD i 0 := by
  rw [List.getD_eq_getElem?_getD, List.getD_eq_getElem?_getD, List.getElem?_append_left h]
theorem getD_app2 {E1 E2 : List Int32} {i : Nat} (h : E1.length ≤ i) : (E1 ++ E2).getD i 0 = E2.getD (i - E1.length) 0 := by
  rw [List.getD_eq_getElem?_getD, List.getD_eq_getElem?_getD, List.getElem?_append_right h]
theorem stp_app {k : Nat} {E1 E2 : List Int32} {H H1 H2 : Nat → Int32} (h1 : stp k E1 H H1) (h2 : stp (k + E1.length) E2 H1 H2) : stp k (E1 ++ E2) H H2 := by
  refine ⟨fun i hi => (h2.1 i (by omega)).trans (h1.1 i hi), fun i hi => ?_⟩
  rw [List.length_append] at hi
  by_cases c : i < E1.length
  · rw [getD_app1 c, h2.1 (k + i) (by omega)]
    exact h1.2 i c
  · rw [getD_app2 (by omega), ← h2.2 (i - E1.length) (by omega), show k + E1.length + (i - E1.length) = k + i by omega]
theorem stp_nil (k : Nat) (H : Nat → Int32) : stp k [] H H := ⟨fun _ _ => rfl, fun i hi => by cases hi⟩
theorem stp_upd (k : Nat) (H : Nat → Int32) (c : Int32) : stp k [c] H (upd H k c) := by
  refine ⟨fun i hi => upd_ne _ _ (by omega), fun i hi => ?_⟩
  have : i = 0 := by
    have hi : i < 1 := hi
    omega
  subst this
  rw [Nat.add_zero, upd_same]
  rfl
theorem kpG_trans {G G1 G2 : Nat → Int32} (h : kpG G G1) (h2 : kpG G1 G2) : kpG G G2 := fun j hj => (h2 j hj).trans (h j hj)
theorem kpG_3 {G G1 : Nat → Int32} (h : ∀ j, j ≠ 14 ∧ j ≠ 15 ∧ j ≠ 16 → G1 j = G j) : kpG G G1 := fun j hj => h j ⟨hj.1, hj.2.1, hj.2.2.1⟩
theorem goodR_20 {T : Nat → Int32} {n : Nat} {G : Nat → Int32} {s : Nat} (h : goodR T n G s) (v : Int32) : goodR T n (upd G 20 v) s := by
  refine ⟨⟨?_, ?_, ?_⟩, ?_⟩
  · simp (disch := omega) only [upd_same, upd_ne]
    exact h.1.1
  · simp (disch := omega) only [upd_same, upd_ne]
    exact h.1.2.1
  · simp (disch := omega) only [upd_same, upd_ne]
    exact h.1.2.2
  · simp (disch := omega) only [upd_same, upd_ne]
    exact h.2
theorem goodR_18 {T : Nat → Int32} {n : Nat} {G : Nat → Int32} {s : Nat} (h : goodR T n G s) (v : Int32) : goodR T n (upd G 18 v) s := by
  refine ⟨⟨?_, ?_, ?_⟩, ?_⟩
  · simp (disch := omega) only [upd_same, upd_ne]
    exact h.1.1
  · simp (disch := omega) only [upd_same, upd_ne]
    exact h.1.2.1
  · simp (disch := omega) only [upd_same, upd_ne]
    exact h.1.2.2
  · simp (disch := omega) only [upd_same, upd_ne]
    exact h.2
section LOOP
variable {β4 β11 : Type} {T : Nat → Int32} {n : Nat} (hn : n ≤ 100) (hT : ∀ i, i < n → 0 ≤ T i ∧ T i ≤ 255) {g4 : ruA → Option (Int32 × ruA)} {g11 : ruA → Option ruA} {d : Nat}
  (isOp : Int32 → Prop) (oc : Int32 → Int32) (op : Int32 → Int32 → Int32 → Int32) (L4 : Nat → Int32 → Int32 → ruA → Option β4) (C4 : Int32 → ruA → Option β4) (L11 : Nat → ruA → Option β11) (C11 : ruA → Option β11)
theorem sim_loop (hn : n ≤ 100) (hT : ∀ i, i < n → 0 ≤ T i ∧ T i ≤ 255) (hS : Sim T n g4 g11 d) (h257 : ¬ isOp 257)
    (hoc : ∀ g, isOp g → 10100 ≤ oc g ∧ ¬ oc g = 10107 ∧ ∀ a b, fX11_done (oc g) a b = some (op g a b))
    (x4 : ∀ f v x A, ¬ isOp (A.1 70 4) → L4 (f + 1) v x A = C4 v A)
    (y4 : ∀ f v j A, j < 100 → isOp (A.1 70 4) → L4 (f + 1) v (iN j) A = (fX4_step A).bind fun A4 => ruB2 (g4 A4) fun v5 A6 => L4 f (op (A.1 70 4) v v5) (iN (j + 1)) A6)
    (x11 : ∀ f B G H s, bsR B T n → goodR T n G s → ¬ isOp (tG T n s) → L11 (f + 1) (stP B G H) = C11 (stP B G H))
    (x11B : ∀ f B G H, G 17 = 1 → L11 (f + 1) (stP B G H) = C11 (stP B G H))
    (y11 : ∀ f B G H s, bsR B T n → goodR T n G s → isOp (tG T n s) → L11 (f + 1) (stP B G H) = (fX11_need 1 (stP B G H)).bind fun A5 => (g11 A5).bind fun A6 => (fX11_emit (oc (tG T n s)) A6).bind fun A7 => L11 f A7) :
    ∀ m s, s ≤ n → n - s ≤ m → ∃ ok s1 E, s ≤ s1 ∧ s1 ≤ n ∧ E.length + s ≤ s1 ∧
      (∀ A F v j f, bsQ A T n → good4 T n (A.1 A.2.2.2) F s → j ≤ s → n - s < f → ∃ v' F', L4 f v (iN j) (stQ A F) = C4 v' (stQ A F') ∧ (ok = true → good4 T n (A.1 A.2.2.2) F' s1 ∧ ∀ σ, evs (A.1 A.2.2.2) E (v :: σ) = some (v' :: σ)) ∧ (ok = false → bad4 n F' s1)) ∧
      (∀ B G H k f, bsR B T n → goodR T n G s → G 6 = iN n → G 18 = iN d → G 20 = iN k → k ≤ s → n - s < f → ∃ G' H', L11 f (stP B G H) = C11 (stP B G' H') ∧ kpG G G' ∧ G' 18 = iN d ∧ G' 20 = iN (k + E.length) ∧ stp k E H H' ∧ (ok = true → goodR T n G' s1) ∧ (ok = false → badR G' s1)) := by
  intro m
  induction m with
  | zero =>
    intro s hs hm
    have hsn : s = n := by omega
    have hg : tG T n s = 257 := if_pos (by omega)
    refine ⟨true, s, [], Nat.le_refl _, hs, by show 0 + s ≤ s; omega, ?_, ?_⟩
    · intro A F v j f hb hF hj hf
      obtain ⟨f, rfl⟩ : ∃ f', f = f' + 1 := ⟨f - 1, by omega⟩
      refine ⟨v, F, x4 f v _ _ ?_, fun _ => ⟨hF, fun σ => rfl⟩, fun h => by cases h⟩
      rw [stQ_70, hF.2.2.2.1, hg]
      exact h257
    · intro B G H k f hb hG h6 h18 h20 hk hf
      obtain ⟨f, rfl⟩ : ∃ f', f = f' + 1 := ⟨f - 1, by omega⟩
      exact ⟨G, H, x11 f B G H s hb hG (by rw [hg]; exact h257), fun _ _ => rfl, h18, h20, stp_nil k H, fun _ => hG, fun h => by cases h⟩
  | succ m ih =>
    intro s hs hm
    by_cases hop : isOp (tG T n s)
    · have hsn : s < n := tG_lt (fun e => h257 (e ▸ hop))
      have hgt := nx_gt (T := T) hn hsn
      have hle := nx_le (T := T) hs
      obtain ⟨ok1, s2, E1, a1, a2, a3, a4, a5⟩ := hS (nx T n s) hle
      obtain ⟨o1, o2, o3⟩ := hoc _ hop
      cases ok1 with
      | false =>
        refine ⟨false, s2, E1, by omega, a2, by omega, ?_, ?_⟩
        · intro A F v j f hb hF hj hf
          obtain ⟨f, rfl⟩ : ∃ f', f = f' + 1 + 1 := ⟨f - 2, by omega⟩
          obtain ⟨F1, b1, b2⟩ := q_next hb hn hT hF hs
          obtain ⟨v5, F2, c1, -, c3⟩ := a4 A F1 hb b2
          have c3 := c3 rfl
          refine ⟨op ((stQ A F).1 70 4) v v5, F2, ?_, fun h => (by cases h), fun _ => c3⟩
          rw [y4 (f + 1) v j _ (by omega) (by rw [stQ_70, hF.2.2.2.1]; exact hop), b1, Option.bind_some, c1, ruB2_some, x4 f _ _ _ (by rw [stQ_70, c3.2.1]; exact h257)]
        · intro B G H k f hb hG h6 h18 h20 hk hf
          obtain ⟨f, rfl⟩ : ∃ f', f = f' + 1 + 1 := ⟨f - 2, by omega⟩
          obtain ⟨G1, b1, b2, b3⟩ := p_need1 (H := H) hb hn hG h6 hs (show ¬ (1 : Int32) = 0 by decide)
          obtain ⟨G2, H2, c1, c2, c3, c4, c5, -, c7⟩ := a5 B G1 H k hb b2 ((b3 6 (by decide)).trans h6) ((b3 18 (by decide)).trans h18) ((b3 20 (by decide)).trans h20) (by omega)
          have c7 := c7 rfl
          refine ⟨G2, H2, ?_, kpG_trans (kpG_3 b3) c2, c3, c4, c5, fun h => (by cases h), fun _ => c7⟩
          rw [y11 (f + 1) B G H s hb hG hop, b1, Option.bind_some, c1, Option.bind_some, p_emitB B c7.2, Option.bind_some, x11B f B G2 H2 c7.2]
      | true =>
        obtain ⟨ok3, s3, E3, e1, e2, e3, e4, e5⟩ := ih s2 a2 (by omega)
        have hlen : (E1 ++ ([oc (tG T n s)] ++ E3)).length = E1.length + 1 + E3.length := by
          rw [List.length_append, List.length_append]
          show E1.length + (1 + E3.length) = _
          omega
        refine ⟨ok3, s3, E1 ++ ([oc (tG T n s)] ++ E3), by omega, e2, by rw [hlen]; omega, ?_, ?_⟩
        · intro A F v j f hb hF hj hf
          obtain ⟨f, rfl⟩ : ∃ f', f = f' + 1 := ⟨f - 1, by omega⟩
          obtain ⟨F1, b1, b2⟩ := q_next hb hn hT hF hs
          obtain ⟨v5, F2, c1, c2, -⟩ := a4 A F1 hb b2
          obtain ⟨c2, c3⟩ := c2 rfl
          obtain ⟨v', F3, d1, d2, d3⟩ := e4 A F2 (op (tG T n s) v v5) (j + 1) f hb c2 (by omega) (by omega)
          refine ⟨v', F3, ?_, fun h => ⟨(d2 h).1, fun σ => ?_⟩, d3⟩
          · rw [y4 f v j _ (by omega) (by rw [stQ_70, hF.2.2.2.1]; exact hop), b1, Option.bind_some, c1, ruB2_some, stQ_70, hF.2.2.2.1, d1]
          · rw [evs_app, c3, Option.bind_some, evs_app, evs_one, stR1_bin _ o1 o2 v v5 _ (o3 v v5), Option.bind_some]
            exact (d2 h).2 σ
        · intro B G H k f hb hG h6 h18 h20 hk hf
          obtain ⟨f, rfl⟩ : ∃ f', f = f' + 1 := ⟨f - 1, by omega⟩
          obtain ⟨G1, b1, b2, b3⟩ := p_need1 (H := H) hb hn hG h6 hs (show ¬ (1 : Int32) = 0 by decide)
          obtain ⟨G2, H2, c1, c2, c3, c4, c5, c6, -⟩ := a5 B G1 H k hb b2 ((b3 6 (by decide)).trans h6) ((b3 18 (by decide)).trans h18) ((b3 20 (by decide)).trans h20) (by omega)
          have c6 := c6 rfl
          have k6 : G2 6 = iN n := (c2 6 (by decide)).trans ((b3 6 (by decide)).trans h6)
          have hkk : kpG G2 (upd G2 20 (iN (k + E1.length + 1))) := fun j hj => upd_ne _ _ hj.2.2.2.2.2
          obtain ⟨G3, H3, d1, d2, d3, d4, d5, d6, d7⟩ := e5 B (upd G2 20 (iN (k + E1.length + 1))) (upd H2 (k + E1.length) (oc (tG T n s))) (k + E1.length + 1) f hb (goodR_20 c6 _) (by rw [upd_ne _ _ (by decide)]; exact k6) (by rw [upd_ne _ _ (by decide)]; exact c3) (upd_same _ _ _) (by omega) (by omega)
          refine ⟨G3, H3, ?_, kpG_trans (kpG_3 b3) (kpG_trans c2 (kpG_trans hkk d2)), d3, ?_, ?_, d6, d7⟩
          · rw [y11 f B G H s hb hG hop, b1, Option.bind_some, c1, Option.bind_some, p_emit B c6.2 (by omega) c4, Option.bind_some, d1]
          · rw [d4, hlen]
            congr 1
            omega
          · exact stp_app c5 (stp_app (stp_upd _ H2 _) d5)
    · refine ⟨true, s, [], Nat.le_refl _, hs, by show 0 + s ≤ s; omega, ?_, ?_⟩
      · intro A F v j f hb hF hj hf
        obtain ⟨f, rfl⟩ : ∃ f', f = f' + 1 := ⟨f - 1, by omega⟩
        refine ⟨v, F, x4 f v _ _ ?_, fun _ => ⟨hF, fun σ => rfl⟩, fun h => by cases h⟩
        rw [stQ_70, hF.2.2.2.1]
        exact hop
      · intro B G H k f hb hG h6 h18 h20 hk hf
        obtain ⟨f, rfl⟩ : ∃ f', f = f' + 1 := ⟨f - 1, by omega⟩
        exact ⟨G, H, x11 f B G H s hb hG hop, fun _ _ => rfl, h18, h20, stp_nil k H, fun _ => hG, fun h => by cases h⟩
end LOOP
theorem sim_chain {T : Nat → Int32} {n : Nat} (hn : n ≤ 100) (hT : ∀ i, i < n → 0 ≤ T i ∧ T i ≤ 255) {g4 : ruA → Option (Int32 × ruA)} {g11 : ruA → Option ruA} {d : Nat} (isOp : Int32 → Prop) (oc : Int32 → Int32) (op : Int32 → Int32 → Int32 → Int32) (L4 : Nat → Int32 → Int32 → ruA → Option (Int32 × ruA)) (L11 : Nat → ruA → Option ruA)
    (hS : Sim T n g4 g11 d) (h257 : ¬ isOp 257)
    (hoc : ∀ g, isOp g → 10100 ≤ oc g ∧ ¬ oc g = 10107 ∧ ∀ a b, fX11_done (oc g) a b = some (op g a b))
    (x4 : ∀ f v x A, ¬ isOp (A.1 70 4) → L4 (f + 1) v x A = some (v, A))
    (y4 : ∀ f v j A, j < 100 → isOp (A.1 70 4) → L4 (f + 1) v (iN j) A = (fX4_step A).bind fun A4 => ruB2 (g4 A4) fun v5 A6 => L4 f (op (A.1 70 4) v v5) (iN (j + 1)) A6)
    (x11 : ∀ f B G H s, bsR B T n → goodR T n G s → ¬ isOp (tG T n s) → L11 (f + 1) (stP B G H) = some (stP B G H))
    (x11B : ∀ f B G H, G 17 = 1 → L11 (f + 1) (stP B G H) = some (stP B G H))
    (y11 : ∀ f B G H s, bsR B T n → goodR T n G s → isOp (tG T n s) → L11 (f + 1) (stP B G H) = (fX11_need 1 (stP B G H)).bind fun A5 => (g11 A5).bind fun A6 => (fX11_emit (oc (tG T n s)) A6).bind fun A7 => L11 f A7) :
    Sim T n (fun A => ruB2 (g4 A) fun v A2 => L4 ruF v 0 A2) (fun A => (g11 A).bind fun A1 => L11 ruF A1) d := by
  intro s hs
  obtain ⟨ok1, s2, E1, a1, a2, a3, a4, a5⟩ := hS s hs
  cases ok1 with
  | false =>
    refine ⟨false, s2, E1, a1, a2, a3, ?_, ?_⟩
    · intro A F hb hF
      obtain ⟨v, F2, c1, -, c3⟩ := a4 A F hb hF
      have c3 := c3 rfl
      refine ⟨v, F2, ?_, fun h => (by cases h), fun _ => c3⟩
      show (ruB2 (g4 (stQ A F)) fun v A2 => L4 ruF v 0 A2) = _
      rw [c1, ruB2_some, show ruF = 19999 + 1 from rfl, x4 _ _ _ _ (by rw [stQ_70, c3.2.1]; exact h257)]
    · intro B G H k hb hG h6 h18 h20 hk
      obtain ⟨G2, H2, c1, c2, c3, c4, c5, -, c7⟩ := a5 B G H k hb hG h6 h18 h20 hk
      have c7 := c7 rfl
      refine ⟨G2, H2, ?_, c2, c3, c4, c5, fun h => (by cases h), fun _ => c7⟩
      show ((g11 (stP B G H)).bind fun A1 => L11 ruF A1) = _
      rw [c1, Option.bind_some, show ruF = 19999 + 1 from rfl, x11B _ B G2 H2 c7.2]
  | true =>
    obtain ⟨ok3, s3, E3, e1, e2, e3, e4, e5⟩ := sim_loop isOp oc op L4 (fun v A => some (v, A)) L11 (fun A => some A) hn hT hS h257 hoc x4 y4 x11 x11B y11 n s2 a2 (by omega)
    refine ⟨ok3, s3, E1 ++ E3, by omega, e2, by rw [List.length_append]; omega, ?_, ?_⟩
    · intro A F hb hF
      obtain ⟨v, F2, c1, c2, -⟩ := a4 A F hb hF
      obtain ⟨c2, c3⟩ := c2 rfl
      obtain ⟨v', F3, d1, d2, d3⟩ := e4 A F2 v 0 ruF hb c2 (by omega) (by rw [ruF_eq]; omega)
      refine ⟨v', F3, ?_, fun h => ⟨(d2 h).1, fun σ => ?_⟩, d3⟩
      · show (ruB2 (g4 (stQ A F)) fun v A2 => L4 ruF v 0 A2) = _
        rw [c1, ruB2_some]
        exact d1
      · rw [evs_app, c3, Option.bind_some]
        exact (d2 h).2 σ
    · intro B G H k hb hG h6 h18 h20 hk
      obtain ⟨G2, H2, c1, c2, c3, c4, c5, c6, -⟩ := a5 B G H k hb hG h6 h18 h20 hk
      obtain ⟨G3, H3, d1, d2, d3, d4, d5, d6, d7⟩ := e5 B G2 H2 (k + E1.length) ruF hb (c6 rfl) ((c2 6 (by decide)).trans h6) c3 c4 (by omega) (by rw [ruF_eq]; omega)
      refine ⟨G3, H3, ?_, kpG_trans c2 d2, d3, ?_, stp_app c5 d5, d6, d7⟩
      · show ((g11 (stP B G H)).bind fun A1 => L11 ruF A1) = _
        rw [c1, Option.bind_some]
        exact d1
      · rw [d4, List.length_append, Nat.add_assoc]
