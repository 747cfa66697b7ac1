/-! LEVEL 2: the reference reads a token -/
def stP (B : ruA) (G H : Nat → Int32) : ruA := rusetA (rusetA B 83 G) 92 H
theorem stP_83 (B : ruA) (G H : Nat → Int32) : (stP B G H).1 83 = G := by
  unfold stP
  rw [rsA_ne _ _ (by decide), rsA_same]
theorem stP_92 (B : ruA) (G H : Nat → Int32) : (stP B G H).1 92 = H := rsA_same _ _ _
theorem stP_k (B : ruA) (G H : Nat → Int32) {k : Nat} (h : k ≠ 83 ∧ k ≠ 92) : (stP B G H).1 k = B.1 k := by
  unfold stP
  rw [rsA_ne _ _ h.2, rsA_ne _ _ h.1]
theorem stP_set (B : ruA) (G H : Nat → Int32) (j : Nat) (v : Int32) : ruset (stP B G H) 83 j v = stP B (upd G j v) H := by
  rw [ruset_eq, stP_83]
  unfold stP rusetA
  congr 1
  funext k
  by_cases e : k = 83
  · subst e
    show (if 83 = 83 then upd G j v else _) = if 83 = 92 then H else if 83 = 83 then upd G j v else B.1 83
    rw [if_pos rfl, if_neg (by decide), if_pos rfl]
  · show (if k = 83 then _ else if k = 92 then H else if k = 83 then G else B.1 k) = if k = 92 then H else if k = 83 then upd G j v else B.1 k
    rw [if_neg e, if_neg e, if_neg e]
theorem stP_st (B : ruA) (G H : Nat → Int32) {i : Nat} (hi : i < 200) (v : Int32) : rust (stP B G H) 92 200 (iN i) v = some (stP B G (upd H i v)) := by
  rw [rust_iN hi (by decide), ruset_eq, stP_92]
  unfold stP
  rw [rusetA_two]
def bsR (B : ruA) (T : Nat → Int32) (n : Nat) : Prop := ∀ i, i < n → B.1 87 i = T i
def tokR (T : Nat → Int32) (n : Nat) (G : Nat → Int32) (s : Nat) : Prop := G 14 = tS T n s ∧ G 15 = iN s ∧ G 16 = iN (tE T n s)
theorem p_load {B : ruA} {T : Nat → Int32} {n : Nat} (hb : bsR B T n) (hn : n ≤ 100) (G H : Nat → Int32) {p : Nat} (hp : p < n) : ruld ((stP B G H).1 87) 100 (iN p) = some (T p) := by
  rw [stP_k B G H (by decide), ruld_iN (by omega) (by decide), hb p hp]
theorem p_byte {B : ruA} {T : Nat → Int32} {n : Nat} (hb : bsR B T n) (hn : n ≤ 100) {G H : Nat → Int32} (h6 : G 6 = iN n) {p : Nat} (hp : p ≤ n) (lo hi : Int32) : fX11_isByte (iN p) lo hi (stP B G H) = some (b2 (p < n ∧ lo ≤ T p ∧ T p ≤ hi)) := by
  unfold fX11_isByte
  rw [stP_83, h6]
  by_cases c : p < n
  · rw [if_neg (by rw [iN_le (by omega) (by omega)]; omega), p_load hb hn G H c, Option.bind_some, e11_within, Option.bind_some, b2_ne]
    by_cases c2 : lo ≤ T p ∧ T p ≤ hi
    · rw [if_pos c2, b2_pos ⟨c, c2⟩]
    · rw [if_neg c2, b2_neg (fun h => c2 h.2)]
  · rw [if_pos ((iN_le (by omega) (by omega)).mpr (by omega)), b2_neg (fun h => c h.1)]
theorem p_l8 {β : Type} {B : ruA} {T : Nat → Int32} {n : Nat} (hb : bsR B T n) (hn : n ≤ 100) {G H : Nat → Int32} (h6 : G 6 = iN n) {p : Nat} (hp : p ≤ n) (K : ruA → Option β) : fX11_next_l8 K ruF (stP B (upd G 15 (iN p)) H) = K (stP B (upd G 15 (iN (rnT (cSp T n) 101 p))) H) := by
  have hge := rnT_ge (c := cSp T n) 101 p
  have hle := rnT_le (c := cSp T n) cSp_lt 101 p hp
  have hst := rnT_stop (c := cSp T n) cSp_lt 101 p (by omega)
  have hin := rnT_in (c := cSp T n) 101 p
  generalize rnT (cSp T n) 101 p = r at *
  have e1 : ∀ v, (upd G 15 v) 6 = iN n := fun v => by rw [upd_ne _ _ (by decide)]; exact h6
  refine loop_inv (fun f q (_ : Unit) => fX11_next_l8 K f (stP B (upd G 15 (iN (p + q))) H)) (r - p) (fun _ => ()) _ ?_ ?_ ruF 0 (Nat.zero_le _) (by rw [ruF_eq]; omega)
  · intro f
    show fX11_next_l8 K (f + 1) (stP B (upd G 15 (iN (p + (r - p)))) H) = _
    rw [show p + (r - p) = r by omega, fX11_next_l8, stP_83, e1, upd_same]
    by_cases c : r < n
    · rw [if_neg (by rw [iN_le (by omega) (by omega)]; omega), p_load hb hn _ _ c, Option.bind_some, if_neg (fun h => hst (cSp_iff.mpr ⟨c, h⟩))]
    · rw [if_pos ((iN_le (by omega) (by omega)).mpr (by omega))]
  · intro f q hq
    show fX11_next_l8 K (f + 1) (stP B (upd G 15 (iN (p + q))) H) = fX11_next_l8 K f (stP B (upd G 15 (iN (p + (q + 1)))) H)
    have hc := cSp_iff.mp (hin (p + q) (by omega) (by omega))
    rw [fX11_next_l8, stP_83, e1, upd_same, if_neg (by rw [iN_le (by omega) (by omega)]; omega), p_load hb hn _ _ hc.1, Option.bind_some, if_pos hc.2, Option.bind_some, stP_set, upd_twoT, iN_add1]
    rfl
theorem p_lW {β : Type} {B : ruA} {T : Nat → Int32} {n : Nat} (hb : bsR B T n) (hn : n ≤ 100) {G H : Nat → Int32} (h6 : G 6 = iN n) (h14 : G 14 = 1) {p : Nat} (hp : p ≤ n) (K : ruA → Option β) : fX11_next_l124 K ruF (stP B (upd G 16 (iN p)) H) = K (stP B (upd G 16 (iN (rnT (cLe T n) 101 p))) H) := by
  have hge := rnT_ge (c := cLe T n) 101 p
  have hle := rnT_le (c := cLe T n) cLe_lt 101 p hp
  have hst := rnT_stop (c := cLe T n) cLe_lt 101 p (by omega)
  have hin := rnT_in (c := cLe T n) 101 p
  generalize rnT (cLe T n) 101 p = r at *
  have e1 : ∀ v, (upd G 16 v) 6 = iN n := fun v => by rw [upd_ne _ _ (by decide)]; exact h6
  have e2 : ∀ v, (upd G 16 v) 14 = 1 := fun v => by rw [upd_ne _ _ (by decide)]; exact h14
  refine loop_inv (fun f q (_ : Unit) => fX11_next_l124 K f (stP B (upd G 16 (iN (p + q))) H)) (r - p) (fun _ => ()) _ ?_ ?_ ruF 0 (Nat.zero_le _) (by rw [ruF_eq]; omega)
  · intro f
    show fX11_next_l124 K (f + 1) (stP B (upd G 16 (iN (p + (r - p)))) H) = _
    rw [show p + (r - p) = r by omega, fX11_next_l124, stP_83, e2, if_pos rfl, upd_same, p_byte hb hn (e1 _) (by omega), Option.bind_some, b2_ne, if_neg (fun h => hst (cLe_iff.mpr h)), if_neg (by decide)]
  · intro f q hq
    show fX11_next_l124 K (f + 1) (stP B (upd G 16 (iN (p + q))) H) = fX11_next_l124 K f (stP B (upd G 16 (iN (p + (q + 1)))) H)
    have hc := cLe_iff.mp (hin (p + q) (by omega) (by omega))
    rw [fX11_next_l124, stP_83, e2, if_pos rfl, upd_same, p_byte hb hn (e1 _) (by omega), Option.bind_some, b2_ne, if_pos hc, Option.bind_some, stP_set, upd_twoT, iN_add1]
    rfl
theorem p_lN {β : Type} {B : ruA} {T : Nat → Int32} {n : Nat} (hb : bsR B T n) (hn : n ≤ 100) {G H : Nat → Int32} (h6 : G 6 = iN n) (h14 : G 14 = 2) {p : Nat} (hp : p ≤ n) (K : ruA → Option β) : fX11_next_l124 K ruF (stP B (upd G 16 (iN p)) H) = K (stP B (upd G 16 (iN (rnT (cDi T n) 101 p))) H) := by
  have hge := rnT_ge (c := cDi T n) 101 p
  have hle := rnT_le (c := cDi T n) cDi_lt 101 p hp
  have hst := rnT_stop (c := cDi T n) cDi_lt 101 p (by omega)
  have hin := rnT_in (c := cDi T n) 101 p
  generalize rnT (cDi T n) 101 p = r at *
  have e1 : ∀ v, (upd G 16 v) 6 = iN n := fun v => by rw [upd_ne _ _ (by decide)]; exact h6
  have e2 : ∀ v, (upd G 16 v) 14 = 2 := fun v => by rw [upd_ne _ _ (by decide)]; exact h14
  refine loop_inv (fun f q (_ : Unit) => fX11_next_l124 K f (stP B (upd G 16 (iN (p + q))) H)) (r - p) (fun _ => ()) _ ?_ ?_ ruF 0 (Nat.zero_le _) (by rw [ruF_eq]; omega)
  · intro f
    show fX11_next_l124 K (f + 1) (stP B (upd G 16 (iN (p + (r - p)))) H) = _
    rw [show p + (r - p) = r by omega, fX11_next_l124, stP_83, e2, if_neg (by decide), if_pos rfl, upd_same, p_byte hb hn (e1 _) (by omega), Option.bind_some, b2_ne, if_neg (fun h => hst (cDi_iff.mpr h))]
  · intro f q hq
    show fX11_next_l124 K (f + 1) (stP B (upd G 16 (iN (p + q))) H) = fX11_next_l124 K f (stP B (upd G 16 (iN (p + (q + 1)))) H)
    have hc := cDi_iff.mp (hin (p + q) (by omega) (by omega))
    rw [fX11_next_l124, stP_83, e2, if_neg (by decide), if_pos rfl, upd_same, p_byte hb hn (e1 _) (by omega), Option.bind_some, b2_ne, if_pos hc, Option.bind_some, stP_set, upd_twoT, iN_add1]
    rfl
theorem rnT_fuel {c : Nat → Bool} {n : Nat} (h : ∀ p, c p = true → p < n) : ∀ f p, n < p + f → rnT c (f + 1) p = rnT c f p
  | 0, p, hp => by
    show (if c p = true then rnT c 0 (p + 1) else p) = p
    rw [if_neg (fun hc => by have := h p hc; omega)]
  | f + 1, p, hp => by
    show (if c p = true then rnT c (f + 1) (p + 1) else p) = if c p = true then rnT c f (p + 1) else p
    rw [rnT_fuel h f (p + 1) (by omega)]
theorem rnT_one {c : Nat → Bool} {n : Nat} (h : ∀ p, c p = true → p < n) (hn : n ≤ 100) {s : Nat} (hc : c s = true) : rnT c 101 (s + 1) = rnT c 101 s := by
  rw [rnT_fuel h 100 (s + 1) (by omega)]
  show _ = if c s = true then rnT c 100 (s + 1) else s
  rw [if_pos hc]
theorem p_next {B : ruA} {T : Nat → Int32} {n : Nat} (hb : bsR B T n) (hn : n ≤ 100) {G H : Nat → Int32} {p : Nat} (h6 : G 6 = iN n) (h16 : G 16 = iN p) (hp : p ≤ n) : ∃ G', fX11_next (stP B G H) = some (stP B G' H) ∧ tokR T n G' (rnT (cSp T n) 101 p) ∧ ∀ j, j ≠ 14 ∧ j ≠ 15 ∧ j ≠ 16 → G' j = G j := by
  have hle := rnT_le (c := cSp T n) cSp_lt 101 p hp
  unfold fX11_next
  rw [stP_83, h16, stP_set, Option.bind_some, p_l8 hb hn h6 hp]
  generalize rnT (cSp T n) 101 p = s at *
  rw [stP_83, upd_same, stP_set, Option.bind_some, stP_83]
  generalize hG2 : upd (upd G 15 (iN s)) 16 (iN s) = G2
  have g6 : G2 6 = iN n := by rw [← hG2]; simp (disch := omega) only [upd_same, upd_ne]; exact h6
  have g15 : G2 15 = iN s := by rw [← hG2]; simp (disch := omega) only [upd_same, upd_ne]
  have g16 : G2 16 = iN s := by rw [← hG2]; simp (disch := omega) only [upd_same, upd_ne]
  have gk : ∀ j, j ≠ 14 ∧ j ≠ 15 ∧ j ≠ 16 → G2 j = G j := fun j hj => by rw [← hG2, upd_ne _ _ hj.2.2, upd_ne _ _ hj.2.1]
  clear hG2
  rw [g15, g6]
  by_cases c : s < n
  · have hnc : ¬ n ≤ s := by omega
    rw [if_neg (by rw [iN_inj (by omega) (by omega)]; omega), p_byte hb hn g6 hle, Option.bind_some, b2_ne, p_byte hb hn g6 hle, Option.bind_some, b2_ne]
    have hv : (if s < n ∧ 97 ≤ T s ∧ T s ≤ 122 then some (1 : Int32) else if s < n ∧ 48 ≤ T s ∧ T s ≤ 57 then some 2 else some 3) = some (tS T n s) := by
      unfold tS
      rw [if_neg hnc]
      by_cases c1 : isLe (T s)
      · rw [if_pos ⟨c, c1⟩, if_pos c1]
      · rw [if_neg (fun h => c1 h.2), if_neg c1]
        by_cases c2 : isDi (T s)
        · rw [if_pos ⟨c, c2⟩, if_pos c2]
        · rw [if_neg (fun h => c2 h.2), if_neg c2]
    rw [hv, Option.bind_some, stP_set, Option.bind_some, stP_83, upd_ne _ _ (show 16 ≠ 14 by decide), g16, stP_set, Option.bind_some, iN_add1]
    have k6 : (upd G2 14 (tS T n s)) 6 = iN n := by rw [upd_ne _ _ (by decide)]; exact g6
    have k14 : (upd G2 14 (tS T n s)) 14 = tS T n s := upd_same _ _ _
    have fin : ∀ e, e = tE T n s → tokR T n (upd (upd G2 14 (tS T n s)) 16 (iN e)) s ∧ ∀ j, j ≠ 14 ∧ j ≠ 15 ∧ j ≠ 16 → (upd (upd G2 14 (tS T n s)) 16 (iN e)) j = G j := by
      intro e he
      refine ⟨⟨?_, ?_, ?_⟩, fun j hj => ?_⟩
      · simp (disch := omega) only [upd_same, upd_ne]
      · simp (disch := omega) only [upd_same, upd_ne]
        exact g15
      · rw [upd_same, he]
      · rw [upd_ne _ _ hj.2.2, upd_ne _ _ hj.1]
        exact gk j hj
    by_cases c1 : isLe (T s)
    · have eS : tS T n s = 1 := by
        unfold tS
        rw [if_neg hnc, if_pos c1]
      have eE : tE T n s = rnT (cLe T n) 101 s := by
        unfold tE
        rw [if_neg hnc, if_neg (fun h => di_not_le h c1), if_pos c1]
      rw [p_lW hb hn k6 (k14.trans eS) (by omega), rnT_one cLe_lt hn (cLe_iff.mpr ⟨c, c1⟩)]
      exact ⟨_, rfl, fin _ eE.symm⟩
    · by_cases c2 : isDi (T s)
      · have eS : tS T n s = 2 := by
          unfold tS
          rw [if_neg hnc, if_neg c1, if_pos c2]
        have eE : tE T n s = rnT (cDi T n) 101 s := by
          unfold tE
          rw [if_neg hnc, if_pos c2]
        rw [p_lN hb hn k6 (k14.trans eS) (by omega), rnT_one cDi_lt hn (cDi_iff.mpr ⟨c, c2⟩)]
        exact ⟨_, rfl, fin _ eE.symm⟩
      · have eS : tS T n s = 3 := by
          unfold tS
          rw [if_neg hnc, if_neg c1, if_neg c2]
        have eE : tE T n s = s + 1 := by
          unfold tE
          rw [if_neg hnc, if_neg c2, if_neg c1]
        have hx : fX11_next_l124 (fun A17 => some A17) ruF (stP B (upd (upd G2 14 (tS T n s)) 16 (iN (s + 1))) H) = some (stP B (upd (upd G2 14 (tS T n s)) 16 (iN (s + 1))) H) := by
          rw [show ruF = 19999 + 1 from rfl, fX11_next_l124, stP_83, upd_ne _ _ (show 14 ≠ 16 by decide), upd_same, eS, if_neg (by decide), if_neg (by decide)]
        rw [hx]
        exact ⟨_, rfl, fin _ eE.symm⟩
  · rw [if_pos (by rw [show s = n by omega]), stP_set, Option.bind_some]
    refine ⟨_, rfl, ⟨?_, ?_, ?_⟩, fun j hj => ?_⟩
    · rw [upd_same]
      unfold tS
      rw [if_pos (by omega)]
    · simp (disch := omega) only [upd_same, upd_ne]
      exact g15
    · simp (disch := omega) only [upd_same, upd_ne]
      rw [g16]
      unfold tE
      rw [if_pos (by omega)]
    · rw [upd_ne _ _ hj.1]
      exact gk j hj
/-- good and bad states of the reference -/
def goodR (T : Nat → Int32) (n : Nat) (G : Nat → Int32) (s : Nat) : Prop := tokR T n G s ∧ G 17 = 0
def badR (G : Nat → Int32) (s : Nat) : Prop := G 15 = iN s ∧ G 17 = 1
def kpG (G G' : Nat → Int32) : Prop := ∀ j, j ≠ 14 ∧ j ≠ 15 ∧ j ≠ 16 ∧ j ≠ 17 ∧ j ≠ 18 ∧ j ≠ 20 → G' j = G j
theorem p_need1 {B : ruA} {T : Nat → Int32} {n : Nat} (hb : bsR B T n) (hn : n ≤ 100) {G H : Nat → Int32} {s : Nat} (h : goodR T n G s) (h6 : G 6 = iN n) (hs : s ≤ n) {v : Int32} (hv : ¬ v = 0) : ∃ G', fX11_need v (stP B G H) = some (stP B G' H) ∧ goodR T n G' (nx T n s) ∧ ∀ j, j ≠ 14 ∧ j ≠ 15 ∧ j ≠ 16 → G' j = G j := by
  obtain ⟨G', g1, g2, g3⟩ := p_next (H := H) hb hn h6 h.1.2.2 (tE_le hs)
  refine ⟨G', ?_, ⟨g2, (g3 17 (by decide)).trans h.2⟩, g3⟩
  unfold fX11_need
  rw [stP_83, if_pos h.2, if_neg hv, Option.bind_some, show rubz 0 = some () from rfl, Option.bind_some, stP_set, upd_selfT h.2, Option.bind_some, stP_83, if_pos h.2, g1, Option.bind_some]
theorem p_need0 {B : ruA} {T : Nat → Int32} {n : Nat} {G H : Nat → Int32} {s : Nat} (h : goodR T n G s) : fX11_need 0 (stP B G H) = some (stP B (upd G 17 1) H) ∧ badR (upd G 17 1) s := by
  refine ⟨?_, ?_, upd_same _ _ _⟩
  · unfold fX11_need
    rw [stP_83, if_pos h.2, if_pos rfl, Option.bind_some, show rubz 1 = some () from rfl, Option.bind_some, stP_set, Option.bind_some, stP_83, upd_same, if_neg (by decide)]
  · rw [upd_ne _ _ (by decide)]
    exact h.1.2.1
theorem p_needB (B : ruA) {G H : Nat → Int32} (h : G 17 = 1) (v : Int32) : fX11_need v (stP B G H) = some (stP B G H) := by
  unfold fX11_need
  rw [stP_83, h, if_neg (by decide), Option.bind_some, show rubz 1 = some () from rfl, Option.bind_some, stP_set, upd_selfT h, Option.bind_some, stP_83, h, if_neg (by decide)]
theorem p_sign {B : ruA} {T : Nat → Int32} {n : Nat} (hb : bsR B T n) (hn : n ≤ 100) {G H : Nat → Int32} {s : Nat} (h : goodR T n G s) {c : Int32} (hc : ¬ 256 = c ∧ ¬ 257 = c ∧ ¬ 258 = c) : fX11_isSign c (stP B G H) = some (b2 (tG T n s = c)) := by
  unfold fX11_isSign
  rw [stP_83, if_pos h.2, h.1.1, h.1.2.1]
  unfold tS tG
  by_cases c0 : n ≤ s
  · rw [if_pos c0, if_neg (by decide), if_pos c0, b2_neg hc.2.1]
  · rw [if_neg c0, if_neg c0]
    by_cases c1 : isLe (T s)
    · rw [if_pos c1, if_neg (by decide), if_neg (fun h => di_not_le h c1), if_pos c1, b2_neg]
      split
      · exact hc.1
      · exact hc.2.2
    · rw [if_neg c1, if_neg c1]
      by_cases c2 : isDi (T s)
      · rw [if_pos c2, if_neg (by decide), if_pos c2, b2_neg]
        split
        · exact hc.1
        · exact hc.2.2
      · rw [if_neg c2, if_pos rfl, if_neg c2, p_load hb hn G H (by omega), Option.bind_some]
        unfold b2
        split <;> rfl
theorem p_signB (B : ruA) {G H : Nat → Int32} (h : G 17 = 1) (c : Int32) : fX11_isSign c (stP B G H) = some 0 := by
  unfold fX11_isSign
  rw [stP_83, h, if_neg (by decide)]
theorem p_emit (B : ruA) {G H : Nat → Int32} (h : G 17 = 0) {k : Nat} (hk : k < 200) (h20 : G 20 = iN k) (v : Int32) : fX11_emit v (stP B G H) = some (stP B (upd G 20 (iN (k + 1))) (upd H k v)) := by
  unfold fX11_emit
  rw [stP_83, if_pos h, h20, stP_st B G H hk, Option.bind_some, stP_83, h20, stP_set, Option.bind_some, iN_add1]
theorem p_emitB (B : ruA) {G H : Nat → Int32} (h : G 17 = 1) (v : Int32) : fX11_emit v (stP B G H) = some (stP B G H) := by
  unfold fX11_emit
  rw [stP_83, h, if_neg (by decide)]
