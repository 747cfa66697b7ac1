/-! LEVEL 2: way -/
theorem Inv.taped {W : ruWy} {A C : ruA} (hI : Inv W A) (eK : ∀ k, (33 ≤ k ∧ k ≤ 62) ∨ (74 ≤ k ∧ k ≤ 82) ∨ (85 ≤ k ∧ k ≤ 90) → C.1 k = A.1 k) (e0 : C.1 0 2 = A.1 0 2 ∧ C.1 0 12 = A.1 0 12 ∧ C.1 0 9 = 0) (e8 : C.1 83 2 = A.1 83 2 ∧ C.1 83 3 = A.1 83 3 ∧ C.1 83 6 = 0) (hc : CB W C.1 1 (C.1 84)) : Inv W C := by
  obtain ⟨-, h2, h3, h4, h5⟩ := hI
  have e9 : cn (C.1 83) 6 = 0 := cn_iN (n := 0) e8.2.2 (by omega)
  refine ⟨hc, ?_, h3.congr ⟨eK 82 (by omega), eK 86 (by omega)⟩ ⟨e0.1, e0.2.1⟩ ⟨e8.1, e8.2.1⟩, ⟨⟨?_, ?_, ?_⟩, fun i hi => ?_⟩, h5.congr fun k hk => eK k (by omega)⟩
  · rw [eK 85 (by omega)]
    exact h2.congr fun k a b => eK k (by omega)
  · rw [e0.2.2, e8.2.2]
  · rw [e9, e8.2.2]
    rfl
  · rw [e9]
    omega
  · rw [e9] at hi
    omega
theorem rucpy_part (A : ruA) (k0 k1 : Nat) {n : Nat} (hn : n ≤ 100) : rucpy A k0 100 0 k1 100 0 (iN n) = some (rusetA A k1 (va_cpy (A.1 k0) (A.1 k1) 0 0 n)) := by
  unfold rucpy
  have e0 : (0 : Int32).toNatClampNeg = 0 := by decide
  rw [iN_toNat (by omega), e0, if_neg]
  rintro (h | h | h | h | h)
  · exact absurd h (by decide)
  · exact absurd h (by decide)
  · exact iN_lt_zero (by omega) h
  · omega
  · omega
theorem wy_ref (A : ruA) {w : Nat} (hw : w < 6) : rulr A 15 6 (iN w) = some (16 + w) := by
  rw [rulr_iN hw (by decide)]
  have : w = 0 ∨ w = 1 ∨ w = 2 ∨ w = 3 ∨ w = 4 ∨ w = 5 := by omega
  rcases this with rfl | rfl | rfl | rfl | rfl | rfl <;> rfl
theorem wy_I {w : Nat} (hw : w < 6) : rudI (16 + w) = some 100 := by
  have : w = 0 ∨ w = 1 ∨ w = 2 ∨ w = 3 ∨ w = 4 ∨ w = 5 := by omega
  rcases this with rfl | rfl | rfl | rfl | rfl | rfl <;> rfl
theorem f9_taken (A : ruA) {w n : Nat} (hw : w < 6) (hn : n ≤ 100) (e : A.1 14 0 = iN w) : fX9_taken (iN n) A = some (iN w, ruset (ruset (rusetA A (16 + w) (va_cpy (A.1 72) (A.1 (16 + w)) 0 0 n)) 22 w (iN n)) 14 0 (iN (w + 1))) := by
  have e2 : (ruset (rusetA A (16 + w) (va_cpy (A.1 72) (A.1 (16 + w)) 0 0 n)) 22 w (iN n)).1 14 0 = iN w := by
    rw [rs_ne _ _ _ (by decide), rsA_ne _ _ (by omega)]
    exact e
  unfold fX9_taken
  rw [e, wy_ref A hw, Option.bind_some, wy_I hw, Option.bind_some, rucpy_part A 72 _ hn, Option.bind_some, rust_iN hw (by decide), Option.bind_some, e2, iN_add1, Option.bind_some]
def cpS (N : Nat → Int32) (b : Nat) (f : Nat → Int32) : Nat → Nat → Int32
  | 0 => N
  | j + 1 => upd (cpS N b f j) (b + 1 + j) (f j)
theorem cpS_in {N : Nat → Int32} {b : Nat} {f : Nat → Int32} {i : Nat} : ∀ j, i < j → cpS N b f j (b + 1 + i) = f i
  | 0, h => by omega
  | j + 1, h => by
    show upd (cpS N b f j) (b + 1 + j) (f j) (b + 1 + i) = f i
    by_cases e : i = j
    · rw [e, upd_same]
    · rw [upd_ne _ _ (by omega)]
      exact cpS_in j (by omega)
theorem cpS_out {N : Nat → Int32} {b : Nat} {f : Nat → Int32} {k : Nat} : ∀ j, (k ≤ b ∨ b + 1 + j ≤ k) → cpS N b f j k = N k
  | 0, _ => rfl
  | j + 1, h => by
    show upd (cpS N b f j) (b + 1 + j) (f j) k = N k
    rw [upd_ne _ _ (by omega)]
    exact cpS_out j (by omega)
theorem p_copy {β : Type} (Y : ruA) (N : Nat → Int32) {b m : Nat} (hb : b + 101 ≤ 4920) (hm : m ≤ 100) (h20 : Y.1 83 20 = iN m) (K : ruA → Option β) : fX11_way_l116 (iN b) K ruF 0 (rusetA Y 84 N) = K (rusetA Y 84 (cpS N b (Y.1 92) m)) := by
  have e83 : ∀ M, (rusetA Y 84 M).1 83 20 = iN m := fun M => by rw [rsA_ne _ _ (by decide)]; exact h20
  have e92 : ∀ M, (rusetA Y 84 M).1 92 = Y.1 92 := fun M => rsA_ne _ _ (by decide)
  refine loop_inv (fun f j (M : Nat → Int32) => fX11_way_l116 (iN b) K f (iN j) (rusetA Y 84 M)) m (fun j => cpS N b (Y.1 92) j) _ ?_ ?_ ruF 0 (Nat.zero_le _) (by rw [ruF_eq]; omega)
  · intro f
    show fX11_way_l116 (iN b) K (f + 1) (iN m) (rusetA Y 84 (cpS N b (Y.1 92) m)) = _
    rw [fX11_way_l116, e83, if_pos ((iN_le (by omega) (by omega)).mpr (Nat.le_refl _))]
  · intro f j hj
    show fX11_way_l116 (iN b) K (f + 1) (iN j) (rusetA Y 84 (cpS N b (Y.1 92) j)) = fX11_way_l116 (iN b) K f (iN (j + 1)) (rusetA Y 84 (upd (cpS N b (Y.1 92) j) (b + 1 + j) (Y.1 92 j)))
    rw [fX11_way_l116, e83, if_neg (by rw [iN_le (by omega) (by omega)]; omega), e92, ruld_iN (by omega) (by decide), Option.bind_some, iN_add1 b, iN_add, rust84 _ _ _ (by omega), Option.bind_some, iN_add1]
def wayR (A7 : ruA) : Option (Int32 × ruA) :=
  ((if (A7.1 83 17) = 0 then
  (if (A7.1 83 14) = 0 then
  some (0 : Int32)
else
  some (1 : Int32))
else
  some (1 : Int32))).bind fun v8 =>
  (rubz v8).bind fun _ =>
  (some (ruset A7 83 17 v8)).bind fun A9 =>
  (some (ruset A9 83 6 (0 : Int32))).bind fun A10 =>
  (if (A10.1 83 17) = 0 then
  (ruld (A10.1 84) 4920 (3 : Int32)).bind fun v11 =>
  (rust A10 84 4920 ((4160 : Int32) + ((104 : Int32) * v11)) (A10.1 83 20)).bind fun A12 =>
  fX11_way_l116 ((4160 : Int32) + ((104 : Int32) * v11))
  (fun A15 => (ruld (A15.1 84) 4920 (3 : Int32)).bind fun v16 =>
  (rust A15 84 4920 (3 : Int32) (v16 + (1 : Int32))).bind fun A17 =>
  (ruld (A17.1 84) 4920 (3 : Int32)).bind fun v18 =>
  some ((v18 - (1 : Int32)), A17)) ruF (0 : Int32) A12
else
  some (((-1 : Int32) - (A9.1 83 15)), A10))
theorem way_eq (A : ruA) : fX11_way A = (ruld (A.1 84) 4920 (3 : Int32)).bind fun v1 => (if v1 = (6 : Int32) then ruB2 (fX11_finding (-1000002 : Int32) A) fun v19 A20 => some (v19, A20) else (some (ruset A 83 16 (0 : Int32))).bind fun A2 => (some (ruset A2 83 17 (0 : Int32))).bind fun A3 => (some (ruset A3 83 18 (0 : Int32))).bind fun A4 => (some (ruset A4 83 20 (0 : Int32))).bind fun A5 => (fX11_next A5).bind fun A6 => (fX11_eitherT A6).bind fun A7 => wayR A7) := by
  unfold fX11_way wayR
  rfl
theorem l3A (A : ruA) : ruld (A.1 84) 4920 3 = some (A.1 84 3) := ruld_iN (i := 3) (by decide) (by decide)
theorem way_in {X : ruA} {G' H' : Nat → Int32} {w : Nat} (hw : w < 6) (e3 : X.1 84 3 = iN w) (hrun : ((fX11_next (stP X (upd (upd (upd (upd (X.1 83) 16 0) 17 0) 18 0) 20 0) (X.1 92))).bind fun A6 => fX11_eitherT A6) = some (stP X G' H')) : fX11_way X = wayR (stP X G' H') := by
  have e16 : ruset X 83 16 0 = stP X (upd (X.1 83) 16 0) (X.1 92) := by
    have := stP_set X (X.1 83) (X.1 92) 16 0
    rw [stP_self] at this
    exact this
  rw [way_eq, l3A, Option.bind_some, e3, li6, if_neg (by rw [iN_inj (by omega) (by omega)]; omega), Option.bind_some, e16, Option.bind_some, stP_set, Option.bind_some, stP_set, Option.bind_some, stP_set, ← Option.bind_assoc, hrun, Option.bind_some]
theorem wayR_bad {X : ruA} {G' H' : Nat → Int32} (hz : G' 17 = 1 ∨ (G' 17 = 0 ∧ ¬ G' 14 = 0)) : wayR (stP X G' H') = some ((-1 : Int32) - G' 15, stP X (upd (upd G' 17 1) 6 0) H') := by
  have hv : (if G' 17 = 0 then (if G' 14 = 0 then some (0 : Int32) else some 1) else some 1) = some 1 := by
    rcases hz with h | ⟨h, h2⟩
    · rw [h, if_neg (by decide)]
    · rw [if_pos h, if_neg h2]
  have q17 : (upd (upd G' 17 1) 6 0) 17 = 1 := by simp (disch := omega) only [upd_same, upd_ne]
  have q15 : (upd G' 17 1) 15 = G' 15 := by simp (disch := omega) only [upd_same, upd_ne]
  unfold wayR
  rw [stP_83, hv, Option.bind_some, show rubz 1 = some () from rfl, Option.bind_some, stP_set, Option.bind_some, stP_set, Option.bind_some, stP_83, stP_83, q17, q15, if_neg (by decide)]
theorem wayR_good {X : ruA} {G' H' : Nat → Int32} {w m : Nat} (hw : w < 6) (hm : m ≤ 100) (e3 : X.1 84 3 = iN w) (h17 : G' 17 = 0) (h14 : G' 14 = 0) (h20 : G' 20 = iN m) : wayR (stP X G' H') = some (iN w, rusetA (stP X (upd G' 6 0) H') 84 (upd (cpS (upd (X.1 84) (4160 + 104 * w) (iN m)) (4160 + 104 * w) H' m) 3 (iN (w + 1)))) := by
  have hv : (if G' 17 = 0 then (if G' 14 = 0 then some (0 : Int32) else some 1) else some 1) = some 0 := by rw [if_pos h17, if_pos h14]
  have q17 : (upd G' 6 0) 17 = 0 := by rw [upd_ne _ _ (by decide)]; exact h17
  have q20 : (upd G' 6 0) 20 = iN m := by rw [upd_ne _ _ (by decide)]; exact h20
  have q84 : (stP X (upd G' 6 0) H').1 84 = X.1 84 := stP_k X _ _ (by decide)
  have hN : stP X (upd G' 6 0) H' = rusetA (stP X (upd G' 6 0) H') 84 (X.1 84) := (self84 q84).symm
  have hst : ∀ (i : Nat) (v : Int32), i < 4920 → rust (stP X (upd G' 6 0) H') 84 4920 (iN i) v = some (rusetA (stP X (upd G' 6 0) H') 84 (upd (X.1 84) i v)) := by
    intro i v hi
    have := rust84 (stP X (upd G' 6 0) H') (X.1 84) v hi
    rw [← hN] at this
    exact this
  have hc3 : cpS (upd (X.1 84) (4160 + 104 * w) (iN m)) (4160 + 104 * w) H' m 3 = iN w := by
    rw [cpS_out m (by omega), upd_ne _ _ (by omega)]
    exact e3
  unfold wayR
  rw [stP_83, hv, Option.bind_some, show rubz 0 = some () from rfl, Option.bind_some, stP_set, upd_selfT h17, Option.bind_some, stP_set, Option.bind_some, stP_83, stP_83, q17, if_pos rfl, l3A, q84, e3, Option.bind_some, li4160, li104, iN_mul, iN_add, q20, hst _ _ (by omega), Option.bind_some, p_copy _ _ (by omega) hm (by rw [stP_83]; exact q20), stP_92, li3, ruld84 _ _ (by decide), Option.bind_some, hc3, iN_add1, rust84 _ _ _ (by decide), Option.bind_some, ruld84 _ _ (by decide), upd_same, Option.bind_some, iN_sub1 (by omega), Nat.add_sub_cancel]
