/-! LEVEL 2: marks on sheets -/
/-- which of the three a rubbing is -/
def rubW (was v key : Int32) : Nat := if v = key then 0 else if was = key then 1 else 2
theorem rubW_lt (was v key : Int32) : rubW was v key < 3 := by
  unfold rubW
  repeat' split
  all_goals omega
/-- a hand marks question q of sheet s -/
def nPut (N : Nat → Int32) (s q : Nat) (kind v : Int32) : Nat → Int32 := upd (upd N (129 + 28 * s + q) v) (141 + 28 * s + q) kind
def nRub (N : Nat → Int32) (s w : Nat) : Nat → Int32 := upd N (153 + 28 * s + w) (N (153 + 28 * s + w) + 1)
def nMark (N : Nat → Int32) (s q : Nat) (kind v : Int32) : Nat → Int32 :=
  if N (129 + 28 * s + q) = v then N else nPut (if N (129 + 28 * s + q) = -1 then N else nRub N s (rubW (N (129 + 28 * s + q)) v (N (8 + q)))) s q kind v
theorem nPut_out {N : Nat → Int32} {s q : Nat} {kind v : Int32} (hs : s < 144) (hq : q < 12) {i : Nat} (h : i < 128 ∨ 4160 ≤ i) : nPut N s q kind v i = N i := by
  unfold nPut
  rw [upd_ne _ _ (by omega), upd_ne _ _ (by omega)]
theorem nRub_out {N : Nat → Int32} {s w : Nat} (hs : s < 144) (hw : w < 3) {i : Nat} (h : i < 128 ∨ 4160 ≤ i) : nRub N s w i = N i := by
  unfold nRub
  rw [upd_ne _ _ (by omega)]
theorem nMark_out {N : Nat → Int32} {s q : Nat} {kind v : Int32} (hs : s < 144) (hq : q < 12) {i : Nat} (h : i < 128 ∨ 4160 ≤ i) : nMark N s q kind v i = N i := by
  unfold nMark
  split
  · rfl
  · rw [nPut_out hs hq h]
    split
    · rfl
    · rw [nRub_out hs (rubW_lt _ _ _) h]
/-- the class, between calls, against a row that changes in its sheets alone -/
def coup (A0 A : ruA) (N0 N : Nat → Int32) : Prop := shC A N ∧ (∀ k, k < 10 ∨ 13 < k → A.1 k = A0.1 k) ∧ ∀ i, i < 128 ∨ 4160 ≤ i → N i = N0 i
theorem shC_rub {A : ruA} {N : Nat → Int32} (h : shC A N) {s w : Nat} (hs : s < 144) (hw : w < 3) : shC (ruset A 13 (3 * s + w) (N (153 + 28 * s + w) + 1)) (nRub N s w) := by
  obtain ⟨h1, h2, h3, h4⟩ := h
  have eN : ∀ i, i ≠ 153 + 28 * s + w → nRub N s w i = N i := fun i hi => upd_ne _ _ hi
  refine ⟨h1.congr ⟨rfl, rfl⟩ fun i a b => eN i (by omega), h2.congr rfl (eN 2 (by omega)) fun i a => eN _ (by omega), h3.congr ⟨rfl, rfl⟩ fun i a j b => eN _ (by omega), ?_⟩
  intro t ht k hk
  by_cases e : t = s ∧ k = w
  · obtain ⟨rfl, rfl⟩ := e
    show (ruset A 13 (3 * t + k) _).1 13 (3 * t + k) = _
    rw [rs_eq, upd_same]
    exact (upd_same _ _ _).symm
  · show (ruset A 13 (3 * s + w) _).1 13 (3 * t + k) = _
    rw [rs_eq, upd_ne _ _ (by omega), eN _ (by omega)]
    exact h4 t ht k hk
theorem shC_put {A : ruA} {N : Nat → Int32} (h : shC A N) {s q : Nat} (hs : s < 144) (hq : q < 12) {kind v : Int32} (hk : 0 ≤ kind ∧ kind ≤ 7) (hv : -1 ≤ v ∧ v ≤ 3) : shC (ruset (ruset A 11 (12 * s + q) v) 12 (12 * s + q) kind) (nPut N s q kind v) := by
  obtain ⟨h1, h2, h3, h4⟩ := h
  have eN : ∀ i, i ≠ 129 + 28 * s + q → i ≠ 141 + 28 * s + q → nPut N s q kind v i = N i := by
    intro i a b
    unfold nPut
    rw [upd_ne _ _ b, upd_ne _ _ a]
  refine ⟨h1.congr ⟨rfl, rfl⟩ fun i a b => eN i (by omega) (by omega), h2.congr rfl (eN 2 (by omega) (by omega)) fun i a => eN _ (by omega) (by omega), ?_, h4.congr rfl fun i a j b => eN _ (by omega) (by omega)⟩
  intro t ht p hp
  have e11 : (ruset (ruset A 11 (12 * s + q) v) 12 (12 * s + q) kind).1 (1 + 10) = upd (A.1 11) (12 * s + q) v := rfl
  have e12 : (ruset (ruset A 11 (12 * s + q) v) 12 (12 * s + q) kind).1 (1 + 11) = upd (A.1 12) (12 * s + q) kind := rfl
  rw [e11, e12]
  by_cases e : t = s ∧ p = q
  · obtain ⟨rfl, rfl⟩ := e
    have a1 : nPut N t p kind v (129 + 28 * t + p) = v := by
      unfold nPut
      rw [upd_ne _ _ (by omega), upd_same]
    have a2 : nPut N t p kind v (141 + 28 * t + p) = kind := upd_same _ _ _
    rw [a1, a2, upd_same, upd_same]
    exact ⟨rfl, hv, rfl, hk⟩
  · rw [upd_ne _ _ (by omega), upd_ne _ _ (by omega), eN _ (by omega) (by omega), eN _ (by omega) (by omega)]
    exact h3 t ht p hp
theorem f10_rubbing (was v key : Int32) (h : ¬ was = v) : fX6_rubbing was v key = some (iN (rubW was v key)) := by
  unfold fX6_rubbing rubW
  by_cases h1 : was = key
  · rw [if_pos h1, if_neg (fun e => h (h1.trans e.symm)), if_pos h1]
    rfl
  · rw [if_neg h1]
    by_cases h2 : v = key
    · rw [if_pos h2, if_pos h2]
      rfl
    · rw [if_neg h2, if_neg h2, if_neg h1]
      rfl
theorem f10_marks {A0 A : ruA} {N0 N : Nat → Int32} (h : coup A0 A N0 N) {s q : Nat} (hs : s < 144) (hq : q < 12) {kind v : Int32} (hk : 0 ≤ kind ∧ kind ≤ 7) (hv : -1 ≤ v ∧ v ≤ 3) : ∃ B, fX10_marks (iN s) (iN q) kind v A = some (b2 (¬ N (129 + 28 * s + q) = v), B) ∧ coup A0 B N0 (nMark N s q kind v) := by
  obtain ⟨sh, e1, e2⟩ := h
  have r11 : ruld (A.1 11) 1728 (iN s * 12 + iN q) = some (N (129 + 28 * s + q)) := by
    have := f10_choiceAt sh hs hq
    unfold fX6_choiceAt at this
    cases hh : ruld (A.1 11) 1728 (iN s * 12 + iN q) with
    | none => rw [hh] at this; cases this
    | some u => rw [hh] at this; exact this
  have r11n : A.1 11 (12 * s + q) = N (129 + 28 * s + q) := (sh.2.2.1 s hs q hq).1
  by_cases c1 : N (129 + 28 * s + q) = v
  · refine ⟨A, ?_, ?_⟩
    · simp only [fX10_marks, f10_key sh hq, Option.bind_some, fX6_marked, r11, if_pos c1, ruB2_some, b2_neg (fun h2 : ¬ N (129 + 28 * s + q) = v => h2 c1), rubz_01 (Or.inl rfl)]
    · unfold nMark
      rw [if_pos c1]
      exact ⟨sh, e1, e2⟩
  · by_cases c2 : N (129 + 28 * s + q) = -1
    · refine ⟨ruset (ruset A 11 (12 * s + q) v) 12 (12 * s + q) kind, ?_, ?_⟩
      · simp (disch := omega) only [fX10_marks, f10_key sh hq, Option.bind_some, fX6_marked, li12, iN_mul, iN_add, Nat.mul_comm s 12, ruld_iN, r11n, if_neg c1, if_pos c2, ruB2_some, rust_iN, b2_pos c1, rubz_01 (Or.inr rfl), Nat.mul_comm s 12]
      · unfold nMark
        rw [if_neg c1, if_pos c2]
        refine ⟨shC_put sh hs hq hk hv, fun k hk => ?_, fun i hi => ?_⟩
        · rw [rs_ne _ _ _ (by omega), rs_ne _ _ _ (by omega)]
          exact e1 k hk
        · rw [nPut_out hs hq hi]
          exact e2 i hi
    · have hw := rubW_lt (N (129 + 28 * s + q)) v (N (8 + q))
      have hrb := f10_rubbing (N (129 + 28 * s + q)) v (N (8 + q)) c1
      generalize hwe : rubW (N (129 + 28 * s + q)) v (N (8 + q)) = w at *
      have r13 : A.1 13 (3 * s + w) = N (153 + 28 * s + w) := sh.2.2.2 s hs w hw
      refine ⟨ruset (ruset (ruset A 13 (3 * s + w) (N (153 + 28 * s + w) + 1)) 11 (12 * s + q) v) 12 (12 * s + q) kind, ?_, ?_⟩
      · simp (disch := omega) only [fX10_marks, f10_key sh hq, Option.bind_some, fX6_marked, li12, li3, iN_mul, iN_add, Nat.mul_comm s 12, Nat.mul_comm s 3, ruld_iN, r11n, if_neg c1, if_neg c2, hrb, ruB2_some, rust_iN, b2_pos c1, rubz_01 (Or.inr rfl), Nat.mul_comm s 12, Nat.mul_comm s 3, r13]
      · unfold nMark
        rw [if_neg c1, if_neg c2, hwe]
        refine ⟨shC_put (shC_rub sh hs hw) hs hq hk hv, fun k hk => ?_, fun i hi => ?_⟩
        · rw [rs_ne _ _ _ (by omega), rs_ne _ _ _ (by omega), rs_ne _ _ _ (by omega)]
          exact e1 k hk
        · rw [nPut_out hs hq hi, nRub_out hs hw hi]
          exact e2 i hi
/-- the reference's mark: c's sheet of the open year y -/
theorem rusetA_at (A : ruA) (N : Nat → Int32) : (rusetA A 84 N).1 84 = N := rsA_same _ _ _
theorem rust84 (A : ruA) (N : Nat → Int32) {i : Nat} (v : Int32) (h : i < 4920) : rust (rusetA A 84 N) 84 4920 (iN i) v = some (rusetA A 84 (upd N i v)) := by
  rw [rust_iN h (by decide), ruset_eq, rusetA_at, rusetA_two]
theorem ruld84 (A : ruA) (N : Nat → Int32) {i : Nat} (h : i < 4920) : ruld ((rusetA A 84 N).1 84) 4920 (iN i) = some (N i) := by
  rw [rusetA_at, ruld_iN h (by decide)]
theorem ruld84_0 (A : ruA) (N : Nat → Int32) : ruld ((rusetA A 84 N).1 84) 4920 0 = some (N 0) := ruld84 A N (i := 0) (by decide)
theorem ruld84_2 (A : ruA) (N : Nat → Int32) : ruld ((rusetA A 84 N).1 84) 4920 2 = some (N 2) := ruld84 A N (i := 2) (by decide)
theorem f11_put (A : ruA) (N : Nat → Int32) {s q : Nat} (hs : s < 144) (hq : q < 12) (kind v : Int32) : fX11_put (iN (128 + 28 * s)) (iN q) kind v (rusetA A 84 N) = some (rusetA A 84 (nPut N s q kind v)) := by
  simp (disch := omega) only [fX11_put, iN_add1, li13, iN_add, rust84, Option.bind_some, show 128 + 28 * s + 1 + q = 129 + 28 * s + q by omega, show 128 + 28 * s + 13 + q = 141 + 28 * s + q by omega]
  rfl
theorem f11_marks (A : ruA) (N : Nat → Int32) {c y q : Nat} (hc : c < 24) (hy : y < 6) (hq : q < 12) (hN : N 0 = iN y) (kind v : Int32) : fX11_marks (iN c) (iN q) kind v (rusetA A 84 N) = some (b2 (¬ N (129 + 28 * (6 * c + y) + q) = v), rusetA A 84 (nMark N (6 * c + y) q kind v)) := by
  have hs : 6 * c + y < 144 := by omega
  generalize he : 6 * c + y = s at *
  have a1 : 128 + 28 * s + 1 + q = 129 + 28 * s + q := by omega
  have sa : fX11_sheetAt (iN c) (iN y) = some (iN (128 + 28 * s)) := by rw [e11_sheetAt, he]
  have l1 : ruld ((rusetA A 84 N).1 84) 4920 (iN (128 + 28 * s) + 1 + iN q) = some (N (129 + 28 * s + q)) := by
    rw [iN_add1, iN_add, a1, ruld84 A N (by omega)]
  unfold fX11_marks
  rw [ruld84_0, Option.bind_some, hN, sa, Option.bind_some, l1, Option.bind_some]
  unfold nMark
  by_cases c1 : N (129 + 28 * s + q) = v
  · rw [if_pos c1, if_pos c1, b2_neg (fun h2 : ¬ N (129 + 28 * s + q) = v => h2 c1)]
  · rw [if_neg c1, if_neg c1, b2_pos c1]
    by_cases c2 : N (129 + 28 * s + q) = -1
    · rw [if_pos c2, if_pos c2, Option.bind_some, f11_put A N hs hq, Option.bind_some]
    · rw [if_neg c2, if_neg c2]
      have hw := rubW_lt (N (129 + 28 * s + q)) v (N (8 + q))
      have hwe : (if v = N (8 + q) then some (0 : Int32) else if N (129 + 28 * s + q) = N (8 + q) then some 1 else some 2) = some (iN (rubW (N (129 + 28 * s + q)) v (N (8 + q)))) := by
        unfold rubW
        repeat' split
        all_goals rfl
      have l2 : ruld ((rusetA A 84 N).1 84) 4920 (8 + iN q) = some (N (8 + q)) := by
        rw [li8, iN_add, ruld84 A N (by omega)]
      have l3 : ruld ((rusetA A 84 N).1 84) 4920 (iN (128 + 28 * s) + 25 + iN (rubW (N (129 + 28 * s + q)) v (N (8 + q)))) = some (N (153 + 28 * s + rubW (N (129 + 28 * s + q)) v (N (8 + q)))) := by
        rw [li25, iN_add, iN_add, ruld84 A N (by omega)]
        congr 2
        omega
      have l4 : ∀ u, rust (rusetA A 84 N) 84 4920 (iN (128 + 28 * s) + 25 + iN (rubW (N (129 + 28 * s + q)) v (N (8 + q)))) u = some (rusetA A 84 (upd N (153 + 28 * s + rubW (N (129 + 28 * s + q)) v (N (8 + q))) u)) := by
        intro u
        rw [li25, iN_add, iN_add, rust84 A N u (by omega), show 128 + 28 * s + 25 + rubW (N (129 + 28 * s + q)) v (N (8 + q)) = 153 + 28 * s + rubW (N (129 + 28 * s + q)) v (N (8 + q)) by omega]
      rw [l2, Option.bind_some, hwe, Option.bind_some, l3, Option.bind_some, l4, Option.bind_some, Option.bind_some]
      have pt := f11_put A (nRub N s (rubW (N (129 + 28 * s + q)) v (N (8 + q)))) hs hq kind v
      unfold nRub at pt ⊢
      rw [pt, Option.bind_some]
/-- counted over some steps -/
def stt (f : (Nat → Int32) → Nat → Int32 × (Nat → Int32)) (N : Nat → Int32) : Nat → Int32 × (Nat → Int32)
  | 0 => (0, N)
  | c + 1 => ((stt f N c).1 + (f (stt f N c).2 c).1, (f (stt f N c).2 c).2)
theorem stt_P {f : (Nat → Int32) → Nat → Int32 × (Nat → Int32)} {N : Nat → Int32} {hi : Nat} (P : (Nat → Int32) → Prop) (h0 : P N) (hP : ∀ M q, q < hi → P M → P (f M q).2) : ∀ q, q ≤ hi → P (stt f N q).2
  | 0, _ => h0
  | q + 1, h => hP _ q (by omega) (stt_P P h0 hP q (by omega))
theorem loop_ref {β : Type} (L : Nat → Nat → Int32 → ruA → Option β) (A : ruA) (N : Nat → Int32) (hi : Nat) (f : (Nat → Int32) → Nat → Int32 × (Nat → Int32)) (K : Int32 → ruA → Option β) (P : (Nat → Int32) → Prop)
    (hexit : ∀ n x M, P M → L (n + 1) hi x (rusetA A 84 M) = K x (rusetA A 84 M)) (hstep : ∀ n q x M, q < hi → P M → L (n + 1) q x (rusetA A 84 M) = L n (q + 1) (x + (f M q).1) (rusetA A 84 (f M q).2))
    (hP : ∀ M q, q < hi → P M → P (f M q).2) (h0 : P N) : ∀ n, hi < n → L n 0 0 (rusetA A 84 N) = K (stt f N hi).1 (rusetA A 84 (stt f N hi).2) := by
  intro n hn
  have key : ∀ (m n q : Nat), q + m = hi → m < n → L n q (stt f N q).1 (rusetA A 84 (stt f N q).2) = K (stt f N hi).1 (rusetA A 84 (stt f N hi).2) := by
    intro m
    induction m with
    | zero =>
      intro n q h1 h2
      obtain ⟨n, rfl⟩ : ∃ k, n = k + 1 := ⟨n - 1, by omega⟩
      have e : q = hi := by omega
      subst e
      exact hexit n _ _ (stt_P P h0 hP q (Nat.le_refl _))
    | succ m ih =>
      intro n q h1 h2
      obtain ⟨n, rfl⟩ : ∃ k, n = k + 1 := ⟨n - 1, by omega⟩
      rw [hstep n q _ _ (by omega) (stt_P P h0 hP q (by omega))]
      exact ih n (q + 1) (by omega) (by omega)
  exact key hi n 0 (by omega) hn
theorem loop_cls {β : Type} (L : Nat → Nat → Int32 → ruA → Option β) (R : ruA → (Nat → Int32) → Prop) (N : Nat → Int32) (hi : Nat) (f : (Nat → Int32) → Nat → Int32 × (Nat → Int32)) (K : Int32 → ruA → Option β)
    (hexit : ∀ n x B M, R B M → L (n + 1) hi x B = K x B) (hstep : ∀ n q x B M, q < hi → R B M → ∃ B', L (n + 1) q x B = L n (q + 1) (x + (f M q).1) B' ∧ R B' (f M q).2)
    (A : ruA) (h0 : R A N) : ∀ n, hi < n → ∃ B, L n 0 0 A = K (stt f N hi).1 B ∧ R B (stt f N hi).2 := by
  intro n hn
  have key : ∀ (m n q : Nat) (A : ruA), q + m = hi → m < n → R A (stt f N q).2 → ∃ B, L n q (stt f N q).1 A = K (stt f N hi).1 B ∧ R B (stt f N hi).2 := by
    intro m
    induction m with
    | zero =>
      intro n q A h1 h2 h3
      obtain ⟨n, rfl⟩ : ∃ k, n = k + 1 := ⟨n - 1, by omega⟩
      have e : q = hi := by omega
      subst e
      exact ⟨A, hexit n _ A _ h3, h3⟩
    | succ m ih =>
      intro n q A h1 h2 h3
      obtain ⟨n, rfl⟩ : ∃ k, n = k + 1 := ⟨n - 1, by omega⟩
      obtain ⟨B, b1, b2⟩ := hstep n q (stt f N q).1 A _ (by omega) h3
      obtain ⟨C, c1, c2⟩ := ih n (q + 1) B (by omega) (by omega) b2
      exact ⟨C, b1.trans c1, c2⟩
  exact key hi n 0 A (by omega) hn h0
theorem Inv.marks {W : ruWy} {A A1 : ruA} {N : Nat → Int32} (hI : Inv W A) (h : coup A A1 (A.1 84) N) : Inv W (rusetA A1 84 N) := by
  obtain ⟨⟨hn, hq, hc, hs, hb, hr, hh, hf, hw⟩, hK, hMf, hMt, hMs⟩ := id hI
  obtain ⟨m0, m1, m2, m3, m4, m5⟩ := id hn
  have q0 : A.1 2 0 = A.1 84 0 := m0.1
  have q1 : A.1 2 1 = A.1 84 1 := m1.1
  have q2 : A.1 2 2 = A.1 84 2 := m2.1
  have q3 : A.1 14 0 = A.1 84 3 := m3.1
  have q4 : A.1 23 0 = A.1 84 4 := m4.1
  have q5 : A.1 29 0 = A.1 84 5 := m5.1
  obtain ⟨⟨s1, s2, s3, s4⟩, e1, e2⟩ := h
  have eK : ∀ k, (k < 10 ∨ 13 < k) ∧ k ≠ 84 → (rusetA A1 84 N).1 k = A.1 k := fun k hk => by rw [rsA_ne _ _ hk.2, e1 k hk.1]
  have e84 : (rusetA A1 84 N).1 84 = N := rsA_same _ _ _
  refine hI.now ⟨fun k hk => eK k (by omega), ⟨?_, ?_, ?_⟩, ⟨?_, ?_, ?_⟩⟩ ?_
  · rw [eK 0 (by omega)]
  · rw [eK 0 (by omega)]
  · rw [eK 0 (by omega)]
  · rw [eK 83 (by omega)]
  · rw [eK 83 (by omega)]
  · rw [eK 83 (by omega)]
  · rw [e84]
    exact ⟨hn.congr ⟨eK _ (by omega), eK _ (by omega), eK _ (by omega), eK _ (by omega)⟩ fun i h1 => e2 i (by omega), s1.congr ⟨rfl, rfl⟩ (fun _ _ _ => rfl), hc.congr ⟨eK _ (by omega), eK _ (by omega), eK _ (by omega), eK _ (by omega)⟩ (e2 2 (by omega)) fun i h1 h2 => e2 i (by omega), s2.congr rfl rfl (fun _ _ => rfl), s3.congr ⟨rfl, rfl⟩ (fun _ _ _ _ => rfl), s4.congr rfl (fun _ _ _ _ => rfl), hh.congr ⟨eK _ (by omega), eK _ (by omega), eK _ (by omega), eK _ (by omega)⟩ (e2 4 (by omega)) m4.2.2 fun i h1 h2 => e2 i (by omega), hf.congr ⟨eK _ (by omega), eK _ (by omega)⟩ (e2 5 (by omega)) m5.2.2 fun i h1 h2 => e2 i (by omega), hw.congr (fun k h1 h2 => eK _ (by omega)) (e2 3 (by omega)) m3.2.2 fun i h1 h2 => e2 i (by omega)⟩
