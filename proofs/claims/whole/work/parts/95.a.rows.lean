/-! LEVEL 3: rows of the law -/
abbrev lwX : Type := ruE × Program × Env × State × MethodId × List Frame × Method × Code × Nat × Nat × (Nat → Int32) × Nat × Nat
def lwJ (X : lwX) (pc : Nat) (i : Int32) (st : List Value) (A : ruA) : Prop := match X with
  | (E, p, e, s, m, below, meth, c, b, _, _, cells, slots) => ∀ (H : Heap) (locs : List Loc) (ls : Array Slot), va_P E.2.1 rucl (ruws E A) H → va_S (ruIn E) s.heap H locs → lv_has ls 4 [(0, .ref b), (1, rurf E 0), (2, rurf E 83), (3, .int i)] →
    W p E.1 e room_1 s m #[Value.ref b] below meth c H locs cells slots (lw_Z below #[Value.ref b] s) (F0 m pc ls st)
def lwK (X : lwX) : Prop := match X with
  | (E, p, _, s, m, _, meth, c, b, L, xs, cells, slots) => lw_At p s m meth c b L xs ∧ va_K E.2.1 rucl (rutys E) s ∧ ruRO E s ∧ ruinj E ∧ (∀ q, ruIn E q → s.heap.size ≤ q) ∧ L ≤ 384 ∧ cells ≤ 600000 ∧ slots ≤ 7302249
def lwL (X : lwX) : Nat := X.2.2.2.2.2.2.2.2.2.1
def lwx (X : lwX) : Nat → Int32 := X.2.2.2.2.2.2.2.2.2.2.1
theorem lw_bA {E : ruE} {s : State} {b : Nat} (h : ∀ q, ruIn E q → s.heap.size ≤ q) (hb : b < s.heap.size) : ¬ ruIn E b := fun h2 => Nat.lt_irrefl _ (Nat.lt_of_lt_of_le hb (h b h2))
theorem lj_obj1 {X : lwX} {pc : Nat} {i : Int32} {st : List Value} {A : ruA} (hK : lwK X) (h : decode code pc = .ok (.aload_n 1, 1)) (kk : lwJ X (pc + 1) i (rurf X.1 0 :: st) A) : lwJ X pc i st A := by
  obtain ⟨E, p, e, s, m, below, meth, c, b, L, xs, cells, slots⟩ := X
  obtain ⟨⟨hx, hb, hr, hml, hown, hts, hX, hbl, hlocks, hgv⟩, kK, kR, kI, kN, kL, kc, ks⟩ := hK
  intro H locs ls hP hS hl
  exact lv_aload_n hx hb h rfl (lv_at hl 1 rfl) (kk H locs ls hP hS hl)
theorem lj_obj2 {X : lwX} {pc : Nat} {i : Int32} {st : List Value} {A : ruA} (hK : lwK X) (h : decode code pc = .ok (.aload_n 2, 1)) (kk : lwJ X (pc + 1) i (rurf X.1 83 :: st) A) : lwJ X pc i st A := by
  obtain ⟨E, p, e, s, m, below, meth, c, b, L, xs, cells, slots⟩ := X
  obtain ⟨⟨hx, hb, hr, hml, hown, hts, hX, hbl, hlocks, hgv⟩, kK, kR, kI, kN, kL, kc, ks⟩ := hK
  intro H locs ls hP hS hl
  exact lv_aload_n hx hb h rfl (lv_at hl 2 rfl) (kk H locs ls hP hS hl)
theorem in_iN {n L : Nat} (h : n < L) (hL : L ≤ 384) : vp_in (iN n) L := by
  rintro (h2 | h2)
  · exact iN_lt_zero (by omega) h2
  · rw [iN_toNat (by omega)] at h2
    omega
theorem lj_arg {X : lwX} {pc k j : Nat} {n : Int} {st : List Value} {A : ruA} (hK : lwK X) (hk : k + 6 ≤ lwL X) (hj : j ≤ 5) (hn : Int32.ofInt n = iN j) (h0 : decode code pc = .ok (.aload_n 0, 1)) (h1 : decode code (pc + 1) = .ok (.iload_n 3, 1)) (h2 : decode code (pc + 2) = .ok (.iconst n, 1)) (h3 : decode code (pc + 3) = .ok (.iadd, 1)) (h4 : decode code (pc + 4) = .ok (.iaload, 1)) (kk : lwJ X (pc + 5) (iN k) (.int (lwx X (k + j)) :: st) A) : lwJ X pc (iN k) st A := by
  obtain ⟨E, p, e, s, m, below, meth, c, b, L, xs, cells, slots⟩ := X
  obtain ⟨⟨hx, hb, hr, hml, hown, hts, hX, hbl, hlocks, hgv⟩, kK, kR, kI, kN, kL, kc, ks⟩ := hK
  have hk : k + 6 ≤ L := hk
  intro H locs ls hP hS hl
  refine lv_aload_n hx hb h0 rfl (lv_at hl 0 rfl) ?_
  refine lv_iload_n hx hb h1 rfl (lv_at hl 3 rfl) ?_
  refine lv_iconst hx hb h2 hn ?_
  refine lv_iadd hx hb h3 ?_
  rw [iN_add]
  refine va_sld hx hb hX hbl (lw_bA kN hbl) hS (in_iN (show k + j < L by omega) kL) h4 ?_
  rw [iN_toNat (by omega)]
  exact kk H locs ls hP hS hl
theorem lw_after {E : ruE} {p : Program} {e : Env} {R : Room} {s : State} {m : MethodId} {args : Array Value} {below : List Frame} {meth : Method} {c : Code} {H : Heap} {locs : List Loc} {pc cells slots : Nat} {ls : Array Slot} {rest st0 : List Value} {a : Array Value} {Q : State → Prop} {Q2 : Option Value → ruA → Prop}
    (hr : va_Run p E.1 e R s m args below meth c H locs cells slots 0 0 (F0 m pc ls st0) rest (ruQ E Q2 a) (ruIn E)) (hS : va_S (ruIn E) s.heap H locs)
    (kk : ∀ (r : Option Value) (A2 : ruA) (H1 : Heap) (locs1 : List Loc), Q2 r A2 → va_P E.2.1 rucl (ruws E A2) H1 → va_S (ruIn E) s.heap H1 locs1 → W p E.1 e R s m args below meth c H1 locs1 cells slots Q (F0 m (pc + 3) ls (r.toList ++ rest))) : W p E.1 e R s m args below meth c H locs cells slots Q (F0 m pc ls st0) := by
  intro T hT X
  obtain ⟨v, st₀, t, T', L, h0, X', hL, e1, e2, ⟨⟨r, A2, hv, hq, hb⟩, hz, hk⟩, st⟩ := hr T hT X
  cases hv
  rw [h0] at hz hk
  obtain ⟨t2, a1, b1⟩ := kk v A2 T'.heap (locs ++ L) hq (by rw [e1]; exact hb)
    ⟨Nat.le_trans hS.1 (by rw [e1]; exact hz), fun q h1 h2 => by rw [e1, hk q (Nat.lt_of_lt_of_le h1 hS.1) h2]; exact hS.2.1 q h1 h2, fun q hq => by
      rcases List.mem_append.mp hq with h | h
      · exact hS.2.2 q h
      · exact hL q h⟩ T' rfl X'
  exact ⟨t2, st t2 a1, b1⟩
theorem lj_call {X : lwX} {pc : Nat} {i : Int32} {st : List Value} {A : ruA} (hK : lwK X) {M2 : ruMD} {d2 idx k ci : Nat} {as st0 : List Value} {Q2 : Option Value → ruA → Prop} (hd : decode code pc = .ok (.invokevirtual idx, 3)) (hst : as.reverse ++ rurf X.1 k :: st = st0) (hl : ruCV "RubbedSheetsLaw" idx M2 as.length ci) (ho : rush k = some (.inl ci)) (hdd : d2 ≤ 1000) (hroom : (st.map fun v => v.category).sum ≤ 8) (hc : ruC X.1 M2 d2 (rurf X.1 k :: as) A Q2) (kk : ∀ r A2, Q2 r A2 → lwJ X (pc + 3) i (r.toList ++ st) A2) : lwJ X pc i st0 A := by
  obtain ⟨E, p, e, s, m, below, meth, c, b, L, xs, cells, slots⟩ := X
  obtain ⟨⟨hx, hb, hr, hml, hown, hts, hX, hbl, hlocks, hgv⟩, kK, kR, kI, kN, kL, kc, ks⟩ := hK
  obtain ⟨l1, l2, l2b, ⟨l3, l4, l5, l6⟩, T, N, l7⟩ := hl
  subst hst
  intro H locs ls hP hS hl
  have ht : ∀ w ∈ rugd, w.before #[Value.ref b] s = true := fun w hw => hts w (List.mem_filter.mp hw).1
  refine lw_after (va_runV (As := as) (rest := st) (C := M2.1.cls) (b := E.2.2.1 k) (Ts := rugd) (own := R_law) ⟨hx, hb, hml, hown, ht⟩ hc ⟨callB_of (Ts := rugd) as.length ht (fun w hw => ?_) rfl rfl rfl (ht _ (ru_gd l3 rfl)) (ht _ (ru_gd l1 rfl)) l5 ⟨?_, ?_⟩, ht _ (ru_gd l2 rfl), ht _ (ru_gd l2b rfl)⟩ ⟨ru_blind, va_recv kK hP l7 (ruws_o ho), ru_pre (rurf E k :: as) hP kK kR kI hS⟩ rfl rfl hl.1 rfl (lv_room hroom) hd ⟨kc, ks⟩) hS ?_
  · rcases List.mem_cons.mp hw with rfl | h
    · exact ⟨ru_gd l4 rfl, Or.inl rfl⟩
    · exact ru_good w h
  · show d2 + 1 ≤ 2048
    omega
  · show 8 + (M2.2.2.1 + 11) + 40 * d2 ≤ 84000
    omega
  · intro r A2 H1 locs1 hq hP1 hS1
    exact kk r A2 hq H1 locs1 ls hP1 hS1 hl
theorem lj_cmp {X : lwX} {pc : Nat} {i r : Int32} {off : Int} {st : List Value} {A : ruA} (hK : lwK X) (h : decode code pc = .ok (.if_icmp .eq off, 3)) (ht : (pc : Int) + off = ((1745 : Nat) : Int)) (kk : lwJ X 1745 i st A) : lwJ X pc i (.int r :: .int r :: st) A := by
  obtain ⟨E, p, e, s, m, below, meth, c, b, L, xs, cells, slots⟩ := X
  obtain ⟨⟨hx, hb, hr, hml, hown, hts, hX, hbl, hlocks, hgv⟩, kK, kR, kI, kN, kL, kc, ks⟩ := hK
  intro H locs ls hP hS hl
  exact lv_icmp_eq hx hb h ht (fun _ => kk H locs ls hP hS hl) (fun h => absurd rfl h)
theorem lj_bool {X : lwX} {pc : Nat} {i v : Int32} {o1 o2 : Int} {st : List Value} {A : ruA} (hK : lwK X) (h0 : decode code pc = .ok (.ifCond .eq o1, 3)) (t1 : (pc : Int) + o1 = ((pc + 7 : Nat) : Int)) (h1 : decode code (pc + 3) = .ok (.iconst 1, 1)) (h2 : decode code (pc + 4) = .ok (.goto o2, 3)) (t2 : ((pc + 4 : Nat) : Int) + o2 = ((pc + 8 : Nat) : Int)) (h3 : decode code (pc + 7) = .ok (.iconst 0, 1)) (kk : lwJ X (pc + 8) i (.int (if v = 0 then 0 else 1) :: st) A) : lwJ X pc i (.int v :: st) A := by
  obtain ⟨E, p, e, s, m, below, meth, c, b, L, xs, cells, slots⟩ := X
  obtain ⟨⟨hx, hb, hr, hml, hown, hts, hX, hbl, hlocks, hgv⟩, kK, kR, kI, kN, kL, kc, ks⟩ := hK
  intro H locs ls hP hS hl
  refine lv_if_eq hx hb h0 t1 (fun hv => ?_) (fun hv => ?_)
  · refine lv_iconst (v := 0) hx hb h3 (by decide) ?_
    have := kk H locs ls hP hS hl
    rw [if_pos hv] at this
    exact this
  · refine lv_iconst (v := 1) hx hb h1 (by decide) ?_
    refine lv_goto hx hb h2 t2 ?_
    have := kk H locs ls hP hS hl
    rw [if_neg hv] at this
    exact this
