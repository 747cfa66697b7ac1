/-! LEVEL 3: the law's loop -/
theorem and63 (v : Int32) : ∃ n, n < 64 ∧ v &&& 63 = iN n := by
  refine ⟨(v &&& 63).toBitVec.toNat, ?_, ?_⟩
  · rw [Int32.toBitVec_and, BitVec.toNat_and]
    exact Nat.lt_of_le_of_lt Nat.and_le_right (by decide)
  · apply Int32.toBitVec_inj.mp
    show _ = BitVec.ofNat 32 _
    rw [BitVec.ofNat_toNat, BitVec.setWidth_eq]
theorem len6 : ∀ L, L < 6 → iN L - 6 < 0 := by decide
theorem lj_end {X : lwX} {i : Int32} {A : ruA} (hK : lwK X) : lwJ X 1751 i [] A := by
  obtain ⟨E, p, e, s, m, below, meth, c, b, L, xs, cells, slots⟩ := X
  obtain ⟨⟨hx, hb, hr, hml, hown, hts, hX, hbl, hlocks, hgv⟩, kK, kR, kI, kN, kL, kc, ks⟩ := hK
  intro H locs ls hP hS hl
  refine lv_iconst (v := 1) hx hb dL_1751 (by decide) ?_
  refine va_forget (fun q hq => kN _ (hS.2.2 q hq)) ?_
  refine W.widen (k := 600000) (n := 7302249) kc ks ?_
  exact lw_ret hx hb hr hlocks dL_1752
theorem lj_head {X : lwX} {k : Nat} {A : ruA} (hK : lwK X) (hk : k ≤ 400) (kk : k + 6 ≤ lwL X → lwJ X 33 (iN k) [.int (lwx X k &&& 63)] A) : lwJ X 18 (iN k) [] A := by
  have hE : lwJ X 1751 (iN k) [] A := lj_end hK
  obtain ⟨E, p, e, s, m, below, meth, c, b, L, xs, cells, slots⟩ := X
  obtain ⟨⟨hx, hb, hr, hml, hown, hts, hX, hbl, hlocks, hgv⟩, kK, kR, kI, kN, kL, kc, ks⟩ := hK
  intro H locs ls hP hS hl
  refine lv_iload_n hx hb dL_18 rfl (lv_at hl 3 rfl) ?_
  refine lv_aload_n hx hb dL_19 rfl (lv_at hl 0 rfl) ?_
  refine va_slen hx hb hX hbl (lw_bA kN hbl) hS dL_20 ?_
  refine lv_bipush (v := 6) hx hb dL_21 (by decide) ?_
  refine lv_isub hx hb dL_23 ?_
  refine lv_icmp_gt (tgt := 1751) hx hb dL_24 (by decide) (fun _ => hE H locs ls hP hS hl) (fun hgt => ?_)
  have hkL : k + 6 ≤ L := by
    by_cases c6 : L < 6
    · exact absurd (Int32.lt_of_lt_of_le (len6 L c6) (iN_nonneg (a := k) (by omega))) hgt
    · have e6 : iN L - 6 = iN (L - 6) := by rw [li6, iN_sub (by omega)]
      have hgt : ¬ iN L - 6 < iN k := hgt
      rw [e6, iN_lt (by omega) (by omega)] at hgt
      omega
  refine lv_aload_n hx hb dL_27 rfl (lv_at hl 0 rfl) ?_
  refine lv_iload_n hx hb dL_28 rfl (lv_at hl 3 rfl) ?_
  refine va_sld hx hb hX hbl (lw_bA kN hbl) hS (in_iN (show k < L by omega) kL) dL_29 ?_
  refine lv_bipush (v := 63) hx hb dL_30 (by decide) ?_
  refine lv_iand hx hb dL_32 ?_
  rw [iN_toNat (by omega)]
  exact kk hkL H locs ls hP hS hl
theorem lj_next {X : lwX} {k : Nat} {A : ruA} (hK : lwK X) (kk : lwJ X 18 (iN (k + 6)) [] A) : lwJ X 1745 (iN k) [] A := by
  obtain ⟨E, p, e, s, m, below, meth, c, b, L, xs, cells, slots⟩ := X
  obtain ⟨⟨hx, hb, hr, hml, hown, hts, hX, hbl, hlocks, hgv⟩, kK, kR, kI, kN, kL, kc, ks⟩ := hK
  intro H locs ls hP hS hl
  refine lv_iinc (k := 3) (x := iN k) (v := iN (k + 6)) (lv' := [(3, .int (iN (k + 6))), (0, .ref b), (1, rurf E 0), (2, rurf E 83)]) hx hb dL_1745 hl rfl (iN_add k 6) (by decide) rfl (fun ls hl => ?_)
  refine lv_goto (tgt := 18) hx hb dL_1748 (by decide) ?_
  exact kk H locs ls hP hS (lv_sub hl [1, 2, 3, 0] rfl)
theorem lj_in {X : lwX} {i : Int32} {A : ruA} (hK : lwK X) {n tgt : Nat} {off : Int} (hn : n < 43) (ho : (#[187, 230, 243, 276, 335, 368, 401, 414, 447, 480, 533, 566, 599, 632, 655, 678, 731, 774, 807, 860, 903, 916, 969, 1022, 1055, 1068, 1081, 1124, 1167, 1210, 1263, 1316, 1369, 1402, 1435, 1478, 1521, 1584, 1627, 1640, 1653, 1666, 1689] : Array Int)[n]? = some off) (ht : (33 : Int) + off = (tgt : Int)) (kk : lwJ X tgt i [] A) : lwJ X 33 i [.int (iN n)] A := by
  obtain ⟨E, p, e, s, m, below, meth, c, b, L, xs, cells, slots⟩ := X
  obtain ⟨⟨hx, hb, hr, hml, hown, hts, hX, hbl, hlocks, hgv⟩, kK, kR, kI, kN, kL, kc, ks⟩ := hK
  intro H locs ls hP hS hl
  have hi : (iN n).toInt = n := iN_toInt (by omega)
  exact lv_tableIn hx hb dL_33 (by rw [hi]; omega) (by rw [hi]; omega) (by rw [hi]; simpa using ho) ht (kk H locs ls hP hS hl)
theorem lj_out {X : lwX} {i : Int32} {A : ruA} (hK : lwK X) {n : Nat} (hn : 43 ≤ n) (hn2 : n < 64) (kk : lwJ X 1745 i [] A) : lwJ X 33 i [.int (iN n)] A := by
  obtain ⟨E, p, e, s, m, below, meth, c, b, L, xs, cells, slots⟩ := X
  obtain ⟨⟨hx, hb, hr, hml, hown, hts, hX, hbl, hlocks, hgv⟩, kK, kR, kI, kN, kL, kc, ks⟩ := hK
  intro H locs ls hP hS hl
  have hi : (iN n).toInt = n := iN_toInt (by omega)
  exact lv_tableOut (tgt := 1745) hx hb dL_33 (Or.inr (by rw [hi]; omega)) (by decide) (kk H locs ls hP hS hl)
theorem lj_switch {X : lwX} {k : Nat} {A : ruA} (hK : lwK X) (hk : k + 6 ≤ lwL X) (hI : Inv wyW A) (next : ∀ A2, Inv wyW A2 → lwJ X 1745 (iN k) [] A2) : lwJ X 33 (iN k) [.int (lwx X k &&& 63)] A := by
  obtain ⟨n, hn, hv⟩ := and63 (lwx X k)
  rw [hv]
  by_cases h43 : 43 ≤ n
  · exact lj_out hK h43 hn (next A hI)
  · have : n = 0 ∨ n = 1 ∨ n = 2 ∨ n = 3 ∨ n = 4 ∨ n = 5 ∨ n = 6 ∨ n = 7 ∨ n = 8 ∨ n = 9 ∨ n = 10 ∨ n = 11 ∨ n = 12 ∨ n = 13 ∨ n = 14 ∨ n = 15 ∨ n = 16 ∨ n = 17 ∨ n = 18 ∨ n = 19 ∨ n = 20 ∨ n = 21 ∨ n = 22 ∨ n = 23 ∨ n = 24 ∨ n = 25 ∨ n = 26 ∨ n = 27 ∨ n = 28 ∨ n = 29 ∨ n = 30 ∨ n = 31 ∨ n = 32 ∨ n = 33 ∨ n = 34 ∨ n = 35 ∨ n = 36 ∨ n = 37 ∨ n = 38 ∨ n = 39 ∨ n = 40 ∨ n = 41 ∨ n = 42 := by omega
    rcases this with rfl | rfl | rfl | rfl | rfl | rfl | rfl | rfl | rfl | rfl | rfl | rfl | rfl | rfl | rfl | rfl | rfl | rfl | rfl | rfl | rfl | rfl | rfl | rfl | rfl | rfl | rfl | rfl | rfl | rfl | rfl | rfl | rfl | rfl | rfl | rfl | rfl | rfl | rfl | rfl | rfl | rfl | rfl
    · exact lj_in (tgt := 220) hK (by decide) rfl (by decide) (lc_question hK hk hI next)
    · exact lj_in (tgt := 263) hK (by decide) rfl (by decide) (lc_room hK hk hI next)
    · exact lj_in (tgt := 276) hK (by decide) rfl (by decide) (lc_child hK hk hI next)
    · exact lj_in (tgt := 309) hK (by decide) rfl (by decide) (lc_learn hK hk hI next)
    · exact lj_in (tgt := 368) hK (by decide) rfl (by decide) (lc_forget hK hk hI next)
    · exact lj_in (tgt := 401) hK (by decide) rfl (by decide) (lc_childIs hK hk hI next)
    · exact lj_in (tgt := 434) hK (by decide) rfl (by decide) (lc_year hK hk hI next)
    · exact lj_in (tgt := 447) hK (by decide) rfl (by decide) (lc_sit hK hk hI next)
    · exact lj_in (tgt := 480) hK (by decide) rfl (by decide) (lc_read hK hk hI next)
    · exact lj_in (tgt := 513) hK (by decide) rfl (by decide) (lc_mark hK hk hI next)
    · exact lj_in (tgt := 566) hK (by decide) rfl (by decide) (lc_copies hK hk hI next)
    · exact lj_in (tgt := 599) hK (by decide) rfl (by decide) (lc_said hK hk hI next)
    · exact lj_in (tgt := 632) hK (by decide) rfl (by decide) (lc_puts hK hk hI next)
    · exact lj_in (tgt := 665) hK (by decide) rfl (by decide) (lc_fills hK hk hI next)
    · exact lj_in (tgt := 688) hK (by decide) rfl (by decide) (lc_leaves hK hk hI next)
    · exact lj_in (tgt := 711) hK (by decide) rfl (by decide) (lc_bubble hK hk hI next)
    · exact lj_in (tgt := 764) hK (by decide) rfl (by decide) (lc_sheetIs hK hk hI next)
    · exact lj_in (tgt := 807) hK (by decide) rfl (by decide) (lc_weight hK hk hI next)
    · exact lj_in (tgt := 840) hK (by decide) rfl (by decide) (lc_as hK hk hI next)
    · exact lj_in (tgt := 893) hK (by decide) rfl (by decide) (lc_measure hK hk hI next)
    · exact lj_in (tgt := 936) hK (by decide) rfl (by decide) (lc_looked hK hk hI next)
    · exact lj_in (tgt := 949) hK (by decide) rfl (by decide) (lc_string hK hk hI next)
    · exact lj_in (tgt := 1002) hK (by decide) rfl (by decide) (lc_odd hK hk hI next)
    · exact lj_in (tgt := 1055) hK (by decide) rfl (by decide) (lc_feed hK hk hI next)
    · exact lj_in (tgt := 1088) hK (by decide) rfl (by decide) (lc_wipe hK hk hI next)
    · exact lj_in (tgt := 1101) hK (by decide) rfl (by decide) (lc_way hK hk hI next)
    · exact lj_in (tgt := 1114) hK (by decide) rfl (by decide) (lc_says hK hk hI next)
    · exact lj_in (tgt := 1157) hK (by decide) rfl (by decide) (lc_judges hK hk hI next)
    · exact lj_in (tgt := 1200) hK (by decide) rfl (by decide) (lc_line hK hk hI next)
    · exact lj_in (tgt := 1243) hK (by decide) rfl (by decide) (lc_holds hK hk hI next)
    · exact lj_in (tgt := 1296) hK (by decide) rfl (by decide) (lc_gaps hK hk hI next)
    · exact lj_in (tgt := 1349) hK (by decide) rfl (by decide) (lc_could hK hk hI next)
    · exact lj_in (tgt := 1402) hK (by decide) rfl (by decide) (lc_form hK hk hI next)
    · exact lj_in (tgt := 1435) hK (by decide) rfl (by decide) (lc_cheapest hK hk hI next)
    · exact lj_in (tgt := 1468) hK (by decide) rfl (by decide) (lc_slip hK hk hI next)
    · exact lj_in (tgt := 1511) hK (by decide) rfl (by decide) (lc_write hK hk hI next)
    · exact lj_in (tgt := 1554) hK (by decide) rfl (by decide) (lc_copy hK hk hI next)
    · exact lj_in (tgt := 1617) hK (by decide) rfl (by decide) (lc_check hK hk hI next)
    · exact lj_in (tgt := 1660) hK (by decide) rfl (by decide) (lc_image hK hk hI next)
    · exact lj_in (tgt := 1673) hK (by decide) rfl (by decide) (lc_undo hK hk hI next)
    · exact lj_in (tgt := 1686) hK (by decide) rfl (by decide) (lc_tear hK hk hI next)
    · exact lj_in (tgt := 1699) hK (by decide) rfl (by decide) (lc_count hK hk hI next)
    · exact lj_in (tgt := 1722) hK (by decide) rfl (by decide) (lc_status hK hk hI next)
theorem law_loop {X : lwX} (hK : lwK X) : ∀ (f k : Nat) (A : ruA), k ≤ 400 → 400 - k < f → Inv wyW A → lwJ X 18 (iN k) [] A
  | 0, k, A, _, h, _ => by omega
  | f + 1, k, A, hk, hf, hI => by
    have hL : lwL X ≤ 384 := by
      obtain ⟨E, p, e, s, m, below, meth, c, b, L, xs, cells, slots⟩ := X
      exact hK.2.2.2.2.2.1
    exact lj_head hK hk (fun h6 => lj_switch hK h6 hI (fun A2 h2 => lj_next hK (law_loop hK f (k + 6) A2 (by omega) (by omega) h2)))
