/-! LEVEL 3: what is there at the start -/
def ruTm : Nat → Term := fun i => match i with
  | 0 => .string "RubbedSheetsModel" 33
  | 1 => .string "RubbedSheetsModel" 35
  | 2 => .string "RubbedSheetsModel" 37
  | 3 => .string "RubbedSheetsModel" 39
  | 4 => .string "RubbedSheetsModel" 41
  | _ => .string "RubbedSheetsModel" 43
def ruFl : List Cond := flatC (Jvm.Cond.and given_1 narrow_1)
theorem fl_ex : ∀ i, i < 6 → Cond.exactly (ruTm i) "java/lang/String" ∈ ruFl := by decide +kernel
theorem fl_co : ∀ i, i < 6 → Cond.eq (.field (ruTm i) "java/lang/String" "coder" "B") (.int 0) ∈ ruFl := by decide +kernel
theorem fl_ar : ∀ i, i < 6 → Cond.arrayOf (.field (ruTm i) "java/lang/String" "value" "[B") .byte ∈ ruFl := by decide +kernel
theorem fl_le : ∀ i, i < 6 → Cond.eq (.length (.field (ruTm i) "java/lang/String" "value" "[B")) (.int (Int32.ofNat (rulens.getD i 0))) ∈ ruFl := by decide +kernel
theorem fl_el : ∀ i, i < 6 → ∀ j, j < rulens.getD i 0 → Cond.eq (.elem (.field (ruTm i) "java/lang/String" "value" "[B") (.int (Int32.ofNat j))) (.int ((rubyt.getD i []).getD j 0)) ∈ ruFl := by decide +kernel
theorem fl_ne : ∀ i, i < 6 → ∀ j, j < 6 → i ≠ j → Cond.not (Cond.eq (ruTm i) (ruTm j)) ∈ ruFl ∨ Cond.not (Cond.eq (ruTm j) (ruTm i)) ∈ ruFl := by decide +kernel
theorem fl_ua : Cond.arrayOf (.static "RubbedSheets" "UNDER" "[I") .int ∈ ruFl := by decide +kernel
theorem fl_ul : Cond.eq (.length (.static "RubbedSheets" "UNDER" "[I")) (.int (Int32.ofNat 8)) ∈ ruFl := by decide +kernel
theorem fl_ue : ∀ j, j < 8 → Cond.eq (.elem (.static "RubbedSheets" "UNDER" "[I") (.int (Int32.ofNat j))) (.int (ruunder.getD j 0)) ∈ ruFl := by decide +kernel
theorem fl_na : Cond.arrayOf (.static "RubbedSheets$Reader" "NAMES" "[I") .int ∈ ruFl := by decide +kernel
theorem fl_nl : Cond.eq (.length (.static "RubbedSheets$Reader" "NAMES" "[I")) (.int (Int32.ofNat 6)) ∈ ruFl := by decide +kernel
theorem fl_nj : ∀ j, j < 6 → Cond.eq (.elem (.static "RubbedSheets$Reader" "NAMES" "[I") (.int (Int32.ofNat j))) (.int (runames.getD j 0)) ∈ ruFl := by decide +kernel
theorem fl_cs : Cond.eq (.static "java/lang/String" "COMPACT_STRINGS" "Z") (.int 1) ∈ ruFl := by decide +kernel
theorem fl_si : Cond.isRef (.static "jdk/internal/util/Preconditions" "SIOOBE_FORMATTER" "Ljava/util/function/BiFunction;") ∈ ruFl := by decide +kernel
theorem ruNe_in : ∀ w ∈ ruNe, w ∈ lw_tbl ∧ w.onTables = true := by
  intro w hw
  simp only [ruNe, List.mem_cons, List.not_mem_nil, or_false] at hw
  rcases hw with rfl | rfl | rfl | rfl | rfl | rfl | rfl | rfl | rfl
  · exact ⟨ru_mt 408 (by decide +kernel), rfl⟩
  · exact ⟨ru_mt 487 (by decide +kernel), rfl⟩
  · exact ⟨ru_mt 574 (by decide +kernel), rfl⟩
  · exact ⟨ru_mt 622 (by decide +kernel), rfl⟩
  · exact ⟨ru_mt 672 (by decide +kernel), rfl⟩
  · exact ⟨ru_mt 786 (by decide +kernel), rfl⟩
  · exact ⟨ru_mt 842 (by decide +kernel), rfl⟩
  · exact ⟨ru_mt 571 (by decide +kernel), rfl⟩
  · exact ⟨ru_mt 843 (by decide +kernel), rfl⟩
/-- the texts' addresses, the table of kinds -/
def ruSt (s : State) (u v : Nat) (adK adV : Nat → Nat) : Prop :=
  va_Z "RubbedSheets" "UNDER" "[I" (.ref u) (fun q => s.heap.size ≤ q) s s.heap ∧ va_T .int u 8 (fun j => .int (ruunder.getD j 0)) (fun q => s.heap.size ≤ q) s s.heap ∧
  vk_S 6 rulens rubyt adK adV (fun q => s.heap.size ≤ q) s s.heap ∧
  (va_Z "RubbedSheets$Reader" "NAMES" "[I" (.ref v) (fun q => s.heap.size ≤ q) s s.heap ∧ va_T .int v 6 (fun j => .int (runames.getD j 0)) (fun q => s.heap.size ≤ q) s s.heap) ∧
  va_Z "java/lang/String" "COMPACT_STRINGS" "Z" (.int 1) (fun q => s.heap.size ≤ q) s s.heap ∧ va_Zq "jdk/internal/util/Preconditions" "SIOOBE_FORMATTER" "Ljava/util/function/BiFunction;" (fun q => s.heap.size ≤ q) s s.heap ∧ (∀ w ∈ ruNe, va_Nw w s) ∧
  vk_R "RubbedSheetsModel" 33 "wr" (adK 0) s ∧ vk_R "RubbedSheetsModel" 35 "rw" (adK 1) s ∧ vk_R "RubbedSheetsModel" 37 "row" (adK 2) s ∧ vk_R "RubbedSheetsModel" 39 "fit" (adK 3) s ∧ vk_R "RubbedSheetsModel" 41 "fall" (adK 4) s ∧ vk_R "RubbedSheetsModel" 43 "size" (adK 5) s
theorem st_all {p : Program} {s : State} {m : MethodId} {meth : Method} {c : Code} {b L : Nat} {xs : Nat → Int32} (C0 : lw_At p s m meth c b L xs) : ∃ (u v : Nat) (adK adV : Nat → Nat), ruSt s u v adK adV := by
  obtain ⟨hx, hb, hr, hml, hown, hts, hX, hbl, hlocks, hgv⟩ := C0
  have hs : ∀ w ∈ ruFl, w.before #[Value.ref b] s = true := flat_of_before _ hgv
  have hA : ∀ a : Nat, a < s.heap.size → ¬ (fun q => s.heap.size ≤ q) a := fun a h => Nat.not_le.mpr h
  obtain ⟨u, hu, hT⟩ := va_Tof (args := #[Value.ref b]) (s := s) (tm := .static "RubbedSheets" "UNDER" "[I") (ty := .int) (N := 8) (f := fun j => .int (ruunder.getD j 0)) (A := fun q => s.heap.size ≤ q) (by decide) (hs _ fl_ua) (va_eqt (hs _ fl_ul)) (fun j hj => va_eqt (hs _ (fl_ue j hj))) hA
  obtain ⟨v, hv, hTv⟩ := va_Tof (args := #[Value.ref b]) (s := s) (tm := .static "RubbedSheets$Reader" "NAMES" "[I") (ty := .int) (N := 6) (f := fun j => .int (runames.getD j 0)) (A := fun q => s.heap.size ≤ q) (by decide) (hs _ fl_na) (va_eqt (hs _ fl_nl)) (fun j hj => va_eqt (hs _ (fl_nj j hj))) hA
  obtain ⟨adK, adV, hS, hK⟩ := vk_Sof (args := #[Value.ref b]) (s := s) (N := 6) (tm := ruTm) (len := rulens) (byt := rubyt) (A := fun q => s.heap.size ≤ q) (by decide) (fun i hi => hs _ (fl_ex i hi)) (fun i hi => hs _ (fl_co i hi)) (fun i hi => hs _ (fl_ar i hi)) (fun i hi => hs _ (fl_le i hi)) (fun i hi j hj => hs _ (fl_el i hi j hj)) (fun i j hi hj hij => (fl_ne i hi j hj hij).elim (fun h => Or.inl (hs _ h)) (fun h => Or.inr (hs _ h))) hA
  refine ⟨u, v, adK, adV, va_Zref (hts _ (ru_mt 572 (by decide +kernel))) (hts _ (ru_mt 1 (by decide +kernel))) hu hA, hT, hS, ⟨va_Zref (hts _ (ru_mt 717 (by decide +kernel))) (hts _ (ru_mt 10 (by decide +kernel))) hv hA, hTv⟩, va_Zof (hts _ (ru_mt 1325 (by decide +kernel))) (hts _ (ru_mt 17 (by decide +kernel))) (va_eqt (hs _ fl_cs)) hA, va_Zqof (hts _ (ru_mt 1341 (by decide +kernel))) (hts _ (ru_mt 19 (by decide +kernel))) (hs _ fl_si) hA, fun w hw => va_Nw.of (ruNe_in w hw).2 (hts _ (ruNe_in w hw).1), vk_R.of (hts _ (ru_mt 971 (by decide +kernel))) (hK 0 (by decide)), vk_R.of (hts _ (ru_mt 972 (by decide +kernel))) (hK 1 (by decide)), vk_R.of (hts _ (ru_mt 973 (by decide +kernel))) (hK 2 (by decide)), vk_R.of (hts _ (ru_mt 974 (by decide +kernel))) (hK 3 (by decide)), vk_R.of (hts _ (ru_mt 975 (by decide +kernel))) (hK 4 (by decide)), vk_R.of (hts _ (ru_mt 976 (by decide +kernel))) (hK 5 (by decide))⟩
/-- what is read only, for any world of new cells -/
theorem ru_ro {E : ruE} {s : State} {u v : Nat} {adK adV : Nat → Nat} (h : ruSt s u v adK adV) (hN : ∀ q, ruIn E q → s.heap.size ≤ q) (e1 : E.2.2.1 104 = u) (e0 : E.2.2.1 103 = v) (e2 : ∀ i, i < 6 → E.2.2.1 (97 + i) = adK i) (e3 : ∀ i, i < 6 → E.2.2.1 (105 + i) = adV i) : ruRO E s := by
  obtain ⟨h1, h2, h3, h7, h4, h5, h6, -⟩ := h
  refine ⟨?_, ?_, ?_, ?_, h4.narrow hN, h5.narrow hN, h6⟩
  · rw [e1]
    exact h1.narrow hN
  · rw [e1]
    exact h2.narrow hN
  · have h8 := h3.narrow hN
    refine ⟨fun i hi => ?_, fun i j hi hj e => ?_⟩
    · have h9 := h8.1 i hi
      rw [← e2 i hi, ← e3 i hi] at h9
      exact h9
    · have e : E.2.2.1 (97 + i) = E.2.2.1 (97 + j) := e
      rw [e2 i hi, e2 j hj] at e
      exact h8.2 i j hi hj e
  · rw [e0]
    exact ⟨h7.1.narrow hN, h7.2.narrow hN⟩
/-- all is zero at the start -/
def ruA0 : ruA := (fun _ _ => 0, fun _ _ => 0, 71, 71)
theorem inv_zero : Inv wyW ruA0 := by
  have cb : ∀ b, CB wyW ruA0.1 b (fun _ => 0) := by
    intro b
    have c0 : ∀ i, cn (fun _ => (0 : Int32)) i = 0 := fun i => cn_iN (n := 0) rfl (by omega)
    refine ⟨⟨⟨rfl, by rw [c0]; rfl, by rw [c0]; omega⟩, ⟨rfl, by rw [c0]; rfl, by rw [c0]; omega⟩, ⟨rfl, by rw [c0]; rfl, by rw [c0]; omega⟩, ⟨rfl, by rw [c0]; rfl, by rw [c0]; omega⟩, ⟨rfl, by rw [c0]; rfl, by rw [c0]; omega⟩, ⟨rfl, by rw [c0]; rfl, by rw [c0]; omega⟩⟩, fun q _ => ⟨rfl, ⟨show (0 : Int32) ≤ 0 by decide, show (0 : Int32) ≤ 3 by decide⟩, rfl⟩, fun c _ => ⟨rfl, rfl, rfl, rfl, fun _ => ⟨rfl, rfl⟩⟩, fun s _ => ⟨rfl, Or.inl rfl, fun _ => rfl⟩, fun s _ q _ => ⟨rfl, ⟨show (-1 : Int32) ≤ 0 by decide, show (0 : Int32) ≤ 3 by decide⟩, rfl, ⟨show (0 : Int32) ≤ 0 by decide, show (0 : Int32) ≤ 7 by decide⟩⟩, fun s _ k _ => rfl, fun h hh => ?_, fun f hf => ?_, fun w hw => ?_⟩
    · rw [c0] at hh
      omega
    · rw [c0] at hf
      omega
    · rw [c0] at hw
      omega
  have c0 : ∀ k i, cn (ruA0.1 k) i = 0 := fun k i => cn_iN (n := 0) rfl (by omega)
  refine ⟨cb 1, cb 32, ⟨fun _ _ => rfl, rfl, rfl, Or.inl rfl⟩, ⟨⟨rfl, by rw [c0]; rfl, by rw [c0]; omega⟩, fun i hi => ?_⟩, fun s _ => ⟨⟨rfl, Or.inl rfl⟩, ⟨rfl, by rw [c0]; rfl, by rw [c0]; omega⟩, fun _ _ => rfl⟩⟩
  rw [c0] at hi
  omega
