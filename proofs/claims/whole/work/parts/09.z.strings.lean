/-! TEXTS: String.length and String.charAt of the claim's constants (97 to 102; their bytes 105 to 110); Math.abs -/
def rustr (c : Nat) : Prop := 97 ≤ c ∧ c < 103
def rusl (c : Nat) : Option Int32 := if 97 ≤ c ∧ c < 103 then some (Int32.ofNat (rulens.getD (c - 97) 0)) else none
def rusc (c : Nat) (i : Int32) : Option Int32 := if 97 ≤ c ∧ c < 103 then ruld (fun j => (rubyt.getD (c - 97) []).getD j 0) (rulens.getD (c - 97) 0) i else none
def ruabs (x : Int32) : Int32 := if 0 ≤ x then x else 0 - x
theorem ruS1 {α : Type} {a b : α} (h : some a = some b) : a = b := Option.some.inj h
theorem ruS2 {α1 α2 : Type} {a1 b1 : α1} {a2 b2 : α2} (h : some (a1, a2) = some (b1, b2)) : a1 = b1 ∧ a2 = b2 := ⟨congrArg Prod.fst (Option.some.inj h), congrArg Prod.snd (Option.some.inj h)⟩
theorem ruS3 {α1 α2 α3 : Type} {a1 b1 : α1} {a2 b2 : α2} {a3 b3 : α3} (h : some (a1, a2, a3) = some (b1, b2, b3)) : a1 = b1 ∧ a2 = b2 ∧ a3 = b3 := ⟨congrArg (fun q => q.1) (Option.some.inj h), congrArg (fun q => q.2.1) (Option.some.inj h), congrArg (fun q => q.2.2) (Option.some.inj h)⟩
theorem ruS4 {α1 α2 α3 α4 : Type} {a1 b1 : α1} {a2 b2 : α2} {a3 b3 : α3} {a4 b4 : α4} (h : some (a1, a2, a3, a4) = some (b1, b2, b3, b4)) : a1 = b1 ∧ a2 = b2 ∧ a3 = b3 ∧ a4 = b4 := ⟨congrArg (fun q => q.1) (Option.some.inj h), congrArg (fun q => q.2.1) (Option.some.inj h), congrArg (fun q => q.2.2.1) (Option.some.inj h), congrArg (fun q => q.2.2.2) (Option.some.inj h)⟩
theorem ruS5 {α1 α2 α3 α4 α5 : Type} {a1 b1 : α1} {a2 b2 : α2} {a3 b3 : α3} {a4 b4 : α4} {a5 b5 : α5} (h : some (a1, a2, a3, a4, a5) = some (b1, b2, b3, b4, b5)) : a1 = b1 ∧ a2 = b2 ∧ a3 = b3 ∧ a4 = b4 ∧ a5 = b5 := ⟨congrArg (fun q => q.1) (Option.some.inj h), congrArg (fun q => q.2.1) (Option.some.inj h), congrArg (fun q => q.2.2.1) (Option.some.inj h), congrArg (fun q => q.2.2.2.1) (Option.some.inj h), congrArg (fun q => q.2.2.2.2) (Option.some.inj h)⟩
/-- the texts' bytes are letters and blanks -/
theorem rubyt_ok1 : ∀ i, i < 6 → ∀ j, j < 24 → ((rubyt.getD i []).getD j 0) &&& 255 = (rubyt.getD i []).getD j 0 ∧ ((((rubyt.getD i []).getD j 0).toUInt32 % 65536).toInt32 = (rubyt.getD i []).getD j 0) ∧ ((rubyt.getD i []).getD j 0).toUInt32.toUInt16.toUInt32.toInt32 = (rubyt.getD i []).getD j 0 := by
  decide +kernel
theorem rubyt_ok (i : Nat) (hi : i < 6) (j : Nat) (hj : j < 24) : ∃ v : Int32, (rubyt.getD i []).getD j 0 = v ∧ v &&& 255 = v ∧ ((v.toUInt32 % 65536).toInt32 = v) ∧ narrow .char (.int v) = .int v := by
  obtain ⟨h1, h2, h3⟩ := rubyt_ok1 i hi j hj
  exact ⟨_, rfl, h1, h2, congrArg Value.int h3⟩
section RUS
variable {E : ruE} {M : ruMD} {d : Nat} {Q : Option Value → ruA → Prop} {pc pc2 : Nat} {L : List (Option Value)} {st : List Value} {A : ruA}
theorem ru_i2c {x v : Int32} (hd : ruDec M pc .i2c 1 pc2) (hv : (x.toUInt32 % 65536).toInt32 = v) (k : ruW E M d Q pc2 L (.int v :: st) A) : ruW E M d Q pc L (.int x :: st) A := by
  obtain ⟨hd, rfl⟩ := hd
  intro p e s m args below meth c H locs ls hX hP hS hl
  exact lv_i2c hX.1.1 hX.1.2.1 hd hv (k p e s m args below meth c H locs ls hX hP hS hl)
theorem ru_compact {idx : Nat} (hd : ruDec M pc (.getstatic idx) 3 pc2) (hf : Cond.fieldLink M.1.cls idx "java/lang/String" "COMPACT_STRINGS" "Z" ∈ lw_tbl) (k : ruW E M d Q pc2 L (.int 1 :: st) A) : ruW E M d Q pc L st A := by
  obtain ⟨hd, rfl⟩ := hd
  intro p e s m args below meth c H locs ls hX hP hS hl
  exact va_gets hX.1.1 hX.1.2.1 hX.2.2.2.2.1.2.2.2.2.1 hS hX.1.2.2.2.1 (hX.1.2.2.2.2 _ (ru_gd hf rfl)) (fun _ h => h) hd (k p e s m args below meth c H locs ls hX hP hS hl)
theorem ru_sioobe {idx : Nat} (hd : ruDec M pc (.getstatic idx) 3 pc2) (hf : Cond.fieldLink M.1.cls idx "jdk/internal/util/Preconditions" "SIOOBE_FORMATTER" "Ljava/util/function/BiFunction;" ∈ lw_tbl) (k : ∀ v : Value, v.category = 1 → ruW E M d Q pc2 L (v :: st) A) : ruW E M d Q pc L st A := by
  obtain ⟨hd, rfl⟩ := hd
  intro p e s m args below meth c H locs ls hX hP hS hl
  rcases hX.2.2.2.2.1.2.2.2.2.2.1 with hZ | ⟨t, hZ⟩
  · exact va_gets hX.1.1 hX.1.2.1 hZ hS hX.1.2.2.2.1 (hX.1.2.2.2.2 _ (ru_gd hf rfl)) (fun _ h => h) hd (k _ rfl p e s m args below meth c H locs ls hX hP hS hl)
  · exact va_gets hX.1.1 hX.1.2.1 hZ hS hX.1.2.2.2.1 (hX.1.2.2.2.2 _ (ru_gd hf rfl)) (fun _ h => h) hd (k _ rfl p e s m args below meth c H locs ls hX hP hS hl)
theorem ru_scoder {idx i : Nat} (hi : i < 6) (hd : ruDec M pc (.getfield idx) 3 pc2) (hf : Cond.fieldLink M.1.cls idx "java/lang/String" "coder" "B" ∈ lw_tbl) (k : ruW E M d Q pc2 L (.int 0 :: st) A) : ruW E M d Q pc L (rurf E (97 + i) :: st) A := by
  obtain ⟨hd, rfl⟩ := hd
  intro p e s m args below meth c H locs ls hX hP hS hl
  exact vk_getf hX.1.1 hX.1.2.1 (hX.2.2.2.2.1.2.2.1.1 i hi).2.1 hS hX.1.2.2.2.1 (hX.1.2.2.2.2 _ (ru_gd hf rfl)) (fun _ h => h) hd (k p e s m args below meth c H locs ls hX hP hS hl)
theorem ru_svalue {idx i : Nat} (hi : i < 6) (hd : ruDec M pc (.getfield idx) 3 pc2) (hf : Cond.fieldLink M.1.cls idx "java/lang/String" "value" "[B" ∈ lw_tbl) (k : ruW E M d Q pc2 L (rurf E (105 + i) :: st) A) : ruW E M d Q pc L (rurf E (97 + i) :: st) A := by
  obtain ⟨hd, rfl⟩ := hd
  intro p e s m args below meth c H locs ls hX hP hS hl
  exact vk_getf hX.1.1 hX.1.2.1 (hX.2.2.2.2.1.2.2.1.1 i hi).2.2.1 hS hX.1.2.2.2.1 (hX.1.2.2.2.2 _ (ru_gd hf rfl)) (fun _ h => h) hd (k p e s m args below meth c H locs ls hX hP hS hl)
theorem ru_blen {i : Nat} {v : Int32} (hi : i < 6) (hd : ruDec M pc .arraylength 1 pc2) (hv : Int32.ofNat (rulens.getD i 0) = v) (k : ruW E M d Q pc2 L (.int v :: st) A) : ruW E M d Q pc L (rurf E (105 + i) :: st) A := by
  obtain ⟨hd, rfl⟩ := hd
  intro p e s m args below meth c H locs ls hX hP hS hl
  exact va_tlen hX.1.1 hX.1.2.1 (hX.2.2.2.2.1.2.2.1.1 i hi).2.2.2 hS hv hd (k p e s m args below meth c H locs ls hX hP hS hl)
theorem ru_bald {i : Nat} {j v : Int32} (hi : i < 6) (hd : ruDec M pc .baload 1 pc2) (hv : ruld (fun j => (rubyt.getD i []).getD j 0) (rulens.getD i 0) j = some v) (k : ruW E M d Q pc2 L (.int v :: st) A) : ruW E M d Q pc L (.int j :: rurf E (105 + i) :: st) A := by
  obtain ⟨hd, rfl⟩ := hd
  obtain ⟨h1, h2⟩ := ruld_eq hv
  intro p e s m args below meth c H locs ls hX hP hS hl
  exact va_tb hX.1.1 hX.1.2.1 (hX.2.2.2.2.1.2.2.1.1 i hi).2.2.2 hS h1 (congrArg Value.int h2) hd (k p e s m args below meth c H locs ls hX hP hS hl)
def ruCT (own : String) (idx : Nat) (M : ruMD) (n : Nat) : Prop := Cond.methodLink own idx M.1 ∈ lw_tbl ∧ Cond.instanceMethod M.1 ∈ lw_tbl ∧ Cond.selects M.1.cls M.1 M.1 ∈ lw_tbl ∧ ruMk M n ∧ M.1.cls = "java/lang/String"
theorem ru_callT {M2 : ruMD} {d2 idx i : Nat} {as st0 : List Value} {r : Int32} (hi : i < 6) (hd : ruDec M pc (.invokevirtual idx) 3 pc2) (hl : ruCT M.1.cls idx M2 as.length) (hc : ruC E M2 d2 (rurf E (97 + i) :: as) A (ruPr r A)) (hst : as.reverse ++ rurf E (97 + i) :: st = st0) (hdd : d2 + 1 ≤ d) (hroom : (st.map fun v => v.category).sum ≤ 8) (kk : ruW E M d Q pc2 L (.int r :: st) A) : ruW E M d Q pc L st0 A := by
  obtain ⟨hd, rfl⟩ := hd
  obtain ⟨l1, l2, l2b, ⟨l3, l4, l5, l6⟩, l7⟩ := hl
  subst hst
  intro p e s m args below meth c H locs ls hX hP hS hl
  have ht := hX.1.2.2.2.2
  refine ru_after (va_runV (As := as) (rest := st) (C := M2.1.cls) (b := E.2.2.1 (97 + i)) hX.1 hc ⟨callB_of (Ts := rugd) as.length ht (fun w hw => ?_) rfl rfl rfl (ht _ (ru_gd l3 rfl)) (ht _ (ru_gd l1 rfl)) l5 ⟨hdd, ?_⟩, ht _ (ru_gd l2 rfl), ht _ (ru_gd l2b rfl)⟩ ⟨ru_blind, by rw [l7]; exact vk_recv (i := i) hX.2.2.2.2.1.2.2.1 hi hS, ru_pre (rurf E (97 + i) :: as) hP hX.2.2.2.1 hX.2.2.2.2.1 hX.2.2.2.2.2 hS⟩ rfl rfl hl.1 rfl (lv_room hroom) hd ⟨Nat.le_refl _, Nat.le_refl _⟩) hS ?_
  · rcases List.mem_cons.mp hw with rfl | h
    · exact ⟨ru_gd l4 rfl, Or.inl rfl⟩
    · exact ru_good w h
  · show 8 + (M2.2.2.1 + 11) + 40 * d2 ≤ 40 * d
    omega
  · intro r A2 H1 locs1 hq hP1 hS1
    obtain ⟨rfl, rfl⟩ := hq
    exact kk p e s m args below meth c H1 locs1 ls hX hP1 hS1 hl
theorem ru_mabs {idx : Nat} {x : Int32} (hd : ruDec M pc (.invokestatic idx) 3 pc2) (hl : Cond.methodLink M.1.cls idx Lib.Math.abs.name ∈ lw_tbl) (h1 : 1 ≤ d) (hroom : (st.map fun v => v.category).sum ≤ 8) (k : ruW E M d Q pc2 L (.int (ruabs x) :: st) A) : ruW E M d Q pc L (.int x :: st) A := by
  obtain ⟨hd, rfl⟩ := hd
  intro p e s m args below meth c H locs ls hX hP hS hl2
  have ht := hX.1.2.2.2.2
  exact va_mabs hX.1.1 hX.1.2.1 (hX.1.2.2.1.trans hl2.1.symm) hX.1.2.2.2.1 (ht _ (ru_gd hl rfl)) (ht _ (ru_gd (ru_mt 504 (by decide +kernel)) rfl)) (ht _ (ru_gd (ru_mt 14 (by decide +kernel)) rfl)) (ht _ (ru_gd (ru_mt 505 (by decide +kernel)) rfl)) h1 (by show _ ≤ 40 * d; omega) (Nat.le_refl _) (Nat.le_refl _) hd (k p e s m args below meth c H locs ls hX hP hS hl2)
end RUS
theorem wS_coder {E : ruE} (i : Nat) (hi : i < 6) (A : ruA) : ruC E mmJ0_coder_7d493 1 [rurf E (97 + i)] A (ruPr 0 A) := by
  refine ruC.of (L := [some (rurf E (97 + i))]) (by decide) rfl (Nat.le_of_ble_eq_true rfl) rfl ?_
  refine ru_compact ddJ0_coder_7d493_0 (ru_mt 1324 (by decide +kernel)) ?_
  refine ru_if_eq 13 ddJ0_coder_7d493_3 (by decide) (fun hc => absurd hc (by decide)) (fun _ => ?_)
  refine ru_aload_n ddJ0_coder_7d493_6 rfl ?_
  refine ru_scoder hi ddJ0_coder_7d493_7 (ru_mt 1458 (by decide +kernel)) ?_
  refine ru_goto 14 ddJ0_coder_7d493_10 (by decide) ?_
  exact ru_xret (ty := .byte) ddJ0_coder_7d493_14 rfl rfl ⟨rfl, rfl⟩
theorem wS_isLatin1 {E : ruE} (i : Nat) (hi : i < 6) (A : ruA) : ruC E mmJ0_isLatin1_aae02 1 [rurf E (97 + i)] A (ruPr 1 A) := by
  refine ruC.of (L := [some (rurf E (97 + i))]) (by decide) rfl (Nat.le_of_ble_eq_true rfl) rfl ?_
  refine ru_compact ddJ0_isLatin1_aae02_0 (ru_mt 1324 (by decide +kernel)) ?_
  refine ru_if_eq 17 ddJ0_isLatin1_aae02_3 (by decide) (fun hc => absurd hc (by decide)) (fun _ => ?_)
  refine ru_aload_n ddJ0_isLatin1_aae02_6 rfl ?_
  refine ru_scoder hi ddJ0_isLatin1_aae02_7 (ru_mt 1458 (by decide +kernel)) ?_
  refine ru_if_ne 17 ddJ0_isLatin1_aae02_10 (by decide) (fun hc => absurd rfl hc) (fun _ => ?_)
  refine ru_iconst (1 : Int32) ddJ0_isLatin1_aae02_13 rfl ?_
  refine ru_goto 18 ddJ0_isLatin1_aae02_14 (by decide) ?_
  exact ru_xret (ty := .boolean) ddJ0_isLatin1_aae02_18 rfl rfl ⟨rfl, rfl⟩
theorem wS_pcheck {E : ruE} (x n : Int32) (v : Value) (hv : v.category = 1) (h1 : ¬ x < 0) (h2 : x < n) (A : ruA) : ruC E mmJ3_checkIndex_8e157 1 [.int x, .int n, v] A (ruPr x A) := by
  refine ruC.of (L := [some (.int x), some (.int n), some v]) (by decide) (by show (true && (true && ((v.category == 1) && true))) = true; rw [hv]; rfl) (by have := hv; cases v <;> first | exact Nat.le_of_ble_eq_true rfl | cases this) rfl ?_
  refine ru_iload_n ddJ3_checkIndex_8e157_0 rfl ?_
  refine ru_if_lt 9 ddJ3_checkIndex_8e157_1 (by decide) (fun hc => absurd hc h1) (fun _ => ?_)
  refine ru_iload_n ddJ3_checkIndex_8e157_4 rfl ?_
  refine ru_iload_n ddJ3_checkIndex_8e157_5 rfl ?_
  refine ru_icmp_lt 16 ddJ3_checkIndex_8e157_6 (by decide) (fun _ => ?_) (fun hc => absurd h2 hc)
  refine ru_iload_n ddJ3_checkIndex_8e157_16 rfl ?_
  exact ru_iret ddJ3_checkIndex_8e157_17 rfl ⟨rfl, rfl⟩
theorem wS_scheck {E : ruE} (x n : Int32) (h1 : ¬ x < 0) (h2 : x < n) (A : ruA) : ruC E mmJ0_checkIndex_df160 2 [.int x, .int n] A (ruPv A) := by
  refine ruC.of (L := [some (.int x), some (.int n)]) (by decide) rfl (Nat.le_of_ble_eq_true rfl) rfl ?_
  refine ru_iload_n ddJ0_checkIndex_df160_0 rfl ?_
  refine ru_iload_n ddJ0_checkIndex_df160_1 rfl ?_
  refine ru_sioobe ddJ0_checkIndex_df160_2 (ru_mt 1340 (by decide +kernel)) fun v hv => ?_
  refine ru_callSi (as := [.int x, .int n, v]) (st := []) ddJ0_checkIndex_df160_5 csJ0_1059 (wS_pcheck x n v hv h1 h2 A) rfl (by decide) (Nat.le_of_ble_eq_true rfl) ?_
  refine ru_pop ddJ0_checkIndex_df160_8 rfl ?_
  exact ru_vret ddJ0_checkIndex_df160_9 rfl ⟨rfl, rfl⟩
theorem wS_lcharAt {E : ruE} (i : Nat) (hi : i < 6) (x r : Int32) (A : ruA) (h : ruld (fun j => (rubyt.getD i []).getD j 0) (rulens.getD i 0) x = some r) : ruC E mmJ1_charAt_3b067 3 [rurf E (105 + i), .int x] A (ruPr r A) := by
  have hl24 : rulens.getD i 0 ≤ 24 := by
    have : ∀ i, i < 6 → rulens.getD i 0 ≤ 24 := by decide
    exact this i hi
  obtain ⟨hin, hr⟩ := ruld_eq h
  have hlt : x.toNatClampNeg < rulens.getD i 0 := Nat.not_le.mp fun q => hin (Or.inr q)
  have h1 : ¬ x < 0 := fun q => hin (Or.inl q)
  have h2 : x < Int32.ofNat (rulens.getD i 0) := by
    rw [Int32.lt_iff_toInt_lt, Int32.toInt_ofNat_of_lt (by omega)]
    have h3 : ¬ x.toInt < 0 := fun q => h1 (Int32.lt_iff_toInt_lt.mpr q)
    have h4 : x.toNatClampNeg = x.toInt.toNat := rfl
    omega
  obtain ⟨v, e1, e2, e3, e4⟩ := rubyt_ok i hi x.toNatClampNeg (by omega)
  have e5 : v = r := e1.symm.trans hr
  subst e5
  refine ruC.of (L := [some (rurf E (105 + i)), some (.int x)]) (by decide) rfl (Nat.le_of_ble_eq_true rfl) rfl ?_
  refine ru_iload_n ddJ1_charAt_3b067_0 rfl ?_
  refine ru_aload_n ddJ1_charAt_3b067_1 rfl ?_
  refine ru_blen hi ddJ1_charAt_3b067_2 rfl ?_
  refine ru_callSv (as := [.int x, .int (Int32.ofNat (rulens.getD i 0))]) (st := []) ddJ1_charAt_3b067_3 csJ1_9 (wS_scheck x _ h1 h2 A) rfl (by decide) (Nat.le_of_ble_eq_true rfl) ?_
  refine ru_aload_n ddJ1_charAt_3b067_6 rfl ?_
  refine ru_iload_n ddJ1_charAt_3b067_7 rfl ?_
  refine ru_bald hi ddJ1_charAt_3b067_8 h ?_
  refine ru_sipush (255 : Int32) ddJ1_charAt_3b067_9 rfl ?_
  refine ru_iand ddJ1_charAt_3b067_12 ?_
  rw [e2]
  refine ru_i2c ddJ1_charAt_3b067_13 e3 ?_
  exact ru_xret (ty := .char) ddJ1_charAt_3b067_14 rfl e4 ⟨rfl, rfl⟩
theorem wS_charAt {E : ruE} (i : Nat) (hi : i < 6) (x r : Int32) (A : ruA) (h : ruld (fun j => (rubyt.getD i []).getD j 0) (rulens.getD i 0) x = some r) : ruC E mmJ0_charAt_5068e 4 [rurf E (97 + i), .int x] A (ruPr r A) := by
  have hl24 : rulens.getD i 0 ≤ 24 := by
    have : ∀ i, i < 6 → rulens.getD i 0 ≤ 24 := by decide
    exact this i hi
  obtain ⟨hin, hr⟩ := ruld_eq h
  have hlt : x.toNatClampNeg < rulens.getD i 0 := Nat.not_le.mp fun q => hin (Or.inr q)
  obtain ⟨v, e1, e2, e3, e4⟩ := rubyt_ok i hi x.toNatClampNeg (by omega)
  have e5 : v = r := e1.symm.trans hr
  subst e5
  refine ruC.of (L := [some (rurf E (97 + i)), some (.int x)]) (by decide) rfl (Nat.le_of_ble_eq_true rfl) rfl ?_
  refine ru_aload_n ddJ0_charAt_5068e_0 rfl ?_
  refine ru_callT (as := []) (st := []) hi ddJ0_charAt_5068e_1 ⟨ru_mt 1330 (by decide +kernel), ru_mt 1331 (by decide +kernel), ru_mt 1332 (by decide +kernel), mkJ0_isLatin1_aae02, rfl⟩ (wS_isLatin1 i hi A) rfl (by decide) (Nat.le_of_ble_eq_true rfl) ?_
  refine ru_if_eq 16 ddJ0_charAt_5068e_4 (by decide) (fun hc => absurd hc (by decide)) (fun _ => ?_)
  refine ru_aload_n ddJ0_charAt_5068e_7 rfl ?_
  refine ru_svalue hi ddJ0_charAt_5068e_8 (ru_mt 1457 (by decide +kernel)) ?_
  refine ru_iload_n ddJ0_charAt_5068e_11 rfl ?_
  refine ru_callSi (as := [rurf E (105 + i), .int x]) (st := []) ddJ0_charAt_5068e_12 csJ0_495 (wS_lcharAt i hi x v A h) rfl (by decide) (Nat.le_of_ble_eq_true rfl) ?_
  exact ru_xret (ty := .char) ddJ0_charAt_5068e_15 rfl e4 ⟨rfl, rfl⟩
theorem wS_length {E : ruE} (i : Nat) (hi : i < 6) (A : ruA) : ruC E mmJ0_length_8abf5 2 [rurf E (97 + i)] A (ruPr (Int32.ofNat (rulens.getD i 0)) A) := by
  have hsh : Int32.ofNat (rulens.getD i 0) >>> ((0 : Int32) &&& 31) = Int32.ofNat (rulens.getD i 0) := by
    have : ∀ i, i < 6 → Int32.ofNat (rulens.getD i 0) >>> ((0 : Int32) &&& 31) = Int32.ofNat (rulens.getD i 0) := by decide
    exact this i hi
  refine ruC.of (L := [some (rurf E (97 + i))]) (by decide) rfl (Nat.le_of_ble_eq_true rfl) rfl ?_
  refine ru_aload_n ddJ0_length_8abf5_0 rfl ?_
  refine ru_svalue hi ddJ0_length_8abf5_1 (ru_mt 1457 (by decide +kernel)) ?_
  refine ru_blen hi ddJ0_length_8abf5_4 rfl ?_
  refine ru_aload_n ddJ0_length_8abf5_5 rfl ?_
  refine ru_callT (as := []) (st := [.int (Int32.ofNat (rulens.getD i 0))]) hi ddJ0_length_8abf5_6 ⟨ru_mt 1320 (by decide +kernel), ru_mt 1321 (by decide +kernel), ru_mt 1322 (by decide +kernel), mkJ0_coder_7d493, rfl⟩ (wS_coder i hi A) rfl (by decide) (Nat.le_of_ble_eq_true rfl) ?_
  refine ru_ishr ddJ0_length_8abf5_9 ?_
  rw [hsh]
  exact ru_iret ddJ0_length_8abf5_10 rfl ⟨rfl, rfl⟩
section RUS2
variable {E : ruE} {M : ruMD} {d : Nat} {Q : Option Value → ruA → Prop} {pc pc2 : Nat} {L : List (Option Value)} {st : List Value} {A : ruA}
theorem ru_strlen {idx c : Nat} {v : Int32} (hd : ruDec M pc (.invokevirtual idx) 3 pc2) (hl : ruCT M.1.cls idx mmJ0_length_8abf5 0) (hv : rusl c = some v) (hdd : 3 ≤ d) (hroom : (st.map fun v => v.category).sum ≤ 8) (kk : ruW E M d Q pc2 L (.int v :: st) A) : ruW E M d Q pc L (rurf E c :: st) A := by
  unfold rusl at hv
  split at hv
  · rename_i hc
    cases hv
    obtain ⟨i, rfl⟩ : ∃ i, c = 97 + i := ⟨c - 97, by omega⟩
    have hi : i < 6 := by omega
    have e : 97 + i - 97 = i := by omega
    rw [e] at kk
    exact ru_callT (as := []) (st := st) hi hd hl (wS_length i hi A) rfl hdd hroom kk
  · cases hv
theorem ru_charAt {idx c : Nat} {x v : Int32} (hd : ruDec M pc (.invokevirtual idx) 3 pc2) (hl : ruCT M.1.cls idx mmJ0_charAt_5068e 1) (hv : rusc c x = some v) (hdd : 5 ≤ d) (hroom : (st.map fun v => v.category).sum ≤ 8) (kk : ruW E M d Q pc2 L (.int v :: st) A) : ruW E M d Q pc L (.int x :: rurf E c :: st) A := by
  unfold rusc at hv
  split at hv
  · rename_i hc
    obtain ⟨i, rfl⟩ : ∃ i, c = 97 + i := ⟨c - 97, by omega⟩
    have hi : i < 6 := by omega
    have e : 97 + i - 97 = i := by omega
    rw [e] at hv
    exact ru_callT (as := [.int x]) (st := st) hi hd hl (wS_charAt i hi x v A hv) rfl hdd hroom kk
  · cases hv
end RUS2
theorem tlX11_205 : ruCT "RubbedSheetsModel" 205 mmJ0_length_8abf5 0 := ⟨ru_mt 1316 (by decide +kernel), ru_mt 1317 (by decide +kernel), ru_mt 1318 (by decide +kernel), mkJ0_length_8abf5, rfl⟩
theorem tcX11_209 : ruCT "RubbedSheetsModel" 209 mmJ0_charAt_5068e 1 := ⟨ru_mt 1326 (by decide +kernel), ru_mt 1327 (by decide +kernel), ru_mt 1328 (by decide +kernel), mkJ0_charAt_5068e, rfl⟩
theorem abX5_50 : Cond.methodLink "RubbedSheets$School" 50 Lib.Math.abs.name ∈ lw_tbl := ru_mt 503 (by decide +kernel)
