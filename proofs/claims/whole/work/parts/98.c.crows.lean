/-! LEVEL 3: rows of constructors. F: launch, classes, array classes, addresses of the six texts -/
abbrev cnF : Type := Launch × va_G × (Nat → ClassId) × (Nat → Nat)
def cnty (F : cnF) : List (ClassId × FieldType) := (List.range 6).map fun k => (F.2.2.1 k, rutyk k)
def cnNe : List Cond := [.methodLinkNest "RubbedSheets" 11 ⟨"RubbedSheets$Book", "<init>", "()V"⟩ "RubbedSheets", .methodLinkNest "RubbedSheets$Book" 9 ⟨"RubbedSheets$School", "<init>", "()V"⟩ "RubbedSheets", .methodLinkNest "RubbedSheets$Book" 18 ⟨"RubbedSheets$Sheets", "<init>", "()V"⟩ "RubbedSheets", .methodLinkNest "RubbedSheets$Book" 25 ⟨"RubbedSheets$Ways", "<init>", "()V"⟩ "RubbedSheets", .methodLinkNest "RubbedSheets$Book" 32 ⟨"RubbedSheets$Keys", "<init>", "()V"⟩ "RubbedSheets", .methodLinkNest "RubbedSheets$Book" 39 ⟨"RubbedSheets$Forms", "<init>", "()V"⟩ "RubbedSheets", .methodLinkNest "RubbedSheets" 66 ⟨"RubbedSheets$Slip", "<init>", "()V"⟩ "RubbedSheets"]
theorem cnNe_in : ∀ w ∈ cnNe, w ∈ lw_tbl ∧ w.onTables = true := by
  intro w hw
  simp only [cnNe, List.mem_cons, List.not_mem_nil, or_false] at hw
  rcases hw with rfl | rfl | rfl | rfl | rfl | rfl | rfl
  · exact ⟨ru_mt 31 (by decide +kernel), rfl⟩
  · exact ⟨ru_mt 37 (by decide +kernel), rfl⟩
  · exact ⟨ru_mt 88 (by decide +kernel), rfl⟩
  · exact ⟨ru_mt 111 (by decide +kernel), rfl⟩
  · exact ⟨ru_mt 132 (by decide +kernel), rfl⟩
  · exact ⟨ru_mt 158 (by decide +kernel), rfl⟩
  · exact ⟨ru_mt 294 (by decide +kernel), rfl⟩
def cnMA (F : cnF) (U : State) : Prop := U.vm.findClass "[[I" = some (F.2.2.1 4) ∧ (∃ kA : Class, U.vm.classes[F.2.2.1 4]? = some kA ∧ kA.kind = .array (F.2.2.1 0) (.array .int)) ∧ ∃ (kC : Class) (cc : ClassId), U.vm.classes[F.2.2.1 0]? = some kC ∧ kC.kind = .array cc .int
def cnTx (F : cnF) (U : State) : Prop := vk_R "RubbedSheetsModel" 33 "wr" (F.2.2.2 0) U ∧ vk_R "RubbedSheetsModel" 35 "rw" (F.2.2.2 1) U ∧ vk_R "RubbedSheetsModel" 37 "row" (F.2.2.2 2) U ∧ vk_R "RubbedSheetsModel" 39 "fit" (F.2.2.2 3) U ∧ vk_R "RubbedSheetsModel" 41 "fall" (F.2.2.2 4) U ∧ vk_R "RubbedSheetsModel" 43 "size" (F.2.2.2 5) U
/-- what every constructor may use, whatever has been made meanwhile -/
def cnRO (F : cnF) (U : State) : Prop := va_K F.2.1 rucl (cnty F) U ∧ cnMA F U ∧ va_AO "RubbedSheets$Slip" U ∧ va_AO "java/lang/String" U ∧ (∀ w ∈ cnNe, va_Nw w U) ∧ cnTx F U
theorem cnMA.moved {F : cnF} {u U : State} (hvm : u.vm.Alike U.vm) (h : cnMA F u) : cnMA F U := by
  obtain ⟨h1, ⟨kA, h2, h3⟩, kC, cc, h4, h5⟩ := h
  obtain ⟨kA', e1, e2⟩ := hvm.2.2 _ _ h2
  obtain ⟨kC', e3, e4⟩ := hvm.2.2 _ _ h4
  exact ⟨by rw [hvm.findClass]; exact h1, ⟨kA', e1, by rw [e2]; exact h3⟩, kC', cc, e3, by rw [e4]; exact h5⟩
theorem cnRO.moved {F : cnF} {s U : State} (hW : s.WarmedH U.vm) (h : cnRO F s) : cnRO F U := by
  obtain ⟨h1, h2, h3, h4, h5, t0, t1, t2, t3, t4, t5⟩ := h
  refine ⟨va_K.moved hW.alike h1, h2.moved hW.alike, h3.moved hW.alike, h4.moved hW.alike, fun w hw => ?_, t0.warm hW, t1.warm hW, t2.warm hW, t3.warm hW, t4.warm hW, t5.warm hW⟩
  have h8 := h5 w hw
  simp only [cnNe, List.mem_cons, List.not_mem_nil, or_false] at hw
  rcases hw with rfl | rfl | rfl | rfl | rfl | rfl | rfl
  all_goals exact va_Nw.warmM hW h8
def cnX (F : cnF) (M : ruMD) (p : Program) (s : State) (m : MethodId) (args : Array Value) (meth : Method) (c : Code) : Prop :=
  CallFix p m c M.2.1 M.2.2.1 s args rugd M.1.cls ∧ meth.locks = false ∧ meth.sig.returnType = M.2.2.2 ∧ meth.name = "<init>" ∧ cnRO F s
def cnRm (d mc ms : Nat) : Room := { frames := d, cells := mc, slots := ms, locals := 40 * d }
def cnQ (F : cnF) (hc : Nat × va_E) (sz : Nat) (Q : va_W → Prop) : Array Value → State → Outcome → State → Prop := fun _ s o t => (∃ ws : va_W, o = .returned none ∧ Q ws ∧ va_P F.2.1 rucl ws t.heap ∧ va_D (va_A [hc] sz) ws) ∧ va_F (va_A [hc] sz) s t
def cnW (F : cnF) (M : ruMD) (d mc ms : Nat) (hc : Nat × va_E) (sz : Nat) (V : State → Heap → Prop) (Q : va_W → Prop) (pc : Nat) (L : List (Option Value)) (st : List Value) (ws : va_W) (cells slots : Nat) : Prop :=
  ∀ (p : Program) (e : Env) (s : State) (m : MethodId) (args : Array Value) (below : List Frame) (meth : Method) (c : Code) (H : Heap) (locs : List Loc) (ls : Array Slot), cnX F M p s m args meth c → s.heap.size = sz → V s s.heap → va_P F.2.1 rucl ws H → va_D (va_A [hc] sz) ws → va_S (va_A [hc] sz) s.heap H locs → rulv ls M.2.2.1 L →
    W p F.1 e (cnRm d mc ms) s m args below meth c H locs cells slots (MQ below (cnQ F hc sz Q) args s mc ms (va_A [hc] sz)) (F0 m pc ls st)
/-- a constructor's contract: V is what it asks of the heap besides its own cell -/
def cnC (F : cnF) (M : ruMD) (d mc ms : Nat) (as : List Value) (hc : Nat × va_E) (sz : Nat) (V : State → Heap → Prop) (Q : va_W → Prop) : Prop :=
  Met F.1 M.1 (.code M.1 M.2.1 M.2.2.1 M.2.2.2 :: rugd) (cnRm d mc ms) (va_Pc as (fun U => U.heap.size = sz ∧ va_P F.2.1 rucl [hc] U.heap ∧ cnRO F U ∧ V U U.heap)) (cnQ F hc sz Q) mc ms (va_A [hc] sz)
def cnV : State → Heap → Prop := fun _ _ => True
theorem cnD1 (hc : Nat × va_E) (A : Nat → Prop) (h : A hc.1) : va_D A [hc] := by
  refine ⟨fun i j p q hi hj e => ?_, fun k q hk => ?_⟩
  · have h1 := (List.getElem?_eq_some_iff.mp hi).1
    have h2 := (List.getElem?_eq_some_iff.mp hj).1
    have h1 : i < 1 := h1
    have h2 : j < 1 := h2
    omega
  · have h1 := (List.getElem?_eq_some_iff.mp hk).1
    have h1 : k < 1 := h1
    have e : k = 0 := by omega
    subst e
    cases hk
    exact h
theorem cnA1 (hc : Nat × va_E) (sz : Nat) : va_A [hc] sz hc.1 := Or.inl ⟨0, hc.2, rfl⟩
theorem cnC.of {F : cnF} {M : ruMD} {d mc ms : Nat} {as : List Value} {hc : Nat × va_E} {sz : Nat} {V : State → Heap → Prop} {Q : va_W → Prop} {L : List (Option Value)} (hy : plainName M.1.cls = true) (hnm : M.1.name = "<init>") (hcat : as.all (fun v => v.category == 1) = true) (hn : (lg_sl as).length ≤ M.2.2.1) (hL : as.map some ++ List.replicate (M.2.2.1 - as.length) none = L) (h : cnW F M d mc ms hc sz V Q 0 L [] [hc] 0 0) : cnC F M d mc ms as hc sz V Q := by
  refine Met.ofW (cc := M.2.1) (maxL := M.2.2.1) (ret := M.2.2.2) hy rfl ?_
  intro p e s m args below meth c s₁ B hml hv
  obtain ⟨rfl, hsz, hP, hRO, hV⟩ := hv
  have hts : ∀ w ∈ rugd, w.before as.toArray s = true := fun w hw => atoms_spec (ws := .code M.1 M.2.1 M.2.2.1 M.2.2.2 :: rugd) B.pre w (List.mem_cons_of_mem _ hw)
  have hl := lv_entry as (n := M.2.2.1) hn
  rw [lg_entry_eq]
  rw [lv_args_as as 0 hcat] at hl
  have hin : meth.name = "<init>" := ((name_of_methodNamed B.named B.method).1).trans hnm
  refine h p e s m as.toArray below meth c s.heap [] _ ⟨⟨B.exec, B.bytes, hml, findClass_of_methodNamed B.named, hts⟩, B.notSynchronized, B.returns, hin, hRO⟩ hsz hV hP (cnD1 hc _ (cnA1 hc sz)) va_S.rf ?_
  rw [← hL]
  unfold rulv
  rw [ruas_none]
  exact hl
section CN
variable {F : cnF} {M : ruMD} {d mc ms : Nat} {hc : Nat × va_E} {sz : Nat} {V : State → Heap → Prop} {Q : va_W → Prop} {pc pc2 : Nat} {L : List (Option Value)} {st : List Value} {ws : va_W} {cells slots : Nat}
theorem cn_aload_n {n : Fin 4} {x : Nat} (hd : ruDec M pc (.aload_n n) 1 pc2) (hv : L[(n : Nat)]? = some (some (.ref x))) (k : cnW F M d mc ms hc sz V Q pc2 L (.ref x :: st) ws cells slots) : cnW F M d mc ms hc sz V Q pc L st ws cells slots := by
  obtain ⟨hd, rfl⟩ := hd
  intro p e s m args below meth c H locs ls hX hz hV hP hD hS hl
  exact lv_aload_n hX.1.1 hX.1.2.1 hd rfl (rulv_at hl hv) (k p e s m args below meth c H locs ls hX hz hV hP hD hS hl)
theorem cn_iload_n {n : Fin 4} {x : Int32} (hd : ruDec M pc (.iload_n n) 1 pc2) (hv : L[(n : Nat)]? = some (some (.int x))) (k : cnW F M d mc ms hc sz V Q pc2 L (.int x :: st) ws cells slots) : cnW F M d mc ms hc sz V Q pc L st ws cells slots := by
  obtain ⟨hd, rfl⟩ := hd
  intro p e s m args below meth c H locs ls hX hz hV hP hD hS hl
  exact lv_iload_n hX.1.1 hX.1.2.1 hd rfl (rulv_at hl hv) (k p e s m args below meth c H locs ls hX hz hV hP hD hS hl)
theorem cn_istore_n {n : Fin 4} {x : Int32} {L2 : List (Option Value)} (hd : ruDec M pc (.istore_n n) 1 pc2) (hn : (n : Nat) < M.2.2.1) (hc9 : rulong L n = false) (hL : L.set n (some (.int x)) = L2) (k : cnW F M d mc ms hc sz V Q pc2 L2 st ws cells slots) : cnW F M d mc ms hc sz V Q pc L (.int x :: st) ws cells slots := by
  obtain ⟨hd, rfl⟩ := hd
  intro p e s m args below meth c H locs ls hX hz hV hP hD hS hl
  subst hL
  exact lv_istore_n hX.1.1 hX.1.2.1 hd rfl hl hn rfl (fun ls hl => k p e s m args below meth c H locs ls hX hz hV hP hD hS (rulv_set hc9 hl))
theorem cn_iinc {n : Nat} {z : Int} {x : Int32} {L2 : List (Option Value)} (y : Int32) (hd : ruDec M pc (.iinc n z) 3 pc2) (hn : n < M.2.2.1) (hv : L[n]? = some (some (.int x))) (hy : x + Int32.ofInt z = y) (hc9 : rulong L n = false) (hL : L.set n (some (.int y)) = L2) (k : cnW F M d mc ms hc sz V Q pc2 L2 st ws cells slots) : cnW F M d mc ms hc sz V Q pc L st ws cells slots := by
  obtain ⟨hd, rfl⟩ := hd
  intro p e s m args below meth c H locs ls hX hz hV hP hD hS hl
  subst hL
  obtain ⟨i, hi⟩ := List.getElem?_of_mem ((ruas_mem L 0 (n, .int x)).mpr ⟨n, hv, by simp⟩)
  exact lv_iinc hX.1.1 hX.1.2.1 hd hl hi hy hn rfl (fun ls hl => k p e s m args below meth c H locs ls hX hz hV hP hD hS (rulv_set hc9 hl))
theorem cn_iconst {n : Int} (v : Int32) (hd : ruDec M pc (.iconst n) 1 pc2) (hv : Int32.ofInt n = v) (k : cnW F M d mc ms hc sz V Q pc2 L (.int v :: st) ws cells slots) : cnW F M d mc ms hc sz V Q pc L st ws cells slots := by
  obtain ⟨hd, rfl⟩ := hd
  intro p e s m args below meth c H locs ls hX hz hV hP hD hS hl
  exact lv_iconst hX.1.1 hX.1.2.1 hd hv (k p e s m args below meth c H locs ls hX hz hV hP hD hS hl)
theorem cn_bipush {n : Int} (v : Int32) (hd : ruDec M pc (.bipush n) 2 pc2) (hv : (Int8.ofInt n).toInt32 = v) (k : cnW F M d mc ms hc sz V Q pc2 L (.int v :: st) ws cells slots) : cnW F M d mc ms hc sz V Q pc L st ws cells slots := by
  obtain ⟨hd, rfl⟩ := hd
  intro p e s m args below meth c H locs ls hX hz hV hP hD hS hl
  exact lv_bipush hX.1.1 hX.1.2.1 hd hv (k p e s m args below meth c H locs ls hX hz hV hP hD hS hl)
theorem cn_sipush {n : Int} (v : Int32) (hd : ruDec M pc (.sipush n) 3 pc2) (hv : (Int16.ofInt n).toInt32 = v) (k : cnW F M d mc ms hc sz V Q pc2 L (.int v :: st) ws cells slots) : cnW F M d mc ms hc sz V Q pc L st ws cells slots := by
  obtain ⟨hd, rfl⟩ := hd
  intro p e s m args below meth c H locs ls hX hz hV hP hD hS hl
  exact lv_sipush hX.1.1 hX.1.2.1 hd hv (k p e s m args below meth c H locs ls hX hz hV hP hD hS hl)
theorem cn_dup {x : Nat} (hd : ruDec M pc (.dup) 1 pc2) (k : cnW F M d mc ms hc sz V Q pc2 L (.ref x :: .ref x :: st) ws cells slots) : cnW F M d mc ms hc sz V Q pc L (.ref x :: st) ws cells slots := by
  obtain ⟨hd, rfl⟩ := hd
  intro p e s m args below meth c H locs ls hX hz hV hP hD hS hl
  exact lv_dup hX.1.1 hX.1.2.1 hd rfl (k p e s m args below meth c H locs ls hX hz hV hP hD hS hl)
theorem cn_goto {off : Int} (tgt : Nat) (hd : ruDec M pc (.goto off) 3 pc2) (ht : (pc : Int) + off = (tgt : Int)) (k : cnW F M d mc ms hc sz V Q tgt L st ws cells slots) : cnW F M d mc ms hc sz V Q pc L st ws cells slots := by
  obtain ⟨hd, rfl⟩ := hd
  intro p e s m args below meth c H locs ls hX hz hV hP hD hS hl
  exact lv_goto hX.1.1 hX.1.2.1 hd ht (k p e s m args below meth c H locs ls hX hz hV hP hD hS hl)
theorem cn_geT {x y : Int32} {off : Int} (tgt : Nat) (hd : ruDec M pc (.if_icmp .ge off) 3 pc2) (ht : (pc : Int) + off = (tgt : Int)) (hxy : y ≤ x) (k : cnW F M d mc ms hc sz V Q tgt L st ws cells slots) : cnW F M d mc ms hc sz V Q pc L (.int y :: .int x :: st) ws cells slots := by
  obtain ⟨hd, rfl⟩ := hd
  intro p e s m args below meth c H locs ls hX hz hV hP hD hS hl
  exact lv_icmp_ge hX.1.1 hX.1.2.1 hd ht (fun _ => k p e s m args below meth c H locs ls hX hz hV hP hD hS hl) (fun h => absurd hxy h)
theorem cn_geF {x y : Int32} {off : Int} (tgt : Nat) (hd : ruDec M pc (.if_icmp .ge off) 3 pc2) (ht : (pc : Int) + off = (tgt : Int)) (hxy : ¬ y ≤ x) (k : cnW F M d mc ms hc sz V Q pc2 L st ws cells slots) : cnW F M d mc ms hc sz V Q pc L (.int y :: .int x :: st) ws cells slots := by
  obtain ⟨hd, rfl⟩ := hd
  intro p e s m args below meth c H locs ls hX hz hV hP hD hS hl
  exact lv_icmp_ge hX.1.1 hX.1.2.1 hd ht (fun h => absurd h hxy) (fun _ => k p e s m args below meth c H locs ls hX hz hV hP hD hS hl)
theorem cn_obj {idx a : Nat} (hd : ruDec M pc (.invokespecial idx) 3 pc2) (hl9 : Cond.methodLink M.1.cls idx Lib.objectInit ∈ lw_tbl) (hd1 : 1 ≤ d) (hroom : (st.map fun v => v.category).sum ≤ 8) (k : cnW F M d mc ms hc sz V Q pc2 L st ws cells slots) : cnW F M d mc ms hc sz V Q pc L (.ref a :: st) ws cells slots := by
  obtain ⟨hd, rfl⟩ := hd
  intro p e s m args below meth c H locs ls hX hz hV hP hD hS hl
  have ht := hX.1.2.2.2.2
  refine W.objInit hX.1.1 hX.1.2.1 hX.1.2.2.2.1 (ht _ (ru_gd hl9 rfl)) (ht _ (ru_gd (ru_mt 27 (by decide +kernel)) rfl)) (ht _ (ru_gd (ru_mt 28 (by decide +kernel)) rfl)) rfl (by rw [hX.1.2.2.1]; exact hl.1) rfl hd hd1 ?_ ?_
  · show 2 * 0 + _ + 12 ≤ 40 * d
    omega
  · exact k p e s m args below meth c H locs ls hX hz hV hP hD hS hl
theorem cn_ret (hd : ruDec M pc .return_ 1 pc2) (hr : M.2.2.2 = none) (hc9 : cells ≤ mc) (hs9 : slots ≤ ms) (h : Q ws) : cnW F M d mc ms hc sz V Q pc L [] ws cells slots := by
  obtain ⟨hd, rfl⟩ := hd
  intro p e s m args below meth c H locs ls hX hz hV hP hD hS hl
  refine W.widen (k := mc) (n := ms) hc9 hs9 ?_
  exact W.vret hX.1.1 hX.1.2.1 (hX.2.2.1.trans hr) (fun t ht hW => ⟨⟨ws, rfl, h, by rw [ht]; exact hP, hD⟩, hS.F ht⟩) hS.2.2 hd hX.2.1
theorem cn_one {F : cnF} {s : State} {tys : List (ClassId × FieldType)} {cA : ClassId} {ty : FieldType} {k : Nat} (hK : va_K F.2.1 rucl (cnty F) s) (h : va_K F.2.1 rucl (tys ++ [(cA, ty)]) s) (hk : k < 6) (hty : rutyk k = ty) : cA = F.2.2.1 k := by
  have h1 := (h.2 tys.length (cA, ty) (by simp)).2
  have h2 := (hK.2 k (F.2.2.1 k, rutyk k) (by unfold cnty; rw [List.getElem?_map, List.getElem?_range hk]; rfl)).2
  rw [hty] at h2
  cases ty with
  | object C =>
    obtain ⟨_, _, _, _, _, e1⟩ := h1
    obtain ⟨_, _, _, _, _, e2⟩ := h2
    exact Option.some.inj (e1.symm.trans e2)
  | _ => exact Option.some.inj (h1.symm.trans h2)
theorem cn_newa {atype : ArrayType} {n : Int32} {N' kd : Nat} {a0 : vp_A} {ty : FieldType} (hd : ruDec M pc (.newarray atype) 2 pc2) (hty : newarray.typeOf atype = ty) (hk : kd < 6) (hkt : rutyk kd = ty) (hw : Cond.arrayClass (newarray.typeOf atype) ∈ lw_tbl) (ha : ∀ cA : ClassId, vp_cell cA a0 = arrV cA N' (fun _ => defaultValue ty)) (hn : ¬ n < 0) (hN : n.toNatClampNeg = N') (hby : N' * componentBytes ty ≤ 536870912) (hcs : cells + 1 ≤ mc) (hsl : slots + N' ≤ ms) (kk : ∀ q, cnW F M d mc ms hc sz V Q pc2 L (.ref q :: st) (ws ++ [(q, .inl (F.2.2.1 kd, a0))]) (cells + 1) (slots + N')) : cnW F M d mc ms hc sz V Q pc L (.int n :: st) ws cells slots := by
  obtain ⟨hd, rfl⟩ := hd
  intro p e s m args below meth c H locs ls hX hz hV hP hD hS hl
  have ht := hX.1.2.2.2.2
  have hA : ∀ q, s.heap.size ≤ q → va_A [hc] sz q := fun q h => Or.inr (by rw [← hz]; exact h)
  refine va_newa (atype := atype) (tys := cnty F) hX.1.1 hX.1.2.1 (ht _ (ru_gd hw rfl)) hty hX.2.2.2.2.1 hP hD hS hA ha hn hN hby hcs hsl hd (fun q cA H1 hK1 hP1 hD1 hS1 => ?_)
  have e := cn_one hX.2.2.2.2.1 hK1 hk hkt
  subst e
  exact kk q p e s m args below meth c H1 locs ls hX hz hV hP1 hD1 hS1 hl
theorem cn_newq {idx : Nat} {n : Int32} {N' kd : Nat} {C : String} (hd : ruDec M pc (.anewarray idx) 3 pc2) (hcl : Cond.classLink M.1.cls idx C ∈ lw_tbl) (hao : ∀ U, cnRO F U → va_AO C U) (hk : kd < 6) (hkt : rutyk kd = .object C) (hn : ¬ n < 0) (hN : n.toNatClampNeg = N') (hby : N' * 4 ≤ 536870912) (hcs : cells + 1 ≤ mc) (hsl : slots + N' ≤ ms) (kk : ∀ q, cnW F M d mc ms hc sz V Q pc2 L (.ref q :: st) (ws ++ [(q, .inl (F.2.2.1 kd, N', .inr (.inr (.inr (.inr (fun _ => none))))))]) (cells + 1) (slots + N')) : cnW F M d mc ms hc sz V Q pc L (.int n :: st) ws cells slots := by
  obtain ⟨hd, rfl⟩ := hd
  intro p e s m args below meth c H locs ls hX hz hV hP hD hS hl
  have ht := hX.1.2.2.2.2
  have hA : ∀ q, s.heap.size ≤ q → va_A [hc] sz q := fun q h => Or.inr (by rw [← hz]; exact h)
  refine va_newq (C := C) (tys := cnty F) hX.1.1 hX.1.2.1 hX.1.2.2.2.1 (ht _ (ru_gd hcl rfl)) (hao s hX.2.2.2.2) hX.2.2.2.2.1 hP hD hS hA hn hN hby hcs hsl hd (fun q cA H1 hK1 hP1 hD1 hS1 => ?_)
  have e := cn_one hX.2.2.2.2.1 hK1 hk hkt
  subst e
  exact kk q p e s m args below meth c H1 locs ls hX hz hV hP1 hD1 hS1 hl
theorem cn_new {idx ci N : Nat} {C : String} {T : u_T} {ty : Nat → FieldType} {fs : List Value} (hd : ruDec M pc (.new idx) 3 pc2) (hr : rucl[ci]? = some (C, T, N)) (hin : ∀ w ∈ u_ws C T N, w ∈ lw_tbl) (hty : ∀ k, k < N → parseFieldDescriptor (T k).2.2.1 = some (ty k)) (hcl : Cond.classLink M.1.cls idx C ∈ lw_tbl) (hinst : Cond.instantiable C N ∈ lw_tbl) (hini : Cond.initialized C ∈ lw_tbl) (hfs : ∀ j, j < N → defaultValue (ty j) = vp_V fs j) (hcs : cells + 1 ≤ mc) (hsl : slots + N ≤ ms) (kk : ∀ q, cnW F M d mc ms hc sz V Q pc2 L (.ref q :: st) (ws ++ [(q, .inr (ci, fs))]) (cells + 1) (slots + N)) : cnW F M d mc ms hc sz V Q pc L st ws cells slots := by
  obtain ⟨hd, rfl⟩ := hd
  intro p e s m args below meth c H locs ls hX hz hV hP hD hS hl
  have ht := hX.1.2.2.2.2
  have hA : ∀ q, s.heap.size ≤ q → va_A [hc] sz q := fun q h => Or.inr (by rw [← hz]; exact h)
  exact va_new (ci := ci) (fs := fs) (C := C) (T := T) (N := N) (Ts := rugd) (tys := cnty F) hX.1.1 hX.1.2.1 ht (ru_wsgood hin) ty hty hX.1.2.2.2.1 (ht _ (ru_gd hcl rfl)) (ht _ (ru_gd hinst rfl)) (ht _ (ru_gd hini rfl)) hX.2.2.2.2.1 hP hD hS hA hr hfs hcs hsl hd (fun q H1 hP1 hD1 hS1 => kk q p e s m args below meth c H1 locs ls hX hz hV hP1 hD1 hS1 hl)
theorem cn_putF {idx ci j k a N : Nat} {C : String} {T : u_T} {ty0 : Nat → FieldType} {fs : List Value} {v : Value} {ty : FieldType} {ws2 : va_W} (hd : ruDec M pc (.putfield idx) 3 pc2) (hr : rucl[ci]? = some (C, T, N)) (hin : ∀ w ∈ u_ws C T N, w ∈ lw_tbl) (hty : ∀ k, k < N → parseFieldDescriptor (T k).2.2.1 = some (ty0 k)) (hnm : ∀ a, a < N → ∀ b, b < N → a ≠ b → (T a).2.1 ≠ (T b).2.1) (hj : j < N) (hlk : Cond.fieldLink M.1.cls idx (T j).1 (T j).2.1 (T j).2.2.1 ∈ lw_tbl) (hfin : (T j).2.2.2 = true) (hdecl : (T j).1 = M.1.cls) (hpd : parseFieldDescriptor (T j).2.2.1 = some ty) (hn : narrow ty v = v) (hfit : fits ty v = true) (he : ws[k]? = some (a, .inr (ci, fs))) (hl9 : j < fs.length) (hw2 : ws.set k (a, .inr (ci, fs.set j v)) = ws2) (kk : cnW F M d mc ms hc sz V Q pc2 L st ws2 cells slots) : cnW F M d mc ms hc sz V Q pc L (v :: .ref a :: st) ws cells slots := by
  obtain ⟨hd, rfl⟩ := hd
  subst hw2
  intro p e s m args below meth c H locs ls hX hz hV hP hD hS hl
  have ht := hX.1.2.2.2.2
  exact va_putF (ci := ci) (C := C) (T := T) (N := N) (Ts := rugd) (tys := cnty F) hX.1.1 hX.1.2.1 ht (ru_wsgood hin) ty0 hty hnm hX.1.2.2.2.1 hX.2.2.2.2.1 hP hD hS k he hr j hj (ht _ (ru_gd hlk rfl)) (fun _ h => h) hfin hX.2.2.2.1 hdecl hpd hn hfit hl9 hd (fun H1 locs1 hP1 hD1 hS1 => kk p e s m args below meth c H1 locs1 ls hX hz hV hP1 hD1 hS1 hl)
theorem cn_put {idx ci j k a N : Nat} {C : String} {T : u_T} {ty0 : Nat → FieldType} {fs : List Value} {v : Value} {ty : FieldType} {ws2 : va_W} (hd : ruDec M pc (.putfield idx) 3 pc2) (hr : rucl[ci]? = some (C, T, N)) (hin : ∀ w ∈ u_ws C T N, w ∈ lw_tbl) (hty : ∀ k, k < N → parseFieldDescriptor (T k).2.2.1 = some (ty0 k)) (hnm : ∀ a, a < N → ∀ b, b < N → a ≠ b → (T a).2.1 ≠ (T b).2.1) (hj : j < N) (hlk : Cond.fieldLink M.1.cls idx (T j).1 (T j).2.1 (T j).2.2.1 ∈ lw_tbl) (hfin : (T j).2.2.2 = false) (hpd : parseFieldDescriptor (T j).2.2.1 = some ty) (hn : narrow ty v = v) (hfit : fits ty v = true) (he : ws[k]? = some (a, .inr (ci, fs))) (hl9 : j < fs.length) (hw2 : ws.set k (a, .inr (ci, fs.set j v)) = ws2) (kk : cnW F M d mc ms hc sz V Q pc2 L st ws2 cells slots) : cnW F M d mc ms hc sz V Q pc L (v :: .ref a :: st) ws cells slots := by
  obtain ⟨hd, rfl⟩ := hd
  subst hw2
  intro p e s m args below meth c H locs ls hX hz hV hP hD hS hl
  have ht := hX.1.2.2.2.2
  exact va_put (ci := ci) (C := C) (T := T) (N := N) (Ts := rugd) (tys := cnty F) hX.1.1 hX.1.2.1 ht (ru_wsgood hin) ty0 hty hnm hX.1.2.2.2.1 hX.2.2.2.2.1 hP hD hS k he hr j hj (ht _ (ru_gd hlk rfl)) (fun _ h => h) hfin hpd hn hfit hl9 hd (fun H1 locs1 hP1 hD1 hS1 => kk p e s m args below meth c H1 locs1 ls hX hz hV hP1 hD1 hS1 hl)
theorem cn_get {idx ci j k a N : Nat} {C : String} {T : u_T} {fs : List Value} {v : Value} (hd : ruDec M pc (.getfield idx) 3 pc2) (hr : rucl[ci]? = some (C, T, N)) (hin : ∀ w ∈ u_ws C T N, w ∈ lw_tbl) (hj : j < N) (hlk : Cond.fieldLink M.1.cls idx (T j).1 (T j).2.1 (T j).2.2.1 ∈ lw_tbl) (he : ws[k]? = some (a, .inr (ci, fs))) (hv : fs[j]? = some v) (kk : cnW F M d mc ms hc sz V Q pc2 L (v :: st) ws cells slots) : cnW F M d mc ms hc sz V Q pc L (.ref a :: st) ws cells slots := by
  obtain ⟨hd, rfl⟩ := hd
  intro p e s m args below meth c H locs ls hX hz hV hP hD hS hl
  have ht := hX.1.2.2.2.2
  exact va_get (Ts := rugd) (tys := cnty F) hX.1.1 hX.1.2.1 ht (ru_wsgood hin) hX.1.2.2.2.1 hX.2.2.2.2.1 hP k he hr j hj (ht _ (ru_gd hlk rfl)) (fun _ h => h) hv hd (kk p e s m args below meth c H locs ls hX hz hV hP hD hS hl)
theorem cn_ast {q0 qk ci kd n v a : Nat} {r : vw_C} {vs : List Value} {f : Nat → Option Nat} {i : Int32} {ws2 : va_W} (hd : ruDec M pc .aastore 1 pc2) (ha : ws[q0]? = some (a, .inl (F.2.2.1 kd, n, .inr (.inr (.inr (.inr f)))))) (hk : kd < 6) (hkt : rutyk kd = .object r.1) (hv : ws[qk]? = some (v, .inr (ci, vs))) (hr : rucl[ci]? = some r) (hin : vp_in i n) (hw2 : ws.set q0 (a, .inl (F.2.2.1 kd, n, .inr (.inr (.inr (.inr (va_up f i.toNatClampNeg (some v))))))) = ws2) (kk : cnW F M d mc ms hc sz V Q pc2 L st ws2 cells slots) : cnW F M d mc ms hc sz V Q pc L (.ref v :: .int i :: .ref a :: st) ws cells slots := by
  obtain ⟨hd, rfl⟩ := hd
  subst hw2
  intro p e s m args below meth c H locs ls hX hz hV hP hD hS hl
  exact va_astq (tys := cnty F) hX.1.1 hX.1.2.1 hX.2.2.2.2.1 hP hD hS q0 kd qk ci ha (by unfold cnty; rw [List.getElem?_map, List.getElem?_range hk, ← hkt]; rfl) hv hr hin hd (fun H1 locs1 hP1 hD1 hS1 => kk p e s m args below meth c H1 locs1 ls hX hz hV hP1 hD1 hS1 hl)
theorem cn_manew {idx : Nat} (hd : ruDec M pc (.multianewarray idx 2) 4 pc2) (hcl : Cond.classLink M.1.cls idx "[[I" ∈ lw_tbl) (hcs : cells + 7 ≤ mc) (hsl : slots + 606 ≤ ms) (kk : ∀ q0 q1 q2 q3 q4 q5 q6, cnW F M d mc ms hc sz V Q pc2 L (.ref q0 :: st) (ws ++ [(q0, .inl (F.2.2.1 4, 6, .inr (.inr (.inr (.inr (fun j => [q1, q2, q3, q4, q5, q6][j]?)))))), (q1, .inl (F.2.2.1 0, 100, .inl fun _ => 0)), (q2, .inl (F.2.2.1 0, 100, .inl fun _ => 0)), (q3, .inl (F.2.2.1 0, 100, .inl fun _ => 0)), (q4, .inl (F.2.2.1 0, 100, .inl fun _ => 0)), (q5, .inl (F.2.2.1 0, 100, .inl fun _ => 0)), (q6, .inl (F.2.2.1 0, 100, .inl fun _ => 0))]) (cells + 7) (slots + 606)) : cnW F M d mc ms hc sz V Q pc L (.int 100 :: .int 6 :: st) ws cells slots := by
  obtain ⟨hd, rfl⟩ := hd
  intro p e s m args below meth c H locs ls hX hz hV hP hD hS hl
  have ht := hX.1.2.2.2.2
  obtain ⟨m1, ⟨kA, m2, m3⟩, kC, cc0, m4, m5⟩ := hX.2.2.2.2.2.1
  refine va_manew (R := cnRm d mc ms) hX.1.1 hX.1.2.1 hX.1.2.2.2.1 (ht _ (ru_gd hcl rfl)) m1 m2 m3 m4 m5 hcs hsl hd (fun H1 locs1 z1 z2 z3 z4 z5 => ?_)
  have hzH : sz ≤ H.size := by rw [← hz]; exact hS.1
  have hold : ∀ (k : Nat) (q : Nat × va_E), ws[k]? = some q → q.1 < H.size := fun k q hk => (hP k q hk).lt
  refine kk H.size (H.size + 1) (H.size + 2) (H.size + 3) (H.size + 4) (H.size + 5) (H.size + 6) p e s m args below meth c H1 locs1 ls hX hz hV ?_ ?_ ⟨Nat.le_trans hS.1 (by omega), fun q h1 h2 => ?_, fun q hq => ?_⟩ hl
  · intro k q hk
    by_cases hkl : k < ws.length
    · rw [List.getElem?_append_left hkl] at hk
      exact (hP k q hk).kept (z4 q.1 (hold k q hk))
    · rw [List.getElem?_append_right (by omega)] at hk
      generalize k - ws.length = i at hk
      match i, hk with
      | 0, hk =>
        cases hk
        show H1[H.size]? = some (vp_cell _ _)
        rw [z2, vp_cell_q]
        unfold mwO arrV
        congr 2
      | 1, hk => cases hk; exact z3 0 (by decide)
      | 2, hk => cases hk; exact z3 1 (by decide)
      | 3, hk => cases hk; exact z3 2 (by decide)
      | 4, hk => cases hk; exact z3 3 (by decide)
      | 5, hk => cases hk; exact z3 4 (by decide)
      | 6, hk => cases hk; exact z3 5 (by decide)
      | i + 7, hk => simp at hk
  · have key : ∀ (k : Nat) (q : Nat × va_E), (ws ++ [(H.size, (.inl (F.2.2.1 4, 6, .inr (.inr (.inr (.inr (fun j => [H.size + 1, H.size + 2, H.size + 3, H.size + 4, H.size + 5, H.size + 6][j]?))))) : va_E)), (H.size + 1, .inl (F.2.2.1 0, 100, .inl fun _ => 0)), (H.size + 2, .inl (F.2.2.1 0, 100, .inl fun _ => 0)), (H.size + 3, .inl (F.2.2.1 0, 100, .inl fun _ => 0)), (H.size + 4, .inl (F.2.2.1 0, 100, .inl fun _ => 0)), (H.size + 5, .inl (F.2.2.1 0, 100, .inl fun _ => 0)), (H.size + 6, .inl (F.2.2.1 0, 100, .inl fun _ => 0))])[k]? = some q → (k < ws.length ∧ ws[k]? = some q) ∨ (ws.length ≤ k ∧ q.1 = H.size + (k - ws.length)) := by
      intro k q hk
      by_cases hkl : k < ws.length
      · rw [List.getElem?_append_left hkl] at hk
        exact Or.inl ⟨hkl, hk⟩
      · rw [List.getElem?_append_right (by omega)] at hk
        refine Or.inr ⟨by omega, ?_⟩
        generalize k - ws.length = i at hk
        match i, hk with
        | 0, hk => cases hk; rfl
        | 1, hk => cases hk; rfl
        | 2, hk => cases hk; rfl
        | 3, hk => cases hk; rfl
        | 4, hk => cases hk; rfl
        | 5, hk => cases hk; rfl
        | 6, hk => cases hk; rfl
        | i + 7, hk => simp at hk
    refine ⟨fun i j p q hi hj e9 => ?_, fun k q hk => ?_⟩
    · rcases key i p hi with ⟨a1, a2⟩ | ⟨a1, a2⟩
      · rcases key j q hj with ⟨b1, b2⟩ | ⟨b1, b2⟩
        · exact hD.1 i j p q a2 b2 e9
        · have := hold i p a2
          omega
      · rcases key j q hj with ⟨b1, b2⟩ | ⟨b1, b2⟩
        · have := hold j q b2
          omega
        · omega
    · rcases key k q hk with ⟨a1, a2⟩ | ⟨a1, a2⟩
      · exact hD.2 k q a2
      · refine Or.inr ?_
        omega
  · rw [z4 q (Nat.lt_of_lt_of_le h1 hS.1)]
    exact hS.2.1 q h1 h2
  · rcases z5 q hq with h | h
    · exact hS.2.2 q h
    · refine Or.inr ?_
      rw [h]
      exact hzH
/-- a call of a constructor: its one cell is cut out, and what it made is put behind the rest -/
theorem cn_blind {F : cnF} {as : List Value} {hc : Nat × va_E} {sz : Nat} : FrameBlind (va_Pc as (fun U => U.heap.size = sz ∧ va_P F.2.1 rucl [hc] U.heap ∧ cnRO F U ∧ cnV U U.heap)) := fun a U g mk q => by
  obtain ⟨q0, q1, qP, qR, qV⟩ := q
  exact ⟨q0, q1, qP, cnRO.moved (s := U) (U := U.calling g mk a) (State.WarmedH.refl U) qR, trivial⟩
theorem cn_after {p : Program} {e : Env} {s : State} {m : MethodId} {args : Array Value} {below : List Frame} {meth : Method} {c : Code} {H : Heap} {locs : List Loc} {ls : Array Slot} {st0 : List Value} {a : Array Value} {hc2 : Nat × va_E} {mc2 ms2 k : Nat} {isR : List Nat} {wr : va_W} {Q2 : va_W → Prop} {Q0 : State → Prop} {R : Room}
    (hr : va_Run p F.1 e R s m args below meth c H locs cells slots mc2 ms2 (F0 m pc ls st0) st (cnQ F hc2 H.size Q2 a) (va_A [hc2] H.size)) (hz : s.heap.size = sz) (hP : va_P F.2.1 rucl ws H) (hD : va_D (va_A [hc] sz) ws) (hS : va_S (va_A [hc] sz) s.heap H locs) (hk : ws[k]? = some hc2) (hR : isR.map (fun i => ws[i]?) = wr.map some) (hnd : va_nd isR = true) (hdis : ∀ i ∈ isR, i ∉ [k])
    (kk : ∀ (w1 : va_W) (H1 : Heap) (locs1 : List Loc), Q2 w1 → va_P F.2.1 rucl (wr ++ w1) H1 → va_D (va_A [hc] sz) (wr ++ w1) → va_S (va_A [hc] sz) s.heap H1 locs1 → W p F.1 e R s m args below meth c H1 locs1 (cells + mc2) (slots + ms2) Q0 (F0 m (pc + 3) ls st)) : W p F.1 e R s m args below meth c H locs cells slots Q0 (F0 m pc ls st0) := by
  have hA : ∀ q, s.heap.size ≤ q → va_A [hc] sz q := fun q h => Or.inr (by rw [← hz]; exact h)
  have hC : [k].map (fun i => ws[i]?) = [hc2].map some := by
    show [ws[k]?] = [some hc2]
    rw [hk]
  have hFc := va_free (wc := [hc2]) hD hS hA [k] hC
  refine va_callv (S := va_W) (post := Q2) (B := fun w1 t => va_P F.2.1 rucl w1 t.heap ∧ va_D (va_A [hc2] H.size) w1) (A0 := va_A [hc] sz) (A1 := va_A [hc2] H.size) (mc := mc2) (ms := ms2) (a := a) (rest := st) (free := va_A [hc2] H.size) ?_ hS (fun q _ h => hFc q h) hFc (fun w1 t H1 locs1 ht hvm hq hB hz1 hk1 hS1 => ?_)
  · intro T hT X
    obtain ⟨v, st₀, t, T', L9, h0, X', hL, e1, e2, ⟨⟨w9, hv, hq9, hp9, hd9⟩, hz9, hk9⟩, st9⟩ := hr T hT X
    exact ⟨v, st₀, t, T', L9, h0, X', hL, e1, e2, ⟨⟨w9, hv, hq9, hp9, hd9⟩, hz9, hk9⟩, st9⟩
  · obtain ⟨hP1, hD1⟩ := hB
    rw [ht] at hP1
    obtain ⟨hP2, hD2⟩ := va_join (wr := wr) (w1 := w1) hP hD [k] isR hC hR hnd hdis hk1 hFc hP1 hD1
    exact kk w1 H1 locs1 hq hP2 hD2 hS1
theorem cn_callI {M2 : ruMD} {d2 mc2 ms2 idx k b : Nat} {as : List Value} {st0 : List Value} {c2 : va_E} {isR : List Nat} {wr : va_W} {Q2 : va_W → Prop} (hd : ruDec M pc (.invokespecial idx) 3 pc2) (hst : as.reverse ++ .ref b :: st = st0) (hnm : M2.1.name = "<init>") (hret : M2.2.2.2 = none) (hl1 : Cond.methodLink M.1.cls idx M2.1 ∈ lw_tbl) (hl2 : Cond.instanceMethod M2.1 ∈ lw_tbl) (hmk : ruMk M2 as.length) (hdd : d2 + 1 ≤ d) (hroom : (st.map fun v => v.category).sum ≤ 8) (hcs : cells + mc2 ≤ mc) (hsl : slots + ms2 ≤ ms) (hk : ws[k]? = some (b, c2)) (hR : isR.map (fun i => ws[i]?) = wr.map some) (hnd : va_nd isR = true) (hdis : ∀ i ∈ isR, i ∉ [k]) (hcc : ∀ sz2, cnC F M2 d2 mc2 ms2 (.ref b :: as) (b, c2) sz2 cnV Q2) (kk : ∀ w1, Q2 w1 → cnW F M d mc ms hc sz V Q pc2 L st (wr ++ w1) (cells + mc2) (slots + ms2)) : cnW F M d mc ms hc sz V Q pc L st0 ws cells slots := by
  obtain ⟨hd, rfl⟩ := hd
  subst hst
  obtain ⟨y2, b2c, ml2, r2⟩ := M2
  obtain ⟨l3, l4, l5, l6⟩ := hmk
  have hret : r2 = none := hret
  subst hret
  intro p e s m args below meth c H locs ls hX hz hV hP hD hS hl
  have ht := hX.1.2.2.2.2
  refine cn_after (va_runI (As := as) (rest := st) (b := b) (Ts := rugd) (own := M.1.cls) hX.1 (hcc H.size) ⟨callB_of (Ts := rugd) as.length ht (fun w hw => ?_) rfl rfl rfl (ht _ (ru_gd l3 rfl)) (ht _ (ru_gd hl1 rfl)) l5 ⟨hdd, ?_⟩, hnm, ht _ (ru_gd hl2 rfl)⟩ ⟨cn_blind, fun U hU hW => ⟨rfl, by rw [hU], ?_, cnRO.moved hW hX.2.2.2.2, trivial⟩⟩ rfl rfl hl.1 rfl (lv_room hroom) hd ⟨hcs, hsl⟩) hz hP hD hS hk hR hnd hdis (fun w1 H1 locs1 hq hP1 hD1 hS1 => kk w1 hq p e s m args below meth c H1 locs1 ls hX hz hV hP1 hD1 hS1 hl)
  · rcases List.mem_cons.mp hw with rfl | h
    · exact ⟨ru_gd l4 rfl, Or.inl rfl⟩
    · exact ru_good w h
  · have l6 : ml2 ≤ 21 := l6
    show 8 + (ml2 + 11) + 40 * d2 ≤ 40 * d
    omega
  · rw [hU]
    exact hP.sub [k] (by show ([k].filterMap fun i => ws[i]?) = _; rw [List.filterMap_cons, hk]; rfl)
theorem cn_callN {M2 : ruMD} {d2 mc2 ms2 idx k b : Nat} {st0 : List Value} {c2 : va_E} {isR : List Nat} {wr : va_W} {Q2 : va_W → Prop} (hd : ruDec M pc (.invokespecial idx) 3 pc2) (hst : .ref b :: st = st0) (hnm : M2.1.name = "<init>") (hret : M2.2.2.2 = none) (hl1 : Cond.methodLinkNest M.1.cls idx M2.1 "RubbedSheets" ∈ cnNe) (hl2 : Cond.instanceMethod M2.1 ∈ lw_tbl) (hmk : ruMk M2 0) (hdd : d2 + 1 ≤ d) (hroom : (st.map fun v => v.category).sum ≤ 8) (hcs : cells + mc2 ≤ mc) (hsl : slots + ms2 ≤ ms) (hk : ws[k]? = some (b, c2)) (hR : isR.map (fun i => ws[i]?) = wr.map some) (hnd : va_nd isR = true) (hdis : ∀ i ∈ isR, i ∉ [k]) (hcc : ∀ sz2, cnC F M2 d2 mc2 ms2 [.ref b] (b, c2) sz2 cnV Q2) (kk : ∀ w1, Q2 w1 → cnW F M d mc ms hc sz V Q pc2 L st (wr ++ w1) (cells + mc2) (slots + ms2)) : cnW F M d mc ms hc sz V Q pc L st0 ws cells slots := by
  obtain ⟨hd, rfl⟩ := hd
  subst hst
  obtain ⟨y2, b2c, ml2, r2⟩ := M2
  obtain ⟨l3, l4, l5, l6⟩ := hmk
  have hret : r2 = none := hret
  subst hret
  intro p e s m args below meth c H locs ls hX hz hV hP hD hS hl
  have ht := hX.1.2.2.2.2
  refine cn_after (va_runIN (As := []) (rest := st) (b := b) (Ts := rugd) (own := M.1.cls) (host := "RubbedSheets") hX.1 (hcc H.size) ⟨va_cnB (Ts := rugd) 0 ht (fun w hw => ?_) rfl rfl rfl (hX.2.2.2.2.2.2.2.2.1 _ hl1) (ht _ (ru_gd l3 rfl)) l5 ⟨hdd, ?_⟩, hnm, ht _ (ru_gd hl2 rfl)⟩ ⟨cn_blind, fun U hU hW => ⟨rfl, by rw [hU], ?_, cnRO.moved hW hX.2.2.2.2, trivial⟩⟩ rfl rfl hl.1 rfl (lv_room hroom) hd ⟨hcs, hsl⟩) hz hP hD hS hk hR hnd hdis (fun w1 H1 locs1 hq hP1 hD1 hS1 => kk w1 hq p e s m args below meth c H1 locs1 ls hX hz hV hP1 hD1 hS1 hl)
  · rcases List.mem_cons.mp hw with rfl | h
    · exact ⟨ru_gd l4 rfl, Or.inl rfl⟩
    · exact ru_good w h
  · have l6 : ml2 ≤ 21 := l6
    show 8 + (ml2 + 11) + 40 * d2 ≤ 40 * d
    omega
  · rw [hU]
    exact hP.sub [k] (by show ([k].filterMap fun i => ws[i]?) = _; rw [List.filterMap_cons, hk]; rfl)
end CN
