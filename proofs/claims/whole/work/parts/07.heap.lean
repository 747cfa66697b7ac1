/-! HEAP AND CALLS: reads that may be stuck (none) are options; a row an instruction -/
def ruoob (i : Int32) (n : Nat) : Prop := i < 0 ∨ n ≤ i.toNatClampNeg
def ruld (f : Nat → Int32) (n : Nat) (i : Int32) : Option Int32 := if i < 0 ∨ n ≤ i.toNatClampNeg then none else some (f i.toNatClampNeg)
def ruldL (f : Nat → Int64) (n : Nat) (i : Int32) : Option Int64 := if i < 0 ∨ n ≤ i.toNatClampNeg then none else some (f i.toNatClampNeg)
def rust (A : ruA) (k n : Nat) (i v : Int32) : Option ruA := if i < 0 ∨ n ≤ i.toNatClampNeg then none else some (ruset A k i.toNatClampNeg v)
def rustL (A : ruA) (k n : Nat) (i : Int32) (v : Int64) : Option ruA := if i < 0 ∨ n ≤ i.toNatClampNeg then none else some (rusetL A k i.toNatClampNeg v)
def rulr (A : ruA) (k n : Nat) (i : Int32) : Option Nat := if i < 0 ∨ n ≤ i.toNatClampNeg then none else ruref A k i.toNatClampNeg
/-- a cell that is an int array: its length -/
def rudI (k : Nat) : Option Nat := match rush k with
  | some (.inr (0, n)) => some n
  | _ => none
/-- a cell that is an object of a class -/
def rudO (k ci : Nat) : Option Unit := match rush k with
  | some (.inl c) => if c = ci then some () else none
  | _ => none
def rucpy (A : ruA) (k0 n0 : Nat) (sp : Int32) (k1 n1 : Nat) (dp n : Int32) : Option ruA :=
  if sp < 0 ∨ dp < 0 ∨ n < 0 ∨ n0 < sp.toNatClampNeg + n.toNatClampNeg ∨ n1 < dp.toNatClampNeg + n.toNatClampNeg then none else some (rusetA A k1 (va_cpy (A.1 k0) (A.1 k1) sp.toNatClampNeg dp.toNatClampNeg n.toNatClampNeg))
/-- a boolean's value -/
def rubz (v : Int32) : Option Unit := if v = 0 ∨ v = 1 then some () else none
theorem rubz_eq {v : Int32} {u : Unit} (h : rubz v = some u) : v = 0 ∨ v = 1 := by
  unfold rubz at h
  split at h
  · assumption
  · cases h
theorem rudI_eq {k n : Nat} (h : rudI k = some n) : rush k = some (.inr (0, n)) := by
  unfold rudI at h
  split at h
  · cases h
    assumption
  · cases h
theorem rudO_eq {k ci : Nat} {u : Unit} (h : rudO k ci = some u) : rush k = some (.inl ci) := by
  unfold rudO at h
  split at h
  · split at h
    · subst_vars
      assumption
    · cases h
  · cases h
theorem ruB_inv {α β : Type} {o : Option α} {f : α → Option β} {b : β} (h : o.bind f = some b) : ∃ a, o = some a ∧ f a = some b := by
  cases o with
  | none => cases h
  | some a => exact ⟨a, rfl, h⟩
def ruB2 {α1 α2 β : Type} (o : Option (α1 × α2)) (f : α1 → α2 → Option β) : Option β := o.bind fun r => f r.1 r.2
def ruB3 {α1 α2 α3 β : Type} (o : Option (α1 × α2 × α3)) (f : α1 → α2 → α3 → Option β) : Option β := o.bind fun r => f r.1 r.2.1 r.2.2
def ruB4 {α1 α2 α3 α4 β : Type} (o : Option (α1 × α2 × α3 × α4)) (f : α1 → α2 → α3 → α4 → Option β) : Option β := o.bind fun r => f r.1 r.2.1 r.2.2.1 r.2.2.2
def ruB5 {α1 α2 α3 α4 α5 β : Type} (o : Option (α1 × α2 × α3 × α4 × α5)) (f : α1 → α2 → α3 → α4 → α5 → Option β) : Option β := o.bind fun r => f r.1 r.2.1 r.2.2.1 r.2.2.2.1 r.2.2.2.2
theorem ruB2_inv {α1 α2 β : Type} {o : Option (α1 × α2)} {f : α1 → α2 → Option β} {b : β} (h : ruB2 o f = some b) : ∃ a1 a2, o = some (a1, a2) ∧ f a1 a2 = some b := by
  obtain ⟨⟨a1, a2⟩, h1, h2⟩ := ruB_inv h
  exact ⟨a1, a2, h1, h2⟩
theorem ruB3_inv {α1 α2 α3 β : Type} {o : Option (α1 × α2 × α3)} {f : α1 → α2 → α3 → Option β} {b : β} (h : ruB3 o f = some b) : ∃ a1 a2 a3, o = some (a1, a2, a3) ∧ f a1 a2 a3 = some b := by
  obtain ⟨⟨a1, a2, a3⟩, h1, h2⟩ := ruB_inv h
  exact ⟨a1, a2, a3, h1, h2⟩
theorem ruB4_inv {α1 α2 α3 α4 β : Type} {o : Option (α1 × α2 × α3 × α4)} {f : α1 → α2 → α3 → α4 → Option β} {b : β} (h : ruB4 o f = some b) : ∃ a1 a2 a3 a4, o = some (a1, a2, a3, a4) ∧ f a1 a2 a3 a4 = some b := by
  obtain ⟨⟨a1, a2, a3, a4⟩, h1, h2⟩ := ruB_inv h
  exact ⟨a1, a2, a3, a4, h1, h2⟩
theorem ruB5_inv {α1 α2 α3 α4 α5 β : Type} {o : Option (α1 × α2 × α3 × α4 × α5)} {f : α1 → α2 → α3 → α4 → α5 → Option β} {b : β} (h : ruB5 o f = some b) : ∃ a1 a2 a3 a4 a5, o = some (a1, a2, a3, a4, a5) ∧ f a1 a2 a3 a4 a5 = some b := by
  obtain ⟨⟨a1, a2, a3, a4, a5⟩, h1, h2⟩ := ruB_inv h
  exact ⟨a1, a2, a3, a4, a5, h1, h2⟩
/-! the world changes at one cell -/
theorem ruws_setA {E : ruE} {A : ruA} {k : Nat} {q : Nat × Nat} (h : rush k = some (.inr q)) (hq : ∀ B : ruA, ruct E B k q.1 = .inl (B.1 k)) (f : Nat → Int32) : (ruws E A).set k (E.2.2.1 k, .inl (E.2.2.2 q.1, q.2, .inl f)) = ruws E (rusetA A k f) := by
  have e : rucell E (rusetA A k f) k = .inl (E.2.2.2 q.1, q.2, .inl f) := by
    rw [rucell_a h, hq, rusetA_same]
  rw [← e]
  exact ruws_set (rush_lt h) fun j hj => rucell_cong (rusetA_ne A f hj) rfl (fun _ => rfl)
theorem ruws_setL {E : ruE} {A : ruA} {k n : Nat} (h : rush k = some (.inr (2, n))) (j : Nat) (v : Int64) : (ruws E A).set k (E.2.2.1 k, .inl (E.2.2.2 2, n, .inr (.inl (vp_updL (A.2.1 k) j v)))) = ruws E (rusetL A k j v) := by
  have e : rucell E (rusetL A k j v) k = .inl (E.2.2.2 2, n, .inr (.inl (vp_updL (A.2.1 k) j v))) := by
    rw [rucell_a h]
    show Sum.inl (E.2.2.2 2, n, Sum.inr (Sum.inl (if k = k then _ else _))) = _
    rw [if_pos rfl]
  rw [← e]
  exact ruws_set (rush_lt h) fun i hi => rucell_cong rfl (if_neg hi) (fun _ => rfl)
theorem ruws_setF {E : ruE} {A : ruA} {k ci j : Nat} {v : Int32} (h : rush k = some (.inl ci)) (hb : (ruft ci)[j]? = some true) : (ruws E A).set k (E.2.2.1 k, .inr (ci, (rufs E A k (ruft ci) 0).set j (.int v))) = ruws E (ruset A k j v) := by
  have e : rucell E (ruset A k j v) k = .inr (ci, (rufs E A k (ruft ci) 0).set j (.int v)) := by
    rw [rucell_o h]
    congr 2
    symm
    refine rufs_ext (ruft ci) 0 (fun l hl => ?_) (fun _ _ => rfl) (fun b hb2 => ?_)
    · show (rusetA A k _).1 k l = _
      rw [rusetA_same]
      exact if_neg (by omega)
    · rw [hb] at hb2
      cases hb2
      show Value.int v = .int ((rusetA A k _).1 k (0 + j))
      rw [rusetA_same, Nat.zero_add]
      exact congrArg Value.int (if_pos rfl).symm
  rw [← e]
  exact ruws_set (rush_lt h) fun i hi => rucell_cong (rusetA_ne A _ hi) rfl (fun _ => rfl)
theorem ruref_ne {A B : ruA} {k j : Nat} (h : k ≠ 70) : ruref B k j = ruref A k j := by
  unfold ruref
  rw [if_neg h, if_neg h]
theorem ruws_sett {E : ruE} {A : ruA} (t : Nat) : (ruws E A).set 70 (E.2.2.1 70, .inr (4, (rufs E A 70 (ruft 4) 0).set 0 (rurf E t))) = ruws E (rusett A t) := by
  have h : rush 70 = some (.inl 4) := rfl
  have e : rucell E (rusett A t) 70 = .inr (4, (rufs E A 70 (ruft 4) 0).set 0 (rurf E t)) := by
    rw [rucell_o h]
    congr 2
  rw [← e]
  exact ruws_set (rush_lt h) fun i hi => rucell_cong rfl rfl (fun _ => ruref_ne hi)
theorem ruws_setm {E : ruE} {A : ruA} (t : Nat) : (ruws E A).set 70 (E.2.2.1 70, .inr (4, (rufs E A 70 (ruft 4) 0).set 7 (rurf E t))) = ruws E (rusetm A t) := by
  have h : rush 70 = some (.inl 4) := rfl
  have e : rucell E (rusetm A t) 70 = .inr (4, (rufs E A 70 (ruft 4) 0).set 7 (rurf E t)) := by
    rw [rucell_o h]
    congr 2
  rw [← e]
  exact ruws_set (rush_lt h) fun i hi => rucell_cong rfl rfl (fun _ => ruref_ne hi)
theorem rutys_at (E : ruE) {k : Nat} (h : k < 6) : (rutys E)[k]? = some (E.2.2.2 k, rutyk k) := by
  unfold rutys
  rw [List.getElem?_map, List.getElem?_range h]
  rfl
/-! what is read only stays -/
theorem ruRO.moved {E : ruE} {s U : State} {H : Heap} {locs : List Loc} (h : ruRO E s) (hW : s.WarmedH U.vm) (hS : va_S (ruIn E) s.heap H locs) (hU : U.heap = H) : ruRO E U := by
  subst hU
  obtain ⟨h1, h2, h3, h4, h5, h6, h7⟩ := h
  have hq := hS.2.1
  refine ⟨(h1.moved hW.alike).kept hq, (h2.moved hW.alike).kept hq, (h3.moved hW.alike).kept hq, ⟨(h4.1.moved hW.alike).kept hq, (h4.2.moved hW.alike).kept hq⟩, (h5.moved hW.alike).kept hq, (h6.moved hW.alike).kept hq, ?_⟩
  intro w hw
  have h8 := h7 w hw
  simp only [ruNe, List.mem_cons, List.not_mem_nil, or_false] at hw
  rcases hw with rfl | rfl | rfl | rfl | rfl | rfl | rfl | rfl | rfl
  all_goals first | exact va_Nw.warmM hW h8 | exact va_Nw.warmF hW h8
theorem ru_blind {E : ruE} {as : List Value} {A : ruA} : FrameBlind (va_Pc as (fun U => va_P E.2.1 rucl (ruws E A) U.heap ∧ va_K E.2.1 rucl (rutys E) U ∧ ruRO E U ∧ ruinj E)) := fun a U g mk q => by
  obtain ⟨q0, qP, qK, qR, qI⟩ := q
  exact ⟨q0, qP, va_K.moved (u := U) (U := U.calling g mk a) (Vm.Alike.refl U.vm) qK, ruRO.moved (s := U) (U := U.calling g mk a) (locs := []) qR (State.WarmedH.refl U) va_S.rf rfl, qI⟩
theorem ru_pre {E : ruE} {A : ruA} {s : State} {H : Heap} {locs : List Loc} (as : List Value) (hP : va_P E.2.1 rucl (ruws E A) H) (hK : va_K E.2.1 rucl (rutys E) s) (hR : ruRO E s) (hI : ruinj E) (hS : va_S (ruIn E) s.heap H locs) : ∀ U : State, U.heap = H → s.WarmedH U.vm → va_Pc as (fun U => va_P E.2.1 rucl (ruws E A) U.heap ∧ va_K E.2.1 rucl (rutys E) U ∧ ruRO E U ∧ ruinj E) as.toArray U :=
  fun U hU hW => ⟨rfl, by rw [hU]; exact hP, va_K.moved hW.alike hK, hR.moved hW hS hU, hI⟩
theorem ru_after {E : ruE} {p : Program} {e : Env} {R : Room} {s : State} {m : MethodId} {args : Array Value} {below : List Frame} {meth : Method} {c : Code} {H : Heap} {locs : List Loc} {pc : Nat} {ls : Array Slot} {rest st0 : List Value} {a : Array Value} {Q : State → Prop} {Q2 : Option Value → ruA → Prop}
    (hr : va_Run p E.1 e R s m args below meth c H locs 0 0 0 0 (F0 m pc ls st0) rest (ruQ E Q2 a) (ruIn E)) (hS : va_S (ruIn E) s.heap H locs)
    (kk : ∀ (r : Option Value) (A2 : ruA) (H1 : Heap) (locs1 : List Loc), Q2 r A2 → va_P E.2.1 rucl (ruws E A2) H1 → va_S (ruIn E) s.heap H1 locs1 → W p E.1 e R s m args below meth c H1 locs1 0 0 Q (F0 m (pc + 3) ls (r.toList ++ rest))) : W p E.1 e R s m args below meth c H locs 0 0 Q (F0 m pc ls st0) := by
  intro T hT X
  obtain ⟨v, st₀, t, T', L, h0, X', hL, e1, e2, ⟨⟨r, A2, hv, hq, hb⟩, hz, hk⟩, st⟩ := hr T hT X
  cases hv
  rw [h0] at hz hk
  obtain ⟨t2, a1, b1⟩ := kk v A2 T'.heap (locs ++ L) hq (by rw [e1]; exact hb)
    ⟨Nat.le_trans hS.1 (by rw [e1]; exact hz), fun q h1 h2 => by rw [e1, hk q (Nat.lt_of_lt_of_le h1 hS.1) h2]; exact hS.2.1 q h1 h2, fun q hq => by
      rcases List.mem_append.mp hq with h | h
      · exact hS.2.2 q h
      · exact hL q h⟩ T' rfl X'
  exact ⟨t2, st t2 a1, b1⟩
/-- what a method that is called must be -/
def ruMk (M : ruMD) (n : Nat) : Prop := Cond.initialized M.1.cls ∈ lw_tbl ∧ Cond.code M.1 M.2.1 M.2.2.1 M.2.2.2 ∈ lw_tbl ∧ (M.1.cls ≠ "java/lang/invoke/MethodHandle" ∧ M.1.cls ≠ "java/lang/invoke/VarHandle" ∧ (parseMethodDescriptor M.1.desc).map (fun d => d.parameters.length) = some n) ∧ M.2.2.1 ≤ 21
def ruCS (own : String) (idx : Nat) (M : ruMD) (n : Nat) : Prop := Cond.methodLink own idx M.1 ∈ lw_tbl ∧ Cond.static M.1 ∈ lw_tbl ∧ ruMk M n
def ruCN (own : String) (idx : Nat) (M : ruMD) (n : Nat) : Prop := Cond.methodLinkNest own idx M.1 "RubbedSheets" ∈ ruNe ∧ Cond.static M.1 ∈ lw_tbl ∧ ruMk M n
def ruCV (own : String) (idx : Nat) (M : ruMD) (n ci : Nat) : Prop := Cond.methodLink own idx M.1 ∈ lw_tbl ∧ Cond.instanceMethod M.1 ∈ lw_tbl ∧ Cond.selects M.1.cls M.1 M.1 ∈ lw_tbl ∧ ruMk M n ∧ ∃ T N, rucl[ci]? = some (M.1.cls, T, N)
/-- a field of a class, as an instruction names it -/
def ruFd (own : String) (idx ci j : Nat) (b : Bool) : Prop := ∃ C T N, rucl[ci]? = some (C, T, N) ∧ j < N ∧ (∀ w ∈ u_ws C T N, w ∈ lw_tbl) ∧ Cond.fieldLink own idx (T j).1 (T j).2.1 (T j).2.2.1 ∈ lw_tbl ∧ (ruft ci)[j]? = some b ∧ (ruft ci).length = N
def ruFp (ci j : Nat) (ty : FieldType) : Prop := ∀ C T N, rucl[ci]? = some (C, T, N) → ∃ ty0 : Nat → FieldType, (∀ k, k < N → parseFieldDescriptor (T k).2.2.1 = some (ty0 k)) ∧ (∀ a, a < N → ∀ b, b < N → a ≠ b → (T a).2.1 ≠ (T b).2.1) ∧ (T j).2.2.2 = false ∧ parseFieldDescriptor (T j).2.2.1 = some ty
theorem ru_wsgood {C : String} {T : u_T} {N : Nat} (h : ∀ w ∈ u_ws C T N, w ∈ lw_tbl) : ∀ w ∈ u_ws C T N, w ∈ rugd := by
  intro w hw
  refine ru_gd (h w hw) ?_
  obtain ⟨j, hj, rfl⟩ := List.mem_map.mp hw
  unfold u_lay
  split <;> rfl
section RUH
variable {E : ruE} {M : ruMD} {d : Nat} {Q : Option Value → ruA → Prop} {pc pc2 : Nat} {L : List (Option Value)} {st : List Value} {A : ruA}
theorem ru_weak {L2 : List (Option Value)} (hL : ∀ (k : Nat) (v : Value), L2[k]? = some (some v) → L[k]? = some (some v)) (k : ruW E M d Q pc L2 st A) : ruW E M d Q pc L st A := by
  intro p e s m args below meth c H locs ls hX hP hS hl
  refine k p e s m args below meth c H locs ls hX hP hS ⟨hl.1, hl.2.1, fun q hq => hl.2.2 q ?_⟩
  obtain ⟨j, h1, h2⟩ := (ruas_mem L2 0 q).mp hq
  exact (ruas_mem L 0 q).mpr ⟨j, hL j _ h1, h2⟩
/-- returns -/
theorem ru_iret {v : Int32} (hd : ruDec M pc .ireturn 1 pc2) (hr : M.2.2.2 = some .int) (h : Q (some (.int v)) A) : ruW E M d Q pc L [.int v] A := by
  obtain ⟨hd, rfl⟩ := hd
  intro p e s m args below meth c H locs ls hX hP hS hl
  exact W.iret hX.1.1 hX.1.2.1 (hX.2.2.1.trans hr) (fun t ht _ => ⟨⟨_, A, rfl, h, by rw [ht]; exact hP⟩, hS.F ht⟩) hS.2.2 hd hX.2.1
theorem ru_zret {v : Int32} (hd : ruDec M pc .ireturn 1 pc2) (hr : M.2.2.2 = some .boolean) (hz : v &&& 1 = v) (h : Q (some (.int v)) A) : ruW E M d Q pc L [.int v] A := by
  obtain ⟨hd, rfl⟩ := hd
  intro p e s m args below meth c H locs ls hX hP hS hl
  exact W.zret hX.1.1 hX.1.2.1 (hX.2.2.1.trans hr) (congrArg Value.int hz) (fun t ht _ => ⟨⟨_, A, rfl, h, by rw [ht]; exact hP⟩, hS.F ht⟩) hS.2.2 hd hX.2.1
theorem ru_xret {v : Int32} {ty : FieldType} (hd : ruDec M pc .ireturn 1 pc2) (hr : M.2.2.2 = some ty) (hz : narrow ty (.int v) = .int v) (h : Q (some (.int v)) A) : ruW E M d Q pc L [.int v] A := by
  obtain ⟨hd, rfl⟩ := hd
  intro p e s m args below meth c H locs ls hX hP hS hl
  exact W.zret hX.1.1 hX.1.2.1 (hX.2.2.1.trans hr) hz (fun t ht _ => ⟨⟨_, A, rfl, h, by rw [ht]; exact hP⟩, hS.F ht⟩) hS.2.2 hd hX.2.1
theorem ru_vret (hd : ruDec M pc .return_ 1 pc2) (hr : M.2.2.2 = none) (h : Q none A) : ruW E M d Q pc L [] A := by
  obtain ⟨hd, rfl⟩ := hd
  intro p e s m args below meth c H locs ls hX hP hS hl
  exact W.vret hX.1.1 hX.1.2.1 (hX.2.2.1.trans hr) (fun t ht _ => ⟨⟨_, A, rfl, h, by rw [ht]; exact hP⟩, hS.F ht⟩) hS.2.2 hd hX.2.1
/-- fields -/
theorem ru_getI {idx k ci j : Nat} (hd : ruDec M pc (.getfield idx) 3 pc2) (hf : ruFd M.1.cls idx ci j true) (ho : rush k = some (.inl ci)) (kk : ruW E M d Q pc2 L (.int (A.1 k j) :: st) A) : ruW E M d Q pc L (rurf E k :: st) A := by
  obtain ⟨hd, rfl⟩ := hd
  obtain ⟨C, T, N, h1, h2, h3, h4, h5, h6⟩ := hf
  intro p e s m args below meth c H locs ls hX hP hS hl
  have hv := rufs_get E A k (ruft ci) 0 j h5
  rw [Nat.zero_add] at hv
  exact va_get (Ts := rugd) hX.1.1 hX.1.2.1 hX.1.2.2.2.2 (ru_wsgood h3) hX.1.2.2.2.1 hX.2.2.2.1 hP k (ruws_o ho) h1 j h2 (hX.1.2.2.2.2 _ (ru_gd h4 rfl)) (fun _ h => h) hv hd (kk p e s m args below meth c H locs ls hX hP hS hl)
theorem ru_getR {idx k ci j r : Nat} (hd : ruDec M pc (.getfield idx) 3 pc2) (hf : ruFd M.1.cls idx ci j false) (ho : rush k = some (.inl ci)) (hr : ruref A k j = some r) (kk : ruW E M d Q pc2 L (rurf E r :: st) A) : ruW E M d Q pc L (rurf E k :: st) A := by
  obtain ⟨hd, rfl⟩ := hd
  obtain ⟨C, T, N, h1, h2, h3, h4, h5, h6⟩ := hf
  intro p e s m args below meth c H locs ls hX hP hS hl
  have hv := rufs_get E A k (ruft ci) 0 j h5
  rw [Nat.zero_add] at hv
  dsimp only at hv
  rw [hr] at hv
  exact va_get (Ts := rugd) (v := rurf E r) hX.1.1 hX.1.2.1 hX.1.2.2.2.2 (ru_wsgood h3) hX.1.2.2.2.1 hX.2.2.2.1 hP k (ruws_o ho) h1 j h2 (hX.1.2.2.2.2 _ (ru_gd h4 rfl)) (fun _ h => h) hv hd (kk p e s m args below meth c H locs ls hX hP hS hl)
theorem ru_putI {idx k ci j : Nat} {v : Int32} {ty : FieldType} (hd : ruDec M pc (.putfield idx) 3 pc2) (hf : ruFd M.1.cls idx ci j true) (hp : ruFp ci j ty) (ho : rush k = some (.inl ci)) (hn : narrow ty (.int v) = .int v) (hfit : fits ty (.int v) = true) (kk : ruW E M d Q pc2 L st (ruset A k j v)) : ruW E M d Q pc L (.int v :: rurf E k :: st) A := by
  obtain ⟨hd, rfl⟩ := hd
  obtain ⟨C, T, N, h1, h2, h3, h4, h5, h6⟩ := hf
  obtain ⟨ty0, g1, g2, g3, g4⟩ := hp C T N h1
  intro p e s m args below meth c H locs ls hX hP hS hl
  refine va_put (Ts := rugd) hX.1.1 hX.1.2.1 hX.1.2.2.2.2 (ru_wsgood h3) ty0 g1 g2 hX.1.2.2.2.1 hX.2.2.2.1 hP (ruws_D A hX.2.2.2.2.2) hS k (ruws_o ho) h1 j h2 (hX.1.2.2.2.2 _ (ru_gd h4 rfl)) (fun _ h => h) g3 g4 hn hfit (by rw [rufs_len, h6]; exact h2) hd ?_
  intro H1 locs1 hP1 _ hS1
  rw [ruws_setF ho h5] at hP1
  exact kk p e s m args below meth c H1 locs1 ls hX hP1 hS1 hl
theorem ru_putT {idx r : Nat} (hd : ruDec M pc (.putfield idx) 3 pc2) (hf : ruFd M.1.cls idx 4 0 false) (hp : ruFp 4 0 (.array .int)) (kk : ruW E M d Q pc2 L st (rusett A r)) : ruW E M d Q pc L (rurf E r :: rurf E 70 :: st) A := by
  obtain ⟨hd, rfl⟩ := hd
  obtain ⟨C, T, N, h1, h2, h3, h4, h5, h6⟩ := hf
  obtain ⟨ty0, g1, g2, g3, g4⟩ := hp C T N h1
  intro p e s m args below meth c H locs ls hX hP hS hl
  refine va_put (Ts := rugd) hX.1.1 hX.1.2.1 hX.1.2.2.2.2 (ru_wsgood h3) ty0 g1 g2 hX.1.2.2.2.1 hX.2.2.2.1 hP (ruws_D A hX.2.2.2.2.2) hS 70 (ruws_o rfl) h1 0 h2 (hX.1.2.2.2.2 _ (ru_gd h4 rfl)) (fun _ h => h) g3 g4 rfl rfl (by rw [rufs_len, h6]; exact h2) hd ?_
  intro H1 locs1 hP1 _ hS1
  rw [ruws_sett r] at hP1
  exact kk p e s m args below meth c H1 locs1 ls hX hP1 hS1 hl
theorem ru_putM {idx r : Nat} (hd : ruDec M pc (.putfield idx) 3 pc2) (hf : ruFd M.1.cls idx 4 7 false) (hp : ruFp 4 7 (.array .int)) (kk : ruW E M d Q pc2 L st (rusetm A r)) : ruW E M d Q pc L (rurf E r :: rurf E 70 :: st) A := by
  obtain ⟨hd, rfl⟩ := hd
  obtain ⟨C, T, N, h1, h2, h3, h4, h5, h6⟩ := hf
  obtain ⟨ty0, g1, g2, g3, g4⟩ := hp C T N h1
  intro p e s m args below meth c H locs ls hX hP hS hl
  refine va_put (Ts := rugd) hX.1.1 hX.1.2.1 hX.1.2.2.2.2 (ru_wsgood h3) ty0 g1 g2 hX.1.2.2.2.1 hX.2.2.2.1 hP (ruws_D A hX.2.2.2.2.2) hS 70 (ruws_o rfl) h1 7 h2 (hX.1.2.2.2.2 _ (ru_gd h4 rfl)) (fun _ h => h) g3 g4 rfl rfl (by rw [rufs_len, h6]; exact h2) hd ?_
  intro H1 locs1 hP1 _ hS1
  rw [ruws_setm r] at hP1
  exact kk p e s m args below meth c H1 locs1 ls hX hP1 hS1 hl
/-- arrays -/
theorem ruld_eq {f : Nat → Int32} {n : Nat} {i v : Int32} (h : ruld f n i = some v) : vp_in i n ∧ f i.toNatClampNeg = v := by
  unfold ruld at h
  split at h
  · cases h
  · cases h
    exact ⟨by assumption, rfl⟩
theorem ru_iald {k n : Nat} {i v : Int32} (hd : ruDec M pc .iaload 1 pc2) (ho : rush k = some (.inr (0, n))) (hv : ruld (A.1 k) n i = some v) (kk : ruW E M d Q pc2 L (.int v :: st) A) : ruW E M d Q pc L (.int i :: rurf E k :: st) A := by
  obtain ⟨hd, rfl⟩ := hd
  obtain ⟨h1, rfl⟩ := ruld_eq hv
  intro p e s m args below meth c H locs ls hX hP hS hl
  exact va_iald hX.1.1 hX.1.2.1 hX.2.2.2.1 hP k 0 (ruws_a ho) (rutys_at E (by decide)) h1 hd (kk p e s m args below meth c H locs ls hX hP hS hl)
theorem ru_zald {k n : Nat} {i v : Int32} (hd : ruDec M pc .baload 1 pc2) (ho : rush k = some (.inr (1, n))) (hv : ruld (A.1 k) n i = some v) (kk : ruW E M d Q pc2 L (.int v :: st) A) : ruW E M d Q pc L (.int i :: rurf E k :: st) A := by
  obtain ⟨hd, rfl⟩ := hd
  obtain ⟨h1, rfl⟩ := ruld_eq hv
  intro p e s m args below meth c H locs ls hX hP hS hl
  exact va_zald hX.1.1 hX.1.2.1 hX.2.2.2.1 hP k 1 (ruws_a ho) (rutys_at E (by decide)) h1 hd (kk p e s m args below meth c H locs ls hX hP hS hl)
theorem ru_lald {k n : Nat} {i : Int32} {v : Int64} (hd : ruDec M pc .laload 1 pc2) (ho : rush k = some (.inr (2, n))) (hv : ruldL (A.2.1 k) n i = some v) (kk : ruW E M d Q pc2 L (.long v :: st) A) : ruW E M d Q pc L (.int i :: rurf E k :: st) A := by
  obtain ⟨hd, rfl⟩ := hd
  unfold ruldL at hv
  split at hv
  · cases hv
  · rename_i h1
    cases hv
    intro p e s m args below meth c H locs ls hX hP hS hl
    exact va_lald hX.1.1 hX.1.2.1 hX.2.2.2.1 hP k 2 (ruws_a ho) (rutys_at E (by decide)) h1 hd (kk p e s m args below meth c H locs ls hX hP hS hl)
theorem ru_iast {k n : Nat} {i v : Int32} {A2 : ruA} (hd : ruDec M pc .iastore 1 pc2) (ho : rush k = some (.inr (0, n))) (hv : rust A k n i v = some A2) (kk : ruW E M d Q pc2 L st A2) : ruW E M d Q pc L (.int v :: .int i :: rurf E k :: st) A := by
  obtain ⟨hd, rfl⟩ := hd
  unfold rust at hv
  split at hv
  · cases hv
  · rename_i h1
    cases hv
    intro p e s m args below meth c H locs ls hX hP hS hl
    refine va_iast hX.1.1 hX.1.2.1 hX.2.2.2.1 hP (ruws_D A hX.2.2.2.2.2) hS k 0 (ruws_a ho) (rutys_at E (by decide)) h1 hd ?_
    intro H1 locs1 hP1 _ hS1
    rw [ruws_setA ho (fun _ => rfl)] at hP1
    exact kk p e s m args below meth c H1 locs1 ls hX hP1 hS1 hl
theorem ru_zast {k n : Nat} {i v : Int32} {A2 : ruA} (hd : ruDec M pc .bastore 1 pc2) (ho : rush k = some (.inr (1, n))) (hv : rust A k n i (v &&& 1) = some A2) (kk : ruW E M d Q pc2 L st A2) : ruW E M d Q pc L (.int v :: .int i :: rurf E k :: st) A := by
  obtain ⟨hd, rfl⟩ := hd
  unfold rust at hv
  split at hv
  · cases hv
  · rename_i h1
    cases hv
    intro p e s m args below meth c H locs ls hX hP hS hl
    refine va_zast hX.1.1 hX.1.2.1 hX.2.2.2.1 hP (ruws_D A hX.2.2.2.2.2) hS k 1 (ruws_a ho) (rutys_at E (by decide)) h1 hd ?_
    intro H1 locs1 hP1 _ hS1
    rw [ruws_setA ho (fun _ => rfl)] at hP1
    exact kk p e s m args below meth c H1 locs1 ls hX hP1 hS1 hl
theorem ru_last {k n : Nat} {i : Int32} {v : Int64} {A2 : ruA} (hd : ruDec M pc .lastore 1 pc2) (ho : rush k = some (.inr (2, n))) (hv : rustL A k n i v = some A2) (kk : ruW E M d Q pc2 L st A2) : ruW E M d Q pc L (.long v :: .int i :: rurf E k :: st) A := by
  obtain ⟨hd, rfl⟩ := hd
  unfold rustL at hv
  split at hv
  · cases hv
  · rename_i h1
    cases hv
    intro p e s m args below meth c H locs ls hX hP hS hl
    refine va_last hX.1.1 hX.1.2.1 hX.2.2.2.1 hP (ruws_D A hX.2.2.2.2.2) hS k 2 (ruws_a ho) (rutys_at E (by decide)) h1 hd ?_
    intro H1 locs1 hP1 _ hS1
    rw [ruws_setL ho] at hP1
    exact kk p e s m args below meth c H1 locs1 ls hX hP1 hS1 hl
theorem ru_alen {k kd n : Nat} {v : Int32} (hd : ruDec M pc .arraylength 1 pc2) (ho : rush k = some (.inr (kd, n))) (hk : kd < 6) (hv : Int32.ofNat n = v) (kk : ruW E M d Q pc2 L (.int v :: st) A) : ruW E M d Q pc L (rurf E k :: st) A := by
  obtain ⟨hd, rfl⟩ := hd
  intro p e s m args below meth c H locs ls hX hP hS hl
  exact va_alen hX.1.1 hX.1.2.1 hX.2.2.2.1 hP k kd (ruws_a ho) (rutys_at E hk) hv hd (kk p e s m args below meth c H locs ls hX hP hS hl)
theorem rulr_eq {k n r : Nat} {i : Int32} (h : rulr A k n i = some r) : vp_in i n ∧ ruref A k i.toNatClampNeg = some r := by
  unfold rulr at h
  split at h
  · cases h
  · exact ⟨by assumption, h⟩
theorem ru_aald3 {k n r : Nat} {i : Int32} (hd : ruDec M pc .aaload 1 pc2) (ho : rush k = some (.inr (3, n))) (hv : rulr A k n i = some r) (kk : ruW E M d Q pc2 L (rurf E r :: st) A) : ruW E M d Q pc L (.int i :: rurf E k :: st) A := by
  obtain ⟨hd, rfl⟩ := hd
  obtain ⟨h1, h2⟩ := rulr_eq hv
  intro p e s m args below meth c H locs ls hX hP hS hl
  refine va_aldq hX.1.1 hX.1.2.1 hX.2.2.2.1 hP k 3 (ruws_a ho) (rutys_at E (by decide)) h1 hd ?_
  rw [h2]
  exact kk p e s m args below meth c H locs ls hX hP hS hl
theorem ru_aald5 {k n r : Nat} {i : Int32} (hd : ruDec M pc .aaload 1 pc2) (ho : rush k = some (.inr (5, n))) (hv : rulr A k n i = some r) (kk : ruW E M d Q pc2 L (rurf E r :: st) A) : ruW E M d Q pc L (.int i :: rurf E k :: st) A := by
  obtain ⟨hd, rfl⟩ := hd
  obtain ⟨h1, h2⟩ := rulr_eq hv
  intro p e s m args below meth c H locs ls hX hP hS hl
  refine va_aldq hX.1.1 hX.1.2.1 hX.2.2.2.1 hP k 5 (ruws_a ho) (rutys_at E (by decide)) h1 hd ?_
  rw [h2]
  exact kk p e s m args below meth c H locs ls hX hP hS hl
theorem ru_aald4 {k n r : Nat} {i : Int32} (hd : ruDec M pc .aaload 1 pc2) (ho : rush k = some (.inr (4, n))) (hv : rulr A k n i = some r) (kk : ruW E M d Q pc2 L (rurf E r :: st) A) : ruW E M d Q pc L (.int i :: rurf E k :: st) A := by
  obtain ⟨hd, rfl⟩ := hd
  obtain ⟨hin, h2⟩ := rulr_eq hv
  intro p e s m args below meth c H locs ls hX hP hS hl
  have hlt : i.toNatClampNeg < n := Nat.not_le.mp fun q => hin (Or.inr q)
  have ha : (ruws E A)[k]? = some (E.2.2.1 k, .inl (E.2.2.2 4, n, .inr (.inr (.inr (.inr (fun i => (ruref A k i).map E.2.2.1)))))) := ruws_a ho
  have ht := rutys_at E (show 4 < 6 by decide)
  refine W.aald (v := va_rf ((ruref A k i.toNatClampNeg).map E.2.2.1)) (ty := .array .int) hX.1.1 hX.1.2.1 (hP k _ ha) ((hX.2.2.2.1.2 4 _ ht).1 n (fun j => va_rf ((ruref A k j).map E.2.2.1))) rfl (fun q => by cases q) (by show ¬ (i < 0 ∨ (arrV _ _ _).slots.size ≤ _); rw [arrV_size]; exact hin) (by show (arrV _ _ _).slots[_]? = _; rw [arrV_read _ _ hlt]) rfl rfl hd ?_
  rw [h2]
  exact kk p e s m args below meth c H locs ls hX hP hS hl
/-- the table of kinds -/
theorem ru_under {idx : Nat} (hd : ruDec M pc (.getstatic idx) 3 pc2) (hf : Cond.fieldLink M.1.cls idx "RubbedSheets" "UNDER" "[I" ∈ lw_tbl) (kk : ruW E M d Q pc2 L (rurf E 104 :: st) A) : ruW E M d Q pc L st A := by
  obtain ⟨hd, rfl⟩ := hd
  intro p e s m args below meth c H locs ls hX hP hS hl
  exact va_gets hX.1.1 hX.1.2.1 hX.2.2.2.2.1.1 hS hX.1.2.2.2.1 (hX.1.2.2.2.2 _ (ru_gd hf rfl)) (fun _ h => h) hd (kk p e s m args below meth c H locs ls hX hP hS hl)
theorem ru_underN {idx : Nat} (hd : ruDec M pc (.getstatic idx) 3 pc2) (hf : Cond.fieldLinkNest M.1.cls idx "RubbedSheets" "UNDER" "[I" "RubbedSheets" ∈ ruNe) (kk : ruW E M d Q pc2 L (rurf E 104 :: st) A) : ruW E M d Q pc L st A := by
  obtain ⟨hd, rfl⟩ := hd
  intro p e s m args below meth c H locs ls hX hP hS hl
  exact va_getsN hX.1.1 hX.1.2.1 hX.2.2.2.2.1.1 hS hX.1.2.2.2.1 (va_Nw.use rfl (hX.2.2.2.2.1.2.2.2.2.2.2 _ hf)) (fun _ h => h) hd (kk p e s m args below meth c H locs ls hX hP hS hl)
theorem ru_uald {i v : Int32} (hd : ruDec M pc .iaload 1 pc2) (hv : ruld (fun j => ruunder.getD j 0) 8 i = some v) (kk : ruW E M d Q pc2 L (.int v :: st) A) : ruW E M d Q pc L (.int i :: rurf E 104 :: st) A := by
  obtain ⟨hd, rfl⟩ := hd
  obtain ⟨h1, h2⟩ := ruld_eq hv
  intro p e s m args below meth c H locs ls hX hP hS hl
  exact va_ti hX.1.1 hX.1.2.1 hX.2.2.2.2.1.2.1 hS h1 (congrArg Value.int h2) hd (kk p e s m args below meth c H locs ls hX hP hS hl)
/-- the table of names -/
theorem ru_names {idx : Nat} (hd : ruDec M pc (.getstatic idx) 3 pc2) (hf : Cond.fieldLink M.1.cls idx "RubbedSheets$Reader" "NAMES" "[I" ∈ lw_tbl) (kk : ruW E M d Q pc2 L (rurf E 103 :: st) A) : ruW E M d Q pc L st A := by
  obtain ⟨hd, rfl⟩ := hd
  intro p e s m args below meth c H locs ls hX hP hS hl
  exact va_gets hX.1.1 hX.1.2.1 hX.2.2.2.2.1.2.2.2.1.1 hS hX.1.2.2.2.1 (hX.1.2.2.2.2 _ (ru_gd hf rfl)) (fun _ h => h) hd (kk p e s m args below meth c H locs ls hX hP hS hl)
theorem ru_nald {i v : Int32} (hd : ruDec M pc .iaload 1 pc2) (hv : ruld (fun j => runames.getD j 0) 6 i = some v) (kk : ruW E M d Q pc2 L (.int v :: st) A) : ruW E M d Q pc L (.int i :: rurf E 103 :: st) A := by
  obtain ⟨hd, rfl⟩ := hd
  obtain ⟨h1, h2⟩ := ruld_eq hv
  intro p e s m args below meth c H locs ls hX hP hS hl
  exact va_ti hX.1.1 hX.1.2.1 hX.2.2.2.2.1.2.2.2.1.2 hS h1 (congrArg Value.int h2) hd (kk p e s m args below meth c H locs ls hX hP hS hl)
/-- calls -/
theorem ru_callS {M2 : ruMD} {d2 idx : Nat} {as st0 : List Value} {Q2 : Option Value → ruA → Prop} (hd : ruDec M pc (.invokestatic idx) 3 pc2) (hst : as.reverse ++ st = st0) (hl : ruCS M.1.cls idx M2 as.length) (hdd : d2 + 1 ≤ d) (hroom : (st.map fun v => v.category).sum ≤ 8) (hc : ruC E M2 d2 as A Q2) (kk : ∀ r A2, Q2 r A2 → ruW E M d Q pc2 L (r.toList ++ st) A2) : ruW E M d Q pc L st0 A := by
  obtain ⟨hd, rfl⟩ := hd
  obtain ⟨l1, l2, l3, l4, l5, l6⟩ := hl
  subst hst
  intro p e s m args below meth c H locs ls hX hP hS hl
  have ht := hX.1.2.2.2.2
  refine ru_after (va_runS (As := as) (rest := st) hX.1 hc ⟨callB_of (Ts := rugd) as.length ht (fun w hw => ?_) rfl rfl rfl (ht _ (ru_gd l3 rfl)) (ht _ (ru_gd l1 rfl)) l5 ⟨hdd, ?_⟩, ht _ (ru_gd l2 rfl)⟩ ⟨ru_blind, ru_pre as hP hX.2.2.2.1 hX.2.2.2.2.1 hX.2.2.2.2.2 hS⟩ rfl rfl hl.1 rfl (lv_room hroom) hd ⟨Nat.le_refl _, Nat.le_refl _⟩) hS ?_
  · rcases List.mem_cons.mp hw with rfl | h
    · exact ⟨ru_gd l4 rfl, Or.inl rfl⟩
    · exact ru_good w h
  · show 8 + (M2.2.2.1 + 11) + 40 * d2 ≤ 40 * d
    omega
  · intro r A2 H1 locs1 hq hP1 hS1
    exact kk r A2 hq p e s m args below meth c H1 locs1 ls hX hP1 hS1 hl
theorem ru_callN {M2 : ruMD} {d2 idx : Nat} {as st0 : List Value} {Q2 : Option Value → ruA → Prop} (hd : ruDec M pc (.invokestatic idx) 3 pc2) (hst : as.reverse ++ st = st0) (hl : ruCN M.1.cls idx M2 as.length) (hdd : d2 + 1 ≤ d) (hroom : (st.map fun v => v.category).sum ≤ 8) (hc : ruC E M2 d2 as A Q2) (kk : ∀ r A2, Q2 r A2 → ruW E M d Q pc2 L (r.toList ++ st) A2) : ruW E M d Q pc L st0 A := by
  obtain ⟨hd, rfl⟩ := hd
  obtain ⟨l1, l2, l3, l4, l5, l6⟩ := hl
  subst hst
  intro p e s m args below meth c H locs ls hX hP hS hl
  have ht := hX.1.2.2.2.2
  refine ru_after (va_runSN (As := as) (rest := st) (host := "RubbedSheets") hX.1 hc ⟨va_cnB (Ts := rugd) as.length ht (fun w hw => ?_) rfl rfl rfl (hX.2.2.2.2.1.2.2.2.2.2.2 _ l1) (ht _ (ru_gd l3 rfl)) l5 ⟨hdd, ?_⟩, ht _ (ru_gd l2 rfl), trivial⟩ ⟨ru_blind, ru_pre as hP hX.2.2.2.1 hX.2.2.2.2.1 hX.2.2.2.2.2 hS⟩ rfl rfl hl.1 rfl (lv_room hroom) hd ⟨Nat.le_refl _, Nat.le_refl _⟩) hS ?_
  · rcases List.mem_cons.mp hw with rfl | h
    · exact ⟨ru_gd l4 rfl, Or.inl rfl⟩
    · exact ru_good w h
  · show 8 + (M2.2.2.1 + 11) + 40 * d2 ≤ 40 * d
    omega
  · intro r A2 H1 locs1 hq hP1 hS1
    exact kk r A2 hq p e s m args below meth c H1 locs1 ls hX hP1 hS1 hl
theorem ru_callV {M2 : ruMD} {d2 idx k ci : Nat} {as st0 : List Value} {Q2 : Option Value → ruA → Prop} (hd : ruDec M pc (.invokevirtual idx) 3 pc2) (hst : as.reverse ++ rurf E k :: st = st0) (hl : ruCV M.1.cls idx M2 as.length ci) (ho : rush k = some (.inl ci)) (hdd : d2 + 1 ≤ d) (hroom : (st.map fun v => v.category).sum ≤ 8) (hc : ruC E M2 d2 (rurf E k :: as) A Q2) (kk : ∀ r A2, Q2 r A2 → ruW E M d Q pc2 L (r.toList ++ st) A2) : ruW E M d Q pc L st0 A := by
  obtain ⟨hd, rfl⟩ := hd
  obtain ⟨l1, l2, l2b, ⟨l3, l4, l5, l6⟩, T, N, l7⟩ := hl
  subst hst
  intro p e s m args below meth c H locs ls hX hP hS hl
  have ht := hX.1.2.2.2.2
  refine ru_after (va_runV (As := as) (rest := st) (C := M2.1.cls) (b := E.2.2.1 k) hX.1 hc ⟨callB_of (Ts := rugd) as.length ht (fun w hw => ?_) rfl rfl rfl (ht _ (ru_gd l3 rfl)) (ht _ (ru_gd l1 rfl)) l5 ⟨hdd, ?_⟩, ht _ (ru_gd l2 rfl), ht _ (ru_gd l2b rfl)⟩ ⟨ru_blind, va_recv hX.2.2.2.1 hP l7 (ruws_o ho), ru_pre (rurf E k :: as) hP hX.2.2.2.1 hX.2.2.2.2.1 hX.2.2.2.2.2 hS⟩ rfl rfl hl.1 rfl (lv_room hroom) hd ⟨Nat.le_refl _, Nat.le_refl _⟩) hS ?_
  · rcases List.mem_cons.mp hw with rfl | h
    · exact ⟨ru_gd l4 rfl, Or.inl rfl⟩
    · exact ru_good w h
  · show 8 + (M2.2.2.1 + 11) + 40 * d2 ≤ 40 * d
    omega
  · intro r A2 H1 locs1 hq hP1 hS1
    exact kk r A2 hq p e s m args below meth c H1 locs1 ls hX hP1 hS1 hl
theorem ru_acopy {idx k0 n0 k1 n1 : Nat} {sp dp n : Int32} {A2 : ruA} (hd : ruDec M pc (.invokestatic idx) 3 pc2) (hl : Cond.methodLink M.1.cls idx arraycopyName ∈ lw_tbl) (h1 : 1 ≤ d) (ho0 : rush k0 = some (.inr (0, n0))) (ho1 : rush k1 = some (.inr (0, n1))) (hroom : (st.map fun v => v.category).sum ≤ 8) (hv : rucpy A k0 n0 sp k1 n1 dp n = some A2) (kk : ruW E M d Q pc2 L st A2) : ruW E M d Q pc L (.int n :: .int dp :: rurf E k1 :: .int sp :: rurf E k0 :: st) A := by
  obtain ⟨hd, rfl⟩ := hd
  unfold rucpy at hv
  split at hv
  · cases hv
  · rename_i hc
    cases hv
    simp only [not_or] at hc
    obtain ⟨c1, c2, c3, c4, c5⟩ := hc
    intro p e s m args below meth c H locs ls hX hP hS hl2
    have ht := hX.1.2.2.2.2
    refine va_copyi hX.1.1 hX.1.2.1 (hX.1.2.2.1.trans hl2.1.symm) hX.1.2.2.2.1 (ht _ (ru_gd hl rfl)) (ht _ (ru_gd (ru_mt 752 (by decide +kernel)) rfl)) (ht _ (ru_gd (ru_mt 751 (by decide +kernel)) rfl)) (ht _ (ru_gd (ru_mt 16 (by decide +kernel)) rfl)) hX.2.2.2.1 hP (ruws_D A hX.2.2.2.2.2) hS k0 k1 0 0 (ruws_a ho0) (ruws_a ho1) (rutys_at E (by decide)) (rutys_at E (by decide)) rfl c1 c2 c3 (Nat.not_lt.mp c4) (Nat.not_lt.mp c5) (fun _ _ => rfl) h1 ?_ hd ?_
    · have e1 : nativeFrameWords "java/lang/System" "arraycopy" 5 + 11 ≤ 32 := by decide +kernel
      show _ ≤ 40 * d
      omega
    · intro H1 locs1 hP1 _ hS1
      rw [ruws_setA ho1 (fun _ => rfl)] at hP1
      exact kk p e s m args below meth c H1 locs1 ls hX hP1 hS1 hl2
end RUH
